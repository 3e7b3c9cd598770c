noncomputable section
/-! the law's rules: what is known on the machine, a call of one side -/
def e_inL (c k : Int) : Prop := 0 ≤ c ∧ ∃ kd ci n : Nat, elay[c.toNat]? = some (kd, ci, n) ∧ 0 ≤ k ∧ k < n
def e_all (u : eW) : Prop := ∀ c k, kn1 (u c k)
theorem kn1.okz {z : Int} (h : kn1 z) : e_okz z = true := e_okz_of h
theorem kn1.of_okz {z : Int} (h : e_okz z = true) : kn1 z := by
  unfold e_okz at h
  simp only [Bool.and_eq_true, decide_eq_true_eq] at h
  unfold kn1
  omega
section E49u
variable {ad : List Nat} {tys : List (ClassId × FieldType)} {u u' : eW} {ws : va_W}
theorem e_cell_eq {y : eY} {g g' : Int → Int} {e : va_E} (h : e_cell eft cls ad tys y g e) (he : ∀ k : Nat, k < y.2.2 → g' k = g k) : e_cell eft cls ad tys y g' e := by
  obtain ⟨kd, ci, n⟩ := y
  unfold e_cell at h ⊢
  split at h
  · rename_i h0
    simp only at h0
    subst h0
    obtain ⟨fs, g1, g2, g3⟩ := h
    exact ⟨fs, g1, g2, fun k hk => by obtain ⟨v, v1, v2⟩ := g3 k hk; exact ⟨v, v1, by rw [he k hk]; exact v2⟩⟩
  · rename_i h0
    simp only at h0
    subst h0
    obtain ⟨t0, cA, f, g1, g2, g3, g4⟩ := h
    exact ⟨t0, cA, f, g1, g2, g3, fun k hk => by rw [he k hk]; exact g4 k hk⟩
  · rename_i h0
    simp only at h0
    subst h0
    obtain ⟨t0, cA, f, g1, g2, g3, g4⟩ := h
    exact ⟨t0, cA, f, g1, g2, g3, fun k hk => by rw [he k hk]; exact g4 k hk⟩
  · rename_i h0
    simp only at h0
    subst h0
    obtain ⟨t0, cA, f, g1, g2, g3, g4⟩ := h
    exact ⟨t0, cA, f, g1, g2, g3, fun k hk => by rw [he k hk]; exact g4 k hk⟩
  · rename_i h0
    simp only at h0
    subst h0
    obtain ⟨t0, cA, r, f, g0, g1, g2, g3, g4⟩ := h
    exact ⟨t0, cA, r, f, g0, g1, g2, g3, fun k hk => by rw [he k hk]; exact g4 k hk⟩
  · rename_i h0
    simp only at h0
    subst h0
    obtain ⟨t0, cA, f, g1, g2, g3, g4⟩ := h
    exact ⟨t0, cA, f, g1, g2, g3, fun k hk => by rw [he k hk]; exact g4 k hk⟩
  · exact h.elim
theorem e_world_eq (h : e_world eft cls elay ad tys u ws) (he : ∀ c k, e_inL c k → u' c k = u c k) : e_world eft cls elay ad tys u' ws :=
  ⟨h.1, h.2.1, fun j y q hy hq => e_cell_eq (h.2.2 j y q hy hq) (fun k hk => he j k ⟨by omega, y.1, y.2.1, y.2.2, hy, by omega, by omega⟩)⟩
theorem e_slot.kn {fk : Nat} {z : Int} {v : Value} (had : ad.length ≤ 400) (h : e_slot ad fk z v) : kn1 z := by
  unfold e_slot at h
  split at h
  · obtain ⟨n, -, e⟩ := h
    have a := Int32.le_toInt n
    have b := Int32.toInt_le n
    rw [e] at a b
    exact ⟨a, b⟩
  · unfold kn1
    rcases h with ⟨rfl, -⟩ | ⟨h0, a, h1, -⟩
    · decide
    · have := (List.getElem?_eq_some_iff.mp h1).1
      omega
theorem kn1_32 {n : Int32} {z : Int} (e : n.toInt = z) : kn1 z := by
  have a := Int32.le_toInt n
  have b := Int32.toInt_le n
  rw [e] at a b
  exact ⟨a, b⟩
/-- on the machine every number of the cells is known -/
theorem e_world.kn (h : e_world eft cls elay ad tys u ws) (had : ad.length ≤ 400) : ∀ c k, e_inL c k → kn1 (u c k) := fun c k hc => by
  obtain ⟨c0, kd, ci, n, hy, k0, k1⟩ := hc
  obtain ⟨q, -, hq⟩ := h.q hy
  have ec : ((c.toNat : Nat) : Int) = c := by omega
  have ek : ((k.toNat : Nat) : Int) = k := by omega
  rw [ec] at hq
  rw [← ek]
  have hk : k.toNat < n := by omega
  unfold e_cell at hq
  split at hq
  · obtain ⟨fs, -, -, g3⟩ := hq
    obtain ⟨v, -, v2⟩ := g3 k.toNat hk
    exact v2.kn had
  · obtain ⟨t0, cA, f, -, -, -, g4⟩ := hq
    exact kn1_32 (g4 k.toNat hk)
  · obtain ⟨t0, cA, f, -, -, -, g4⟩ := hq
    exact kn1_32 (g4 k.toNat hk)
  · obtain ⟨t0, cA, f, -, -, -, g4⟩ := hq
    exact kn1_32 (g4 k.toNat hk)
  · obtain ⟨t0, cA, r, f, -, -, -, -, g4⟩ := hq
    exact (g4 k.toNat hk).kn had
  · obtain ⟨t0, cA, f, -, -, -, g4⟩ := hq
    exact (g4 k.toNat hk).kn had
  · exact hq.elim
end E49u
/-- one side alone is known -/
def e_PB (B : Int → Prop) (u : eW) : eW := fun c k => @ite Int (B c) (Classical.propDecidable _) (u c k) 2147483648
theorem e_PB_in {B : Int → Prop} {u : eW} {c k : Int} (h : B c) : e_PB B u c k = u c k := if_pos h
theorem e_PB_no {B : Int → Prop} {u : eW} {c k : Int} (h : ¬ B c) : e_PB B u c k = 2147483648 := if_neg h
theorem e_PB_rf (B : Int → Prop) (u : eW) : e_rf (e_PB B u) u := fun c k h => by
  by_cases hc : B c
  · exact (e_PB_in hc).symm
  · rw [e_PB_no hc] at h
    exact absurd h (by decide)
theorem e_wB.pb {B : Int → Prop} {u : eW} (h : e_wB eft elay B u) : e_wB eft elay B (e_PB B u) := by
  refine ⟨fun c k hc hr => ?_, fun c k ci n hc hl h0 h1 => ?_⟩
  · rw [e_PB_in hc]
    exact h.1 c k hc hr
  · rw [e_PB_in hc]
    exact h.2 c k ci n hc hl h0 h1
/-- nothing stands beside the cells -/
def e_dz (c k : Int) : Int := if c = 275 ∧ k < 0 then 276 else 0
theorem e_dz_kn (c k : Int) : kn1 (e_dz c k) := by
  unfold e_dz kn1
  split <;> decide
def e_z0 (u : eW) : Prop := ∀ c k, 0 ≤ c → c ≠ 280 → ¬ e_inL c k → u c k = e_dz c k
theorem e_z0.out {c k : Int} (h0 : 0 ≤ c) (h1 : c ≠ 280) (h : ¬ e_inL c k) : e_out elay c k := ⟨h0, h1, fun kd cl n hy => by
  by_cases q : k < 0 ∨ (n : Int) ≤ k
  · exact q
  · exact absurd ⟨h0, kd, cl, n, hy, by omega, by omega⟩ h⟩
/-- what a call of one side leaves -/
def e_Lf (B : Int → Prop) (u w1 v : eW) : Prop := (∀ c k, ¬ B c → w1 c k = 2147483648) ∧ e_rf w1 (e_PB B v) ∧ (∀ c k, ¬ B c → v c k = u c k) ∧ e_wB eft elay B v ∧ e_all v ∧ e_z0 v
section E49v
variable {ad : List Nat} {ce sl : Nat} {p : Program} {l : Launch} {e : Env} {R : Room} {s : State} {m : MethodId} {args : Array Value} {below : List Frame} {meth : Method} {c : Code} {D : va_G} {A : Nat → Prop} {H0 : Heap} {Q : State → Prop}
theorem e_Good.like {nL pc : Nat} {l0 : eL} {st : List eV} {u u' : eW} (he : ∀ c k, e_inL c k → u' c k = u c k) (h : e_Good eft cls elay ad ce sl nL p l e R s m args below meth c D A H0 Q (pc, l0, st, u')) : e_Good eft cls elay ad ce sl nL p l e R s m args below meth c D A H0 Q (pc, l0, st, u) := fun ls stk H locs hI => by
  obtain ⟨lv, ws, tys, h1, h2, h3, h4, h5⟩ := hI
  exact h ls stk H locs ⟨lv, ws, tys, h1, h2, h3, e_world_eq h4 he, h5⟩
theorem e_Good.kn {nL pc : Nat} {l0 : eL} {st : List eV} {u : eW} (had : ad.length ≤ 400) (h : (∀ c k, e_inL c k → kn1 (u c k)) → e_Good eft cls elay ad ce sl nL p l e R s m args below meth c D A H0 Q (pc, l0, st, u)) : e_Good eft cls elay ad ce sl nL p l e R s m args below meth c D A H0 Q (pc, l0, st, u) := fun ls stk H locs hI => by
  have hI2 := hI
  obtain ⟨lv, ws, tys, h1, h2, h3, h4, h5⟩ := hI
  exact h (h4.kn had) ls stk H locs hI2
set_option maxHeartbeats 1000000 in
theorem law_call {code : Nat → Nat → eE} (hT : e_TabR 20 eft cls elay eI code l) (hK : e_Alk elay code) (hN : e_InT eft elay code) {B : Int → Prop} (hB : e_BB B) (had : ad.length ≤ 400) {M' na pc d : Nat} {st : List eV} {l0 : eL} {u : eW} {Q' : List eV → eW → Prop}
    (C : x_Cx (xm_b (eI 0)) (xm_y (eI 0)).cls (xm_l (eI 0)) (xm_y (eI 0)).name (xm_c (eI 0)) (xm_s (eI 0)) p R s m args meth c) (hce : ce ≤ xm_c (eI 0)) (hsl : sl ≤ xm_s (eI 0)) (hd : d + 1 ≤ R.frames) (hdl : 64 * (d + 1) ≤ R.locals) (hA : ∀ q : Nat, H0.size ≤ q → A q)
    (hE : x_Cl (xm_b (eI 0)) (xm_y (eI 0)).cls (xm_l (eI 0)) (xm_y (eI 0)).name (xm_c (eI 0)) (xm_s (eI 0)) pc (eI M') na) (hb : e_may 20 elay d M' na (eI M') st (st.take na).reverse (st.drop na) = true)
    (hu : e_wB eft elay B u) (hall : e_all u) (hz : e_z0 u) (hargs : ∀ x ∈ st.take na, e_vB B x)
    (hok : e_Ok 20 elay code eI d M' (0, e_ent 0 (st.take na).reverse, [], e_PB B u) Q')
    (hgo : ∀ r w1 v, Q' r w1 → e_Lf B u w1 v → e_Good eft cls elay ad ce sl (xm_l (eI 0)) p l e R s m args below meth c D A H0 Q (pc + 3, l0, r ++ st.drop na, v)) : e_Good eft cls elay ad ce sl (xm_l (eI 0)) p l e R s m args below meth c D A H0 Q (pc, l0, st, u) := by
  have hl : elay.length ≤ 357 := by decide +kernel
  have hbb := hb
  unfold e_may at hbb
  simp only [Bool.and_eq_true] at hbb
  have hen : ∀ q ∈ e_ent 0 (st.take na).reverse, e_vB B q.2 := fun q hq => hargs _ (List.mem_reverse.mp (e_ent_mem _ _ q hq))
  have hno : ∀ x ∈ ([] : List eV), e_vB B x := fun x hx => absurd hx List.not_mem_nil
  have k1 := e_Ok.inside hl hN hB hok ⟨hen, hno, hu.pb⟩
  have k2 := e_Ok.more hK (e_ent_nd (st.take na).reverse 0) (e_PB_rf B u) k1
  have k3 := e_Ok.inside hl hN hB k2 ⟨hen, hno, hu⟩
  have k4 := e_Ok.out hK k3
  obtain ⟨r, v0, ⟨⟨⟨w1, ⟨q1, q2, q3⟩, q4⟩, q5, q6⟩, q7⟩, hMet⟩ := e_Ok.metR hT (Nat.le_of_ble_eq_true hbb.1) (Nat.le_of_ble_eq_true hbb.2.2.2.2.1) k4 (e_rf.refl u)
  refine e_callR hT (M := 0) (M' := M') (t := (pc, l0, st, u)) hE hb hMet C hce hsl hd hdl hA (fun u' hu' => ?_)
  replace hu' : e_rf v0 u' := hu'
  refine e_Good.kn had (fun hk => ?_)
  have ev : ∀ c k : Int, ∃ z : Int, (e_inL c k → z = u' c k) ∧ (¬ e_inL c k → (e_okz (v0 c k) = true → z = v0 c k) ∧ (e_okz (v0 c k) = false → z = 0)) := fun c k => by
    by_cases h : e_inL c k
    · exact ⟨u' c k, fun _ => rfl, fun n => absurd h n⟩
    · cases ho : e_okz (v0 c k) with
      | true => exact ⟨v0 c k, fun y => absurd y h, fun _ => ⟨fun _ => rfl, fun y => by cases y⟩⟩
      | false => exact ⟨0, fun y => absurd y h, fun _ => ⟨fun y => (by cases y), fun _ => rfl⟩⟩
  let v : eW := fun c k => (ev c k).choose
  have v1 : ∀ c k, e_inL c k → v c k = u' c k := fun c k h => (ev c k).choose_spec.1 h
  have v2 : ∀ c k, ¬ e_inL c k → e_okz (v0 c k) = true → v c k = v0 c k := fun c k h y => ((ev c k).choose_spec.2 h).1 y
  have v3 : ∀ c k, ¬ e_inL c k → e_okz (v0 c k) = false → v c k = 0 := fun c k h y => ((ev c k).choose_spec.2 h).2 y
  clear_value v
  have hv0 : e_rf v0 v := fun c k h => by
    by_cases hc : e_inL c k
    · rw [v1 c k hc]
      exact hu' c k h
    · exact v2 c k hc h
  have hall' : e_all v := fun c k => by
    by_cases hc : e_inL c k
    · rw [v1 c k hc]
      exact hk c k hc
    · cases ho : e_okz (v0 c k) with
      | true =>
        rw [v2 c k hc ho]
        exact kn1.of_okz ho
      | false =>
        rw [v3 c k hc ho]
        unfold kn1
        decide
  refine e_Good.like v1 (hgo r w1 v q1 ⟨fun c k hc => (q3 c k hc).trans (e_PB_no hc), fun c k h => ?_, fun c k hc => ?_, ⟨fun c k hc hr => ?_, fun c k ci n hc hy h0 h1 => ?_⟩, hall', fun c k h0 h1 h2 => ?_⟩)
  · by_cases hc : B c
    · rw [e_PB_in hc]
      exact (q4.trans hv0) c k h
    · have e1 : w1 c k = 2147483648 := (q3 c k hc).trans (e_PB_no hc)
      rw [e1] at h
      exact absurd h (by decide)
  · have e1 : v0 c k = u c k := q6 c k hc
    have e2 := hv0 c k (by rw [e1]; exact (hall c k).okz)
    exact e2.trans e1
  · have q := q5.1 c k hc hr
    have ok : e_okz (v0 c k) = true := kn1.okz (by
      unfold kn1
      rcases q with q | q | q
      · omega
      · rcases hB with hB | hB
        · have := (hB _).mp q
          omega
        · have := (hB _).mp q
          omega
      · omega)
    rw [hv0 c k ok]
    exact q
  · have q := q5.2 c k ci n hc hy h0 h1
    have ok : e_okz (v0 c k) = true := kn1.okz (by unfold kn1; omega)
    rw [hv0 c k ok]
    exact q
  · have e1 : v0 c k = u c k := q7 c k (e_z0.out h0 h1 h2)
    have e2 : u c k = e_dz c k := hz c k h0 h1 h2
    rw [e2] at e1
    rw [hv0 c k (by rw [e1]; exact (e_dz_kn c k).okz)]
    exact e1
/-- the law's own steps -/
theorem law_gs {L : Nat} {xs : Nat → Int32} {b : Nat} (hL : L ≤ 3072) (C : x_Cx (xm_b (eI 0)) (xm_y (eI 0)).cls (xm_l (eI 0)) (xm_y (eI 0)).name (xm_c (eI 0)) (xm_s (eI 0)) p R s m args meth c) (hce : ce ≤ xm_c (eI 0)) (hsl : sl ≤ xm_s (eI 0)) (hA : ∀ q : Nat, H0.size ≤ q → A q) (hX : va_X b L xs s H0) (hbl : b < H0.size) (hbA : ¬ A b) (had : ad[362]? = some b) : e_GS (codeL L xs) 0 (fun t => e_Good eft cls elay ad ce sl (xm_l (eI 0)) p l e R s m args below meth c D A H0 Q t) := fun t t' f a b' hc hf hg => by
  have hE := codeL_ok L xs t.1
  rw [hc] at hE
  rcases hE with hE | ⟨rfl, d⟩ | ⟨rfl, d⟩
  · exact hE C hce hsl hA t t' rfl hf hg
  · unfold e_S at hf
    cases hgt : g_scl L (t.1 + 1) t.2.2.1 with
    | none => rw [hgt] at hf; cases hf
    | some q =>
      rw [hgt] at hf
      have hf' : some (q.1, t.2.1, q.2, t.2.2.2) = some t' := hf
      cases hf'
      intro ls stk H locs hI
      obtain ⟨lv, ws, tys, h1, h2, h3, h4, h5, h6, h7, h8⟩ := hI
      unfold g_scl at hgt
      split at hgt
      · rename_i j r hst
        split at hgt
        · rename_i hj
          cases hgt
          subst hj
          rw [hst] at h3
          match stk, h3 with
          | v :: rest, h3 =>
            have e := e_refE h3.1 had
            subst e
            refine va_slen C.1.1 C.1.2.1 hX hbl hbA h8 d (hg ls (.int (Int32.ofNat L) :: rest) H locs ⟨lv, ws, tys, h1, h2, ⟨⟨_, rfl, ?_⟩, h3.2⟩, h4, h5, h6, h7, h8⟩)
            exact Int32.toInt_ofNat_of_lt (by omega)
        · cases hgt
      · cases hgt
  · unfold e_S at hf
    cases hgt : g_scd L xs (t.1 + 1) t.2.2.1 with
    | none => rw [hgt] at hf; cases hf
    | some q =>
      rw [hgt] at hf
      have hf' : some (q.1, t.2.1, q.2, t.2.2.2) = some t' := hf
      cases hf'
      intro ls stk H locs hI
      obtain ⟨lv, ws, tys, h1, h2, h3, h4, h5, h6, h7, h8⟩ := hI
      unfold g_scd at hgt
      split at hgt
      · rename_i i j r hst
        split at hgt
        · rename_i hj
          cases hgt
          obtain ⟨rfl, i0, i1⟩ := hj
          rw [hst] at h3
          match stk, h3 with
          | v1 :: v :: rest, h3 =>
            obtain ⟨z, rfl, rfl⟩ := e_int h3.1
            have e := e_refE h3.2.1 had
            subst e
            exact va_sld C.1.1 C.1.2.1 hX hbl hbA h8 (i := z) (vp_in_iff.mpr ⟨by omega, by omega⟩) d (hg ls (.int (xs z.toNatClampNeg) :: rest) H locs ⟨lv, ws, tys, h1, h2, ⟨⟨_, rfl, rfl⟩, h3.2.2⟩, h4, h5, h6, h7, h8⟩)
        · cases hgt
      · cases hgt
end E49v
end
