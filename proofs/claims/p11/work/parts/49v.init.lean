noncomputable section
/-! behind the constructors: what the picture says of the numbers -/
def fitR (r : Int × Int) (x : xV) : Bool := match x.1 with
  | 0 => decide (r.1 ≤ x.2.1) && decide (x.2.2 ≤ r.2)
  | 1 => decide (r.1 ≤ x.2.1) && decide (x.2.1 ≤ r.2)
  | 2 => decide (r.1 ≤ -1) && decide (-1 ≤ r.2)
  | _ => false
theorem fitR_ok {r : Int × Int} {x : xV} {z : Int} (h : fitR r x = true) (hz : e_of x z) : r.1 ≤ z ∧ z ≤ r.2 := by
  unfold fitR at h
  unfold e_of at hz
  split at h
  · rename_i e
    rw [e] at hz
    simp only [Bool.and_eq_true, decide_eq_true_eq] at h
    simp only at hz
    omega
  · rename_i e
    rw [e] at hz
    simp only [Bool.and_eq_true, decide_eq_true_eq] at h
    simp only at hz
    omega
  · rename_i e
    rw [e] at hz
    simp only [Bool.and_eq_true, decide_eq_true_eq] at h
    simp only at hz
    omega
  · cases h
def z0R (r : Int × Int) : Bool := decide (r.1 ≤ 0) && decide (0 ≤ r.2)
def noR (r : Int × Int) : Bool := decide (r.2 < r.1)
theorem x_get_or {d : xV} : ∀ (o : xA) (k : Nat), x_get d o k = d ∨ ∃ q ∈ o, q.1 = k ∧ x_get d o k = q.2
  | [], k => Or.inl rfl
  | q :: r, k => by
    rw [x_get_cons]
    cases hb : Nat.beq q.1 k with
    | true => exact Or.inr ⟨q, List.mem_cons_self, Nat.eq_of_beq_eq_true hb, rfl⟩
    | false =>
      rcases x_get_or (d := d) r k with h | ⟨p, h1, h2, h3⟩
      · exact Or.inl h
      · exact Or.inr ⟨p, List.mem_cons_of_mem _ h1, h2, h3⟩
/-- the contents behind the constructors -/
def i0 (w u : eW) : Prop := (∀ (j : Nat) (c : xC), w_18[j]? = some c → ∀ k : Nat, k < c.2.2.1 → e_of (x_get c.2.2.2.1 c.2.2.2.2 k) (w j k)) ∧ (∀ c k, e_inL c k → u c k = w c k) ∧ ∀ c k, ¬ e_inL c k → u c k = e_dz c k
theorem w18_lay : w_18.map (fun c => (c.1, c.2.1, c.2.2.1)) = elay := by decide +kernel
theorem i0.at {w u : eW} (h : i0 w u) {j : Nat} {c : xC} (hc : w_18[j]? = some c) {k : Int} (k0 : 0 ≤ k) (k1 : k < c.2.2.1) : e_of (x_get c.2.2.2.1 c.2.2.2.2 k.toNat) (u j k) := by
  have ek : ((k.toNat : Nat) : Int) = k := by omega
  have hl : elay[j]? = some (c.1, c.2.1, c.2.2.1) := by
    rw [← w18_lay, List.getElem?_map, hc]
    rfl
  have q := h.1 j c hc k.toNat (by omega)
  rw [ek] at q
  rw [h.2.1 j k ⟨by omega, c.1, c.2.1, c.2.2.1, by rw [Int.toNat_natCast]; exact hl, k0, k1⟩]
  exact q
theorem i0.off {w u : eW} (h : i0 w u) {j : Nat} {c : xC} (hc : w_18[j]? = some c) {k : Int} (hk : k < 0 ∨ (c.2.2.1 : Int) ≤ k) (hj : j ≠ 275 ∨ 0 ≤ k) : u j k = 0 := by
  have z : e_dz j k = 0 := if_neg (by omega)
  rw [← z]
  refine h.2.2 j k (fun q => ?_)
  obtain ⟨-, kd, ci, n, h1, h2, h3⟩ := q
  have hl : elay[j]? = some (c.1, c.2.1, c.2.2.1) := by
    rw [← w18_lay, List.getElem?_map, hc]
    rfl
  rw [Int.toNat_natCast, hl] at h1
  cases h1
  omega
/-- a number that the picture has exactly -/
def pv (j k : Nat) : Option Int := match w_18[j]? with
  | some c => bif Nat.ble (k + 1) c.2.2.1 then (match x_get c.2.2.2.1 c.2.2.2.2 k with
    | (0, a, b) => bif decide (a = b) then some a else none
    | (1, a, _) => some a
    | (2, _, _) => some (-1)
    | _ => none) else none
  | none => none
theorem i0.vl {w u : eW} (h : i0 w u) {j k : Nat} {z : Int} (e : pv j k = some z) : u j k = z := by
  unfold pv at e
  split at e
  · rename_i c hc
    cases hb : Nat.ble (k + 1) c.2.2.1 with
    | false => rw [hb] at e; cases e
    | true =>
      rw [hb] at e
      simp only [cond_true] at e
      have hk := Nat.le_of_ble_eq_true hb
      have q := h.at hc (k := (k : Int)) (by omega) (by omega)
      rw [Int.toNat_natCast] at q
      split at e
      · rename_i a b hx
        rw [hx] at q
        cases hd : decide (a = b) with
        | false => rw [hd] at e; cases e
        | true =>
          rw [hd] at e
          cases e
          have := of_decide_eq_true hd
          obtain ⟨q1, q2⟩ := q
          simp only at q1 q2
          omega
      · rename_i a b hx
        rw [hx] at q
        cases e
        exact q
      · rename_i a b hx
        rw [hx] at q
        cases e
        exact q
      · cases e
  · cases e
/-- one type for a whole row -/
def chU (r : Int × Int) (c : xC) : Bool := noR r || (z0R r && (fitR r c.2.2.2.1 && c.2.2.2.2.all (fun q => fitR r q.2)))
theorem chU_ok {w u : eW} (h : i0 w u) {j : Nat} {c : xC} (hc : w_18[j]? = some c) {r : Int × Int} (hr : chU r c = true) (hl : r.1 ≤ r.2) (hj : j ≠ 275) (k : Int) : r.1 ≤ u j k ∧ u j k ≤ r.2 := by
  unfold chU noR z0R at hr
  simp only [Bool.or_eq_true, Bool.and_eq_true, decide_eq_true_eq] at hr
  rcases hr with hr | ⟨⟨z1, z2⟩, f1, f2⟩
  · omega
  · by_cases hk : k < 0 ∨ (c.2.2.1 : Int) ≤ k
    · rw [h.off hc hk (Or.inl hj)]
      omega
    · exact fitR_ok (e_get_all (P := fun x => fitR r x = true) f1 (fun q hq => List.all_eq_true.mp f2 q hq) k.toNat) (h.at hc (by omega) (by omega))
/-- types by places -/
def chL (l : List (Int × Int)) (c : xC) : Bool := (List.range l.length).all (fun k => noR (x_nthP l k) || bif Nat.ble (k + 1) c.2.2.1 then fitR (x_nthP l k) (x_get c.2.2.2.1 c.2.2.2.2 k) else z0R (x_nthP l k))
theorem chL_ok {w u : eW} (h : i0 w u) {j : Nat} {c : xC} (hc : w_18[j]? = some c) {l : List (Int × Int)} (hr : chL l c = true) {k : Int} (k0 : 0 ≤ k) (hl : (x_nthP l k.toNat).1 ≤ (x_nthP l k.toNat).2) : (x_nthP l k.toNat).1 ≤ u j k ∧ u j k ≤ (x_nthP l k.toNat).2 := by
  by_cases hk : k.toNat < l.length
  · have q := List.all_eq_true.mp hr k.toNat (List.mem_range.mpr hk)
    simp only [Bool.or_eq_true] at q
    rcases q with q | q
    · unfold noR at q
      have := of_decide_eq_true q
      omega
    · cases hb : Nat.ble (k.toNat + 1) c.2.2.1 with
      | true =>
        rw [hb] at q
        have hk2 := Nat.le_of_ble_eq_true hb
        exact fitR_ok q (h.at hc k0 (by omega))
      | false =>
        rw [hb] at q
        have hk2 : ¬ k.toNat + 1 ≤ c.2.2.1 := fun y => by rw [Nat.ble_eq_true_of_le y] at hb; cases hb
        rw [h.off hc (k := k) (by omega) (Or.inr k0)]
        unfold z0R at q
        simp only [cond_false, Bool.and_eq_true, decide_eq_true_eq] at q
        exact q
  · have e : x_nthP l k.toNat = (1, 0) := by
      unfold x_nthP
      rw [x_at_eq, List.getElem?_eq_none (by omega)]
    rw [e] at hl
    exact absurd hl (by decide)
theorem w18_len : w_18.length = 357 := by decide +kernel
theorem w18_get {c : Int} (c0 : 0 ≤ c) (c1 : c ≤ 356) : ∃ x, w_18[c.toNat]? = some x := by
  have h : c.toNat < w_18.length := by rw [w18_len]; omega
  exact ⟨w_18[c.toNat], List.getElem?_eq_getElem h⟩
/-! references and bytes keep to their side -/
def chS (lo hi : Int) (x : xV) : Bool := match x.1 with
  | 1 => decide (lo ≤ x.2.1) && decide (x.2.1 ≤ hi)
  | 2 => true
  | _ => false
def chB (lo hi : Int) (c : xC) : Bool := match c.1 with
  | 0 => (List.range c.2.2.1).all (fun k => Nat.beq (eft c.2.1 k) 0 || chS lo hi (x_get c.2.2.2.1 c.2.2.2.2 k))
  | 2 => chU (-128, 127) c
  | 5 => chS lo hi c.2.2.2.1 && c.2.2.2.2.all (fun q => chS lo hi q.2)
  | 6 => chS lo hi c.2.2.2.1 && c.2.2.2.2.all (fun q => chS lo hi q.2)
  | _ => true
theorem chS_ok {lo hi z : Int} {x : xV} (h : chS lo hi x = true) (hz : e_of x z) : z = -1 ∨ (lo ≤ z ∧ z ≤ hi) := by
  unfold chS at h
  unfold e_of at hz
  split at h
  · rename_i e
    rw [e] at hz
    simp only [Bool.and_eq_true, decide_eq_true_eq] at h
    simp only at hz
    omega
  · rename_i e
    rw [e] at hz
    exact Or.inl hz
  · cases h
theorem chB_ok {w u : eW} (h : i0 w u) {lo hi : Int} {B : Int → Prop} (hB : ∀ c, B c ↔ (lo ≤ c ∧ c ≤ hi)) (l0 : 0 ≤ lo) (l1 : hi ≤ 356) (hc : ∀ j : Nat, lo ≤ (j : Int) → (j : Int) ≤ hi → ∀ c, w_18[j]? = some c → chB lo hi c = true) : e_wB eft elay B u := by
  refine ⟨fun c k bc hr => ?_, fun c k ci n bc hy k0 k1 => ?_⟩
  · have b := (hB c).mp bc
    obtain ⟨x, hx⟩ := w18_get (c := c) (by omega) (by omega)
    have ec : ((c.toNat : Nat) : Int) = c := by omega
    have q := hc c.toNat (by omega) (by omega) x hx
    obtain ⟨kd, ci, n, h1, ⟨k0, k1⟩, h2⟩ := hr
    rw [← w18_lay, List.getElem?_map, hx] at h1
    cases h1
    have v := h.at hx (k := k) k0 k1
    rw [ec] at v
    have key : u c k = -1 ∨ (lo ≤ u c k ∧ u c k ≤ hi) := by
      unfold chB at q
      rcases h2 with ⟨g, g2⟩ | g | g
      · rw [g] at q
        have q2 := List.all_eq_true.mp q k.toNat (List.mem_range.mpr (by omega))
        simp only [Bool.or_eq_true] at q2
        rcases q2 with q2 | q2
        · exact absurd (Nat.eq_of_beq_eq_true q2) g2
        · exact chS_ok q2 v
      · rw [g] at q
        simp only [Bool.and_eq_true] at q
        exact chS_ok (e_get_all (P := fun x => chS lo hi x = true) q.1 (fun y hy => List.all_eq_true.mp q.2 y hy) k.toNat) v
      · rw [g] at q
        simp only [Bool.and_eq_true] at q
        exact chS_ok (e_get_all (P := fun x => chS lo hi x = true) q.1 (fun y hy => List.all_eq_true.mp q.2 y hy) k.toNat) v
    exact key.imp id (fun y => Or.inl ((hB _).mpr y))
  · have b := (hB c).mp bc
    obtain ⟨x, hx⟩ := w18_get (c := c) (by omega) (by omega)
    have ec : ((c.toNat : Nat) : Int) = c := by omega
    have q := hc c.toNat (by omega) (by omega) x hx
    rw [← w18_lay, List.getElem?_map, hx] at hy
    simp only [Option.map_some, Option.some.injEq, Prod.mk.injEq] at hy
    have n5 : c.toNat ≠ 275 := fun e5 => by
      have z : (w_18[275]?).map (fun x => x.1) = some 0 := by decide +kernel
      rw [e5] at hx
      rw [hx] at z
      have z2 : some x.1 = some 0 := z
      rw [hy.1] at z2
      cases z2
    unfold chB at q
    rw [hy.1] at q
    have r := chU_ok h hx q (by decide) n5 k
    rw [ec] at r
    exact r
theorem chB_k : ∀ j : Nat, j < 275 → (match w_18[j]? with | some c => chB 0 274 c | none => true) = true := by decide +kernel
theorem chB_m : ∀ j : Nat, j < 357 → 275 ≤ j → (match w_18[j]? with | some c => chB 275 356 c | none => true) = true := by decide +kernel
theorem i0.bk {w u : eW} (h : i0 w u) {B : Int → Prop} (hB : ∀ c, B c ↔ (0 ≤ c ∧ c ≤ 274)) : e_wB eft elay B u := chB_ok h hB (by decide) (by decide) (fun j _ h1 c hc => by
  have q := chB_k j (by omega)
  rw [hc] at q
  exact q)
theorem i0.bm {w u : eW} (h : i0 w u) {B : Int → Prop} (hB : ∀ c, B c ↔ (275 ≤ c ∧ c ≤ 356)) : e_wB eft elay B u := chB_ok h hB (by decide) (by decide) (fun j h0 h1 c hc => by
  have q := chB_m j (by omega) (by omega)
  rw [hc] at q
  exact q)
/-! the model's types -/
def n0P (x : Int × Int) : Prop := x.1 ≤ x.2 → x.1 ≤ 0 ∧ 0 ≤ x.2
theorem n0P.nth : ∀ {l : List (Int × Int)} (_ : ∀ x ∈ l, n0P x) (k : Nat), n0P (x_nthP l k) := fun {l} h k => by
  unfold x_nthP
  split
  · rename_i x hx
    rw [x_at_eq] at hx
    exact h x (List.mem_of_getElem? hx)
  · intro q; exact absurd q (by decide)
theorem n0P.ite {c : Prop} [Decidable c] {a b : Int × Int} (ha : n0P a) (hb : n0P b) : n0P (if c then a else b) := by
  by_cases h : c
  · rw [if_pos h]; exact ha
  · rw [if_neg h]; exact hb
theorem n0P.now (k : Int) : n0P (nowR k) := by
  have h0 : ∀ x ∈ nHead, n0P x := by unfold n0P; decide +kernel
  have h1 : ∀ x ∈ nArm, n0P x := by unfold n0P; decide +kernel
  have ha : n0P (-2147483648, 2147483647) := by unfold n0P; decide
  have ht : ∀ f, n0P (nTask f) := fun f => by
    refine n0P.ite (n0P.nth ?_ _) (n0P.ite (n0P.ite ?_ ?_) ha) <;> (unfold n0P; decide +kernel)
  refine n0P.ite (n0P.nth h0 _) (n0P.ite (n0P.nth h1 _) (n0P.ite ha (n0P.ite ?_ (n0P.ite ha (n0P.ite (ht _) (n0P.ite (n0P.ite ?_ ha) (n0P.ite (n0P.ite ?_ ?_) (n0P.ite (n0P.ite ha ?_) (n0P.ite ?_ (n0P.ite ha (n0P.ite ?_ ha))))))))))) <;> (unfold n0P; decide)
theorem ch276 : (match w_18[276]? with | some c => x_eqv c.2.2.2.1 (0, 0, 0) && c.2.2.2.2.all (fun q => fitR (nowR (q.1 : Int)) q.2) | none => false) = true := by decide +kernel
theorem chMf : (match w_18[275]? with | some c => chL mFld c && chL hFld c | none => false) = true := by decide +kernel
theorem chMa : ∀ n : Nat, n < 80 → (match w_18[n + 277]? with | some c => chU (x_nthP mArr n) c && chU (x_nthP hArr n) c | none => false) = true := by decide +kernel
theorem i0.now {w u : eW} (h : i0 w u) (k : Int) (hl : (nowR k).1 ≤ (nowR k).2) : (nowR k).1 ≤ u 276 k ∧ u 276 k ≤ (nowR k).2 := by
  have q := ch276
  split at q
  · rename_i c hc
    simp only [Bool.and_eq_true] at q
    have hd := x_eqv_ok q.1
    have z := n0P.now k hl
    by_cases hk : k < 0 ∨ (c.2.2.1 : Int) ≤ k
    · rw [show u 276 k = 0 from h.off (j := 276) hc hk (Or.inl (by decide))]
      exact z
    · have v := h.at (j := 276) hc (k := k) (by omega) (by omega)
      rcases x_get_or (d := c.2.2.2.1) c.2.2.2.2 k.toNat with e | ⟨p, h1, h2, h3⟩
      · rw [e, hd] at v
        have v1 : (0 : Int) ≤ u 276 k ∧ u 276 k ≤ 0 := v
        have e0 : u 276 k = 0 := by omega
        rw [e0]
        exact z
      · rw [h3] at v
        have f := List.all_eq_true.mp q.2 p h1
        rw [h2, show ((k.toNat : Nat) : Int) = k by omega] at f
        exact fitR_ok f v
  · cases q
theorem i0.mty {w u : eW} (h : i0 w u) : e_Has mTy u ∧ e_Has hTy u := by
  have q := chMf
  split at q
  · rename_i c hc
    simp only [Bool.and_eq_true] at q
    refine ⟨fun c' k hl => ?_, fun c' k hl => ?_⟩
    · unfold mTy at hl ⊢
      split at hl
      · by_cases e : c' = 275
        · subst e
          rw [if_pos rfl] at hl ⊢
          by_cases k0 : 0 ≤ k
          · exact chL_ok h (j := 275) hc q.1 k0 hl
          · rw [show k.toNat = 0 by omega] at hl ⊢
            have z : u 275 k = e_dz 275 k := h.2.2 275 k (fun q => by obtain ⟨-, kd, ci, n, -, q0, -⟩ := q; omega)
            rw [z, show e_dz 275 k = 276 from if_pos ⟨rfl, by omega⟩]
            decide
        · rw [if_neg e] at hl
          exact absurd hl (by decide)
      · rename_i hn
        have e : c' = 276 := by omega
        subst e
        exact h.now k hl
      · rename_i n hn
        by_cases n0 : n < 80
        · have r := chMa n n0
          split at r
          · rename_i c2 hc2
            simp only [Bool.and_eq_true] at r
            have v := chU_ok h (j := n + 277) hc2 r.1 hl (by omega) k
            rw [show ((n + 277 : Nat) : Int) = c' by omega] at v
            exact v
          · cases r
        · have e : x_nthP mArr n = (1, 0) := by
            unfold x_nthP
            rw [x_at_eq, List.getElem?_eq_none (by have : mArr.length = 80 := (by decide +kernel); omega)]
          rw [e] at hl
          exact absurd hl (by decide)
    · unfold hTy at hl ⊢
      split at hl
      · by_cases e : c' = 275
        · subst e
          rw [if_pos rfl] at hl ⊢
          by_cases k0 : 0 ≤ k
          · exact chL_ok h (j := 275) hc q.2 k0 hl
          · rw [show k.toNat = 0 by omega] at hl
            exact absurd hl (by decide)
        · rw [if_neg e] at hl
          exact absurd hl (by decide)
      · exact absurd hl (by decide)
      · rename_i n hn
        by_cases n0 : n < 80
        · have r := chMa n n0
          split at r
          · rename_i c2 hc2
            simp only [Bool.and_eq_true] at r
            have v := chU_ok h (j := n + 277) hc2 r.2 hl (by omega) k
            rw [show ((n + 277 : Nat) : Int) = c' by omega] at v
            exact v
          · cases r
        · have e : x_nthP hArr n = (1, 0) := by
            unfold x_nthP
            rw [x_at_eq, List.getElem?_eq_none (by have : hArr.length = 80 := (by decide +kernel); omega)]
          rw [e] at hl
          exact absurd hl (by decide)
  · cases q
theorem e_Has.pbm {ty : Int → Int → Int × Int} {u : eW} {B : Int → Prop} (h : e_Has ty u) (hn : ∀ c k, ¬ B c → ty c k = (1, 0)) : e_Has ty (e_PB B u) := fun c k hl => by
  by_cases hc : B c
  · rw [e_PB_in hc]
    exact h c k hl
  · rw [hn c k hc] at hl
    exact absurd hl (by decide)
end
