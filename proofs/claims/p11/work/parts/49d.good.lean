noncomputable section
/-! the rules for any G that is closed under steps and calls -/
def e_GS (code : Nat → Nat → eE) (M : Nat) (G : eS → Prop) : Prop := ∀ (t t' : eS) (f : eS → Option eS) (a b : Nat), code M t.1 = (0, f, a, b) → f t = some t' → G t' → G t
def e_GC (fd : Nat) (lay : List eY) (code : Nat → Nat → eE) (I : Nat → xM) (d M : Nat) (G : eS → Prop) : Prop := ∀ (t : eS) (f : eS → Option eS) (M' na : Nat) (Q' : List eV → eW → Prop), code M t.1 = (2, f, M', na) → e_may fd lay d M' na (I M') t.2.2.1 (t.2.2.1.take na).reverse (t.2.2.1.drop na) = true → e_Ok fd lay code I d M' (0, e_ent 0 (t.2.2.1.take na).reverse, [], t.2.2.2) Q' → (∀ r w, Q' r w → G (t.1 + 3, t.2.1, r ++ t.2.2.1.drop na, w)) → G t
section EEA
variable {fd : Nat} {ft : Nat → Nat → Nat} {lay : List eY} {code : Nat → Nat → eE} {I : Nat → xM} {d M k tg nx a b p n ci : Nat} {l : eL} {r : List eV} {w : eW} {Q' : List eV → eW → Prop} {G : eS → Prop}
theorem e_GS.step (hG : e_GS code M G) {a b : Nat} {t t' : eS} {f : eS → Option eS} (hc : code M t.1 = (0, f, a, b)) (hf : f t = some t') (h : G t') : G t := hG t t' f a b hc hf h
theorem e_GS.getr (hG : e_GS code M G) {c z : Int} (hc : code M p = (0, ei_getf ft lay ci k nx, a, b)) (hl : lay[c.toNat]? = some (0, ci, n)) (hk : Nat.ble (k + 1) n = true) (hf : ft ci k = 1) (hz : w c k = z) (h1 : 0 ≤ z ∧ z ≤ 2147483647) (h : G (nx, l, (1, z) :: r, w)) : G (p, l, (1, c) :: r, w) := by
  refine hG.step hc ?_ h
  subst hz
  unfold ei_getf
  simp only [hl, Nat.beq_refl, hk, e_okz_of (show _ from ⟨by omega, h1.2⟩), Bool.and_self, cond_true, hf, e_rd]
  rw [decide_eq_false (by omega)]
  rfl
theorem e_GS.getf (hG : e_GS code M G) {c z : Int} (hc : code M p = (0, ei_getf ft lay ci k nx, a, b)) (hl : lay[c.toNat]? = some (0, ci, n)) (hk : Nat.ble (k + 1) n = true) (hf : ft ci k = 0) (hz : w c k = z) (h1 : -2147483648 ≤ z ∧ z ≤ 2147483647) (h : G (nx, l, (0, z) :: r, w)) : G (p, l, (1, c) :: r, w) := by
  refine hG.step hc ?_ h
  subst hz
  unfold ei_getf
  simp only [hl, Nat.beq_refl, hk, e_okz_of h1, Bool.and_self, cond_true, hf]
  rfl
theorem e_GS.if1 (hG : e_GS code M G) {x : Int} (hc : code M p = (0, ei_if1 k tg nx, a, b)) (ht : x_cnd k x 0 → G (tg, l, r, w)) (hf : ¬ x_cnd k x 0 → G (nx, l, r, w)) : G (p, l, (0, x) :: r, w) := by
  by_cases h : x_cnd k x 0
  · exact hG.step hc (e_if1_t h) (ht h)
  · exact hG.step hc (e_if1_f h) (hf h)
theorem e_GS.if2 (hG : e_GS code M G) {x y : Int} (hc : code M p = (0, ei_if2 k tg nx, a, b)) (ht : x_cnd k x y → G (tg, l, r, w)) (hf : ¬ x_cnd k x y → G (nx, l, r, w)) : G (p, l, (0, y) :: (0, x) :: r, w) := by
  by_cases h : x_cnd k x y
  · exact hG.step hc (e_if2_t h) (ht h)
  · exact hG.step hc (e_if2_f h) (hf h)
theorem e_GS.ald (hG : e_GS code M G) {c i z : Int} {b' : Bool} {kd c' : Nat} (hc : code M p = (0, ei_ald lay b' nx, a, b)) (hl : lay[c.toNat]? = some (kd, c', n)) (hk : x_akd b' kd = true) (h0 : 0 ≤ i ∧ i < n) (hz : w c i = z) (h1 : -2147483648 ≤ z ∧ z ≤ 2147483647) (h : G (nx, l, (0, z) :: r, w)) : G (p, l, (0, i) :: (1, c) :: r, w) := by
  refine hG.step hc ?_ h
  subst hz
  unfold ei_ald
  simp only [hl, hk, decide_eq_true h0.1, decide_eq_true h0.2, e_okz_of h1, Bool.and_self, cond_true]
theorem e_GS.ast (hG : e_GS code M G) {c i x z : Int} {b' : Bool} {kd c' : Nat} (hc : code M p = (0, ei_ast lay b' nx, a, b)) (hl : lay[c.toNat]? = some (kd, c', n)) (hk : x_akd b' kd = true) (hz : e_nar kd x = some z) (h0 : 0 ≤ i ∧ i < n) (h : G (nx, l, r, e_up w c i z)) : G (p, l, (0, x) :: (0, i) :: (1, c) :: r, w) := by
  refine hG.step hc ?_ h
  unfold ei_ast
  simp only [hl, hz, hk, decide_eq_true h0.1, decide_eq_true h0.2, Bool.and_self, cond_true]
theorem e_GS.any (hG : e_GS code M G) {F : Int → Int → Option Int} {x y : Int} (hc : code M p = (0, ei_bin F nx, a, b)) (hF : ∃ z, F x y = some z ∧ -2147483648 ≤ z ∧ z ≤ 2147483647) (h : ∀ z, -2147483648 ≤ z → z ≤ 2147483647 → G (nx, l, (0, z) :: r, w)) : G (p, l, (0, y) :: (0, x) :: r, w) := by
  obtain ⟨z, h1, h2, h3⟩ := hF
  refine hG.step hc ?_ (h z h2 h3)
  show (match F x y with | some z => _ | none => none) = _
  rw [h1]
theorem e_GS.add (hG : e_GS code M G) {x y z : Int} (hc : code M p = (0, ei_bin eF_add nx, a, b)) (hz : x + y = z) (h1 : -2147483648 ≤ z ∧ z ≤ 2147483647) (h : G (nx, l, (0, z) :: r, w)) : G (p, l, (0, y) :: (0, x) :: r, w) := by
  refine hG.step hc ?_ h
  show some _ = some _
  rw [hz, e32_id h1.1 h1.2]
theorem e_GS.run (hG : e_GS code M G) {t t' : eS} (n : Nat) (h0 : e_steps code M n t = some t') (h : G t') : G t := by
  induction n generalizing t with
  | zero => cases h0; exact h
  | succ n ih =>
    unfold e_steps at h0
    split at h0
    · rename_i f a b hc
      split at h0
      · rename_i t1 hf
        exact hG.step hc hf (ih h0)
      · cases h0
    · cases h0
theorem e_GS.callV (hG : e_GC fd lay code I d M G) {M' na c n : Nat} {j : Int} {f : eS → Option eS} {st as : List eV} (hc : code M p = (2, f, M', na)) (hd : fd ≤ d) (hs : (st.take na).reverse = (1, j) :: as) (hl : lay[j.toNat]? = some (0, c, n)) (ho : xm_o (I M') = c) (hm : e_mayS M' na (I M') st = true) (h' : e_Ok fd lay code I d M' (0, e_ent 0 (st.take na).reverse, [], w) Q') (h : ∀ r w', Q' r w' → G (p + 3, l, r ++ st.drop na, w')) : G (p, l, st, w) := by
  refine hG (p, l, st, w) f M' na Q' hc ?_ h' h
  unfold e_mayS at hm
  unfold e_may
  simp only [Bool.and_eq_true] at hm ⊢
  refine ⟨Nat.ble_eq_true_of_le hd, hm.1, hm.2.1, hm.2.2.1, hm.2.2.2.1, hm.2.2.2.2.1, hm.2.2.2.2.2, ?_⟩
  rw [hs]
  unfold e_rcv
  simp only [hl, ho, Nat.beq_refl]
  cases Nat.beq c 999 <;> rfl
theorem e_GS.callS (hG : e_GC fd lay code I d M G) {M' na : Nat} {f : eS → Option eS} {st : List eV} (hc : code M p = (2, f, M', na)) (hd : fd ≤ d) (ho : xm_o (I M') = 999) (hm : e_mayS M' na (I M') st = true) (h' : e_Ok fd lay code I d M' (0, e_ent 0 (st.take na).reverse, [], w) Q') (h : ∀ r w', Q' r w' → G (p + 3, l, r ++ st.drop na, w')) : G (p, l, st, w) := by
  refine hG (p, l, st, w) f M' na Q' hc ?_ h' h
  unfold e_mayS at hm
  unfold e_may e_rcv
  simp only [Bool.and_eq_true] at hm ⊢
  exact ⟨Nat.ble_eq_true_of_le hd, hm.1, hm.2.1, hm.2.2.1, hm.2.2.2.1, hm.2.2.2.2.1, hm.2.2.2.2.2, by rw [ho]; rfl⟩
end EEA
section EEB
variable {fd : Nat} {ft : Nat → Nat → Nat} {cl : List vw_C} {lay : List eY} {I : Nat → xM} {code : Nat → Nat → eE} {l : Launch}
theorem e_Good.gs (hT : e_Tab fd ft cl lay I code) {M : Nat} {ad : List Nat} {ce sl : Nat} {p : Program} {e : Env} {R : Room} {s : State} {m : MethodId} {args : Array Value} {below : List Frame} {meth : Method} {c : Code} {D : va_G} {A : Nat → Prop} {H0 : Heap} {Q : State → Prop} (C : x_Cx (xm_b (I M)) (xm_y (I M)).cls (xm_l (I M)) (xm_y (I M)).name (xm_c (I M)) (xm_s (I M)) p R s m args meth c) (hce : ce ≤ xm_c (I M)) (hsl : sl ≤ xm_s (I M)) (hA : ∀ q : Nat, H0.size ≤ q → A q) : e_GS code M (fun t => e_Good ft cl lay ad ce sl (xm_l (I M)) p l e R s m args below meth c D A H0 Q t) := fun t t' f a b hc hf h => by
  have hE := hT.2.1 M t.1
  rw [hc] at hE
  replace hE : e_Snd ft cl lay (xm_b (I M)) (xm_y (I M)).cls (xm_l (I M)) (xm_y (I M)).name (xm_c (I M)) (xm_s (I M)) t.1 f := hE.1
  exact hE C hce hsl hA t t' rfl hf h
theorem e_Good.gc (hT : e_Tab fd ft cl lay I code) {d M : Nat} {ad : List Nat} {ce sl : Nat} {p : Program} {e : Env} {R : Room} {s : State} {m : MethodId} {args : Array Value} {below : List Frame} {meth : Method} {c : Code} {D : va_G} {A : Nat → Prop} {H0 : Heap} {Q : State → Prop} (C : x_Cx (xm_b (I M)) (xm_y (I M)).cls (xm_l (I M)) (xm_y (I M)).name (xm_c (I M)) (xm_s (I M)) p R s m args meth c) (hce : ce ≤ xm_c (I M)) (hsl : sl ≤ xm_s (I M)) (hd : d + 1 ≤ R.frames) (hdl : 64 * (d + 1) ≤ R.locals) (hA : ∀ q : Nat, H0.size ≤ q → A q) : e_GC fd lay code I d M (fun t => e_Good ft cl lay ad ce sl (xm_l (I M)) p l e R s m args below meth c D A H0 Q t) := fun t f M' na Q' hc hm h' h => by
  have hE := hT.2.1 M t.1
  rw [hc] at hE
  replace hE : x_Cl (xm_b (I M)) (xm_y (I M)).cls (xm_l (I M)) (xm_y (I M)).name (xm_c (I M)) (xm_s (I M)) t.1 (I M') na := hE
  have hb := hm
  unfold e_may at hb
  simp only [Bool.and_eq_true] at hb
  obtain ⟨r, w', hq, hM⟩ := e_Ok.met (l := l) hT (Nat.le_of_ble_eq_true hb.1) (Nat.le_of_ble_eq_true hb.2.2.2.2.1) h'
  exact e_call hT hE hm hM C hce hsl hd hdl hA (h r w' hq)
end EEB
theorem e_GS.load {code : Nat → Nat → eE} {M p a b nx i ty : Nat} {l : eL} {st : List eV} {w : eW} {x : eV} {G : eS → Prop} (hG : e_GS code M G) (hL : e_find l i = some x) (hc : code M p = (0, ei_load i ty nx, a, b)) (hy : Nat.beq (e_ty x) ty = true) (h : G (nx, l, x :: st, w)) : G (p, l, st, w) := by
  refine hG.step hc ?_ h
  unfold ei_load
  simp only [hL, hy, cond_true]
def kn1 (z : Int) : Prop := -2147483648 ≤ z ∧ z ≤ 2147483647
section EED
variable {ad : List Nat} {tys : List (ClassId × FieldType)} {u : eW} {ws : va_W}
theorem e_world.q (h : e_world eft cls elay ad tys u ws) {j : Nat} {y : eY} (hy : elay[j]? = some y) : ∃ q, ws[j]? = some q ∧ e_cell eft cls ad tys y (u j) q.2 := by
  have hj : j < ws.length := by
    rw [← h.2.1]
    exact (List.getElem?_eq_some_iff.mp hy).1
  exact ⟨ws[j], List.getElem?_eq_getElem hj, h.2.2 j y _ hy (List.getElem?_eq_getElem hj)⟩
/-- on the machine every number of a row of ints is known -/
theorem e_world.ar (h : e_world eft cls elay ad tys u ws) {j c n : Nat} (hy : elay[j]? = some (1, c, n)) (k : Nat) (hk : k < n) : kn1 (u j k) := by
  obtain ⟨q, -, hq⟩ := h.q hy
  obtain ⟨t0, cA, f, -, -, -, hf⟩ := hq
  have e := hf k hk
  have a := Int32.le_toInt (f k)
  have b := Int32.toInt_le (f k)
  rw [e] at a b
  exact ⟨a, b⟩
theorem e_world.fd (h : e_world eft cls elay ad tys u ws) {j c n : Nat} (hy : elay[j]? = some (0, c, n)) (k : Nat) (hk : k < n) (h0 : eft c k = 0) : kn1 (u j k) := by
  obtain ⟨q, -, hq⟩ := h.q hy
  obtain ⟨fs, -, -, hf⟩ := hq
  obtain ⟨v, -, hv⟩ := hf k hk
  rw [show eft ((0, c, n) : eY).2.1 k = 0 from h0] at hv
  obtain ⟨z, -, e⟩ := hv
  have a := Int32.le_toInt z
  have b := Int32.toInt_le z
  rw [e] at a b
  exact ⟨a, b⟩
end EED
end
