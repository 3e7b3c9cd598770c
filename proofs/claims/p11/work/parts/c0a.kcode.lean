noncomputable section
/-! the class's table: four places that only count are told in short; Math's rules -/
theorem kn1.rf {w w' : eW} {c k : Int} (h : kn1 (w c k)) (hw : e_rf w w') : w' c k = w c k := hw c k (by unfold e_okz; unfold kn1 at h; simp only [Bool.and_eq_true, decide_eq_true_eq]; omega)
theorem kn1.ty {w : eW} {c k lo hi : Int} (h : lo ≤ w c k ∧ w c k ≤ hi) (h1 : -2147483648 ≤ lo) (h2 : hi ≤ 2147483647) : kn1 (w c k) := by unfold kn1; omega
/-- points of the arm a are known -/
def aK (w : eW) (a : Int) : Prop := e_kn w (17 * a + 88) 0 (w (17 * a + 86) 8 + 1) ∧ e_kn w (17 * a + 89) 0 (w (17 * a + 86) 8 + 1)
def kM1 (w : eW) : Prop := e_Has kTy w ∧ (∀ b, 0 ≤ b → b < w 19 0 → (0 ≤ w 35 b ∧ w 35 b ≤ 32) ∧ ∀ i, 0 ≤ i → i < w 35 b → kn1 (w (b + 31) i)) ∧ ∀ p, 0 ≤ p → p < w 19 1 → kn1 (w 36 p)
def kM2 (w : eW) (c : Int) : Prop := e_Has kTy w ∧ ∃ a, (0 ≤ a ∧ a ≤ 3) ∧ c = 17 * a + 86 ∧ ∀ j, 0 ≤ j → j < w c 8 → kn1 (w (17 * a + j + 97) 11)
def kM3 (w : eW) (c : Int) : Prop := e_Has kTy w ∧ ∃ a, (0 ≤ a ∧ a ≤ 3) ∧ c = 17 * a + 86 ∧ kn1 (w c 12) ∧ ∀ j, 0 ≤ j → j < w c 8 → kn1 (w (17 * a + j + 97) 10)
def kM4 (w : eW) : Prop := e_Has kTy w ∧ ∀ a, 0 ≤ a → a ≤ 3 → aK w a
theorem kn_joints {w : eW} (h : e_Has kTy w) {a : Int} (ha : 0 ≤ a ∧ a ≤ 3) : 0 ≤ w (17 * a + 86) 8 ∧ w (17 * a + 86) 8 ≤ 6 := e_Has.get h (kA_8 (a := a) rfl ha) (by decide)
theorem kM1.rf {w w' : eW} (h : kM1 w) (hw : e_rf w w') : kM1 w' := by
  obtain ⟨hT, h1, h2⟩ := h
  have e0 : w' 19 0 = w 19 0 := (kn1.ty (e_Has.get hT (c := 19) (k := 0) (lo := 0) (hi := 4) (kt_o rfl) (by decide)) (by decide) (by decide)).rf hw
  have e1 : w' 19 1 = w 19 1 := (kn1.ty (e_Has.get hT (c := 19) (k := 1) (lo := 0) (hi := 32) (kt_o rfl) (by decide)) (by decide) (by decide)).rf hw
  refine ⟨hT.krf hw, fun b g1 g2 => ?_, fun p g1 g2 => ?_⟩
  · rw [e0] at g2
    obtain ⟨q1, q2⟩ := h1 b g1 g2
    have e2 : w' 35 b = w 35 b := (kn1.ty q1 (by decide) (by decide)).rf hw
    rw [e2]
    exact ⟨q1, fun i g3 g4 => by rw [(q2 i g3 g4).rf hw]; exact q2 i g3 g4⟩
  · rw [e1] at g2
    rw [(h2 p g1 g2).rf hw]
    exact h2 p g1 g2
theorem kM2.rf {w w' : eW} {c : Int} (h : kM2 w c) (hw : e_rf w w') : kM2 w' c := by
  obtain ⟨hT, a, ha, rfl, h1⟩ := h
  have e0 : w' (17 * a + 86) 8 = w (17 * a + 86) 8 := (kn1.ty (kn_joints hT ha) (by decide) (by decide)).rf hw
  refine ⟨hT.krf hw, a, ha, rfl, fun j g1 g2 => ?_⟩
  rw [e0] at g2
  rw [(h1 j g1 g2).rf hw]
  exact h1 j g1 g2
theorem kM3.rf {w w' : eW} {c : Int} (h : kM3 w c) (hw : e_rf w w') : kM3 w' c := by
  obtain ⟨hT, a, ha, rfl, h0, h1⟩ := h
  have e0 : w' (17 * a + 86) 8 = w (17 * a + 86) 8 := (kn1.ty (kn_joints hT ha) (by decide) (by decide)).rf hw
  refine ⟨hT.krf hw, a, ha, rfl, by rw [h0.rf hw]; exact h0, fun j g1 g2 => ?_⟩
  rw [e0] at g2
  rw [(h1 j g1 g2).rf hw]
  exact h1 j g1 g2
theorem e_kn.rf {w w' : eW} {c a b : Int} (h : e_kn w c a b) (hw : e_rf w w') : e_kn w' c a b := fun i g1 g2 => by
  have q : kn1 (w c i) := h i g1 g2
  rw [q.rf hw]
  exact q
theorem aK.rf {w w' : eW} {a : Int} (ha : 0 ≤ a ∧ a ≤ 3) (hT : e_Has kTy w) (h : aK w a) (hw : e_rf w w') : aK w' a := by
  have e0 : w' (17 * a + 86) 8 = w (17 * a + 86) 8 := (kn1.ty (kn_joints hT ha) (by decide) (by decide)).rf hw
  unfold aK at h ⊢
  rw [e0]
  exact ⟨h.1.rf hw, h.2.rf hw⟩
theorem kM4.rf {w w' : eW} (h : kM4 w) (hw : e_rf w w') : kM4 w' := ⟨h.1.krf hw, fun a g1 g2 => (h.2 a g1 g2).rf ⟨g1, g2⟩ h.1 hw⟩
/-- 'never' is not known any more, nor the line that is looked at -/
def kHv (c k : Int) : Prop := (c = 274 ∧ 0 ≤ k ∧ k ≤ 3) ∨ (c = 250 ∧ 13 ≤ k ∧ k ≤ 16)
def e_hk (w : eW) : eW := fun c k => @ite _ (kHv c k) (Classical.propDecidable _) 2147483648 (w c k)
theorem e_hk_ne {w : eW} {c k : Int} (h : ¬ kHv c k) : e_hk w c k = w c k := if_neg h
theorem e_rf.hk {w w' : eW} (hw : e_rf w w') : e_rf (e_hk w) (e_hk w') := fun a b hab => by
  by_cases q : kHv a b
  · have e : e_hk w a b = 2147483648 := if_pos q
    rw [e] at hab
    exact absurd hab (by decide)
  · rw [e_hk_ne q] at hab ⊢
    rw [e_hk_ne q]
    exact hw a b hab
theorem e_hk_fr (w : eW) : e_fr kHv w (e_hk w) := fun _ _ q => e_hk_ne q
/-- a place that jumps, if P -/
def kJp (P : eL → eW → Prop) (tg : Nat) : eS → Option eS := fun t => match t.2.2.1 with
  | [] => @ite _ (P t.2.1 t.2.2.2) (Classical.propDecidable _) (some (tg, t.2.1, [], e_hk t.2.2.2)) none
  | _ => none
theorem ni_jp {P : eL → eW → Prop} {tg : Nat} (hP : ∀ l l' w w', P l w → e_sub l l' → e_rf w w' → P l' w') : e_NI elay (kJp P tg) := by
  refine ⟨fun p l l' st w w' t ht hs hw => ?_, fun t t' ht c k ho => ?_⟩
  · unfold kJp at ht ⊢
    match st with
    | [] =>
      simp only at ht ⊢
      split at ht
      · rename_i hc
        cases ht
        exact ⟨l', e_hk w', if_pos (hP l l' w w' hc hs hw), hs, hw.hk, fun e => by rw [e]⟩
      · cases ht
    | _ :: _ => cases ht
  · obtain ⟨p, l, st, w⟩ := t
    unfold kJp at ht
    match st with
    | [] =>
      simp only at ht
      split at ht
      · cases ht
        refine e_hk_ne (fun q => ?_)
        rcases q with ⟨rfl, h1, h2⟩ | ⟨rfl, h1, h2⟩
        · have := ho.2.2 1 0 4 rfl; omega
        · have := ho.2.2 0 9 17 rfl; omega
      · cases ht
    | _ :: _ => cases ht
def kP1 (l : eL) (w : eW) : Prop := e_find l 0 = some (1, 0) ∧ kM1 w
def kP2 (l : eL) (w : eW) : Prop := e_find l 0 = some (1, 0) ∧ ∃ c, e_find l 2 = some (1, c) ∧ kM2 w c
def kP3 (l : eL) (w : eW) : Prop := e_find l 0 = some (1, 0) ∧ ∃ c, e_find l 2 = some (1, c) ∧ kM3 w c
def kP4 (l : eL) (w : eW) : Prop := e_find l 0 = some (1, 0) ∧ kM4 w
theorem ni_p1 {tg : Nat} : e_NI elay (kJp kP1 tg) := ni_jp (fun _ _ _ _ h hs hw => ⟨hs.find h.1, h.2.rf hw⟩)
theorem ni_p2 {tg : Nat} : e_NI elay (kJp kP2 tg) := ni_jp (fun _ _ _ _ h hs hw => ⟨hs.find h.1, h.2.choose, hs.find h.2.choose_spec.1, h.2.choose_spec.2.rf hw⟩)
theorem ni_p3 {tg : Nat} : e_NI elay (kJp kP3 tg) := ni_jp (fun _ _ _ _ h hs hw => ⟨hs.find h.1, h.2.choose, hs.find h.2.choose_spec.1, h.2.choose_spec.2.rf hw⟩)
theorem ni_p4 {tg : Nat} : e_NI elay (kJp kP4 tg) := ni_jp (fun _ _ _ _ h hs hw => ⟨hs.find h.1, h.2.rf hw⟩)
def te_259m : Nat → eE := fun pc => bif Nat.beq pc 214 then (0, kJp kP1 245, 0, 0) else te_259 pc
def te_260m : Nat → eE := fun pc => bif Nat.beq pc 85 then (0, kJp kP2 112, 0, 0) else te_260 pc
def te_261m : Nat → eE := fun pc => bif Nat.beq pc 21 then (0, kJp kP3 51, 0, 0) else te_261 pc
def te_262m : Nat → eE := fun pc => bif Nat.beq pc 23 then (0, kJp kP4 34, 0, 0) else te_262 pc
def kcode : Nat → Nat → eE := fun M => bif Nat.beq M 259 then te_259m else bif Nat.beq M 260 then te_260m else bif Nat.beq M 261 then te_261m else bif Nat.beq M 262 then te_262m else ecode M
theorem k_ni : ∀ M pc, e_niP (kcode M pc) := fun M pc => by
  unfold kcode
  cases h1 : Nat.beq M 259 with
  | true => exact e_niP.bif (e_niP.en ni_p1) (e_niP.of (te_259_ok pc))
  | false =>
    cases h2 : Nat.beq M 260 with
    | true => exact e_niP.bif (e_niP.en ni_p2) (e_niP.of (te_260_ok pc))
    | false =>
      cases h3 : Nat.beq M 261 with
      | true => exact e_niP.bif (e_niP.en ni_p3) (e_niP.of (te_261_ok pc))
      | false =>
        cases h4 : Nat.beq M 262 with
        | true => exact e_niP.bif (e_niP.en ni_p4) (e_niP.of (te_262_ok pc))
        | false => exact e_ni M pc
theorem kAlk : e_Alk elay kcode := fun M pc f a b h => k_ni M pc f a b h
section K0
variable {fd : Nat} {lay : List eY} {code : Nat → Nat → eE} {I : Nat → xM} {d M nx a b p : Nat} {l : eL} {r : List eV} {w : eW} {Q : List eV → eW → Prop}
theorem e_Ok.mmin {x y : Int} (hc : code M p = (0, ei_m2 eM_min nx, a, b)) (hr : Nat.ble (e_cats r) 8 = true) (h : ∀ z, ((y < x ∧ z = y) ∨ (x ≤ y ∧ z = x)) → e_Ok fd lay code I d M (nx, l, (0, z) :: r, w) Q) : e_Ok fd lay code I d M (p, l, (0, y) :: (0, x) :: r, w) Q := by
  refine e_Ok.step (t' := (nx, l, (0, eM_min x y) :: r, w)) hc ?_ (h _ ?_)
  · unfold ei_m2; simp only [hr, cond_true]
  · unfold eM_min
    by_cases q : y < x
    · rw [decide_eq_true q]; exact Or.inl ⟨q, rfl⟩
    · rw [decide_eq_false q]; exact Or.inr ⟨by omega, rfl⟩
theorem e_Ok.mmax {x y : Int} (hc : code M p = (0, ei_m2 eM_max nx, a, b)) (hr : Nat.ble (e_cats r) 8 = true) (h : ∀ z, ((x < y ∧ z = y) ∨ (y ≤ x ∧ z = x)) → e_Ok fd lay code I d M (nx, l, (0, z) :: r, w) Q) : e_Ok fd lay code I d M (p, l, (0, y) :: (0, x) :: r, w) Q := by
  refine e_Ok.step (t' := (nx, l, (0, eM_max x y) :: r, w)) hc ?_ (h _ ?_)
  · unfold ei_m2; simp only [hr, cond_true]
  · unfold eM_max
    by_cases q : x < y
    · rw [decide_eq_true q]; exact Or.inl ⟨q, rfl⟩
    · rw [decide_eq_false q]; exact Or.inr ⟨by omega, rfl⟩
theorem e_Ok.mabs {x : Int} (hc : code M p = (0, ei_abs nx, a, b)) (hr : Nat.ble (e_cats r) 8 = true) (hx : -2147483648 ≤ x ∧ x ≤ 2147483647) (h : ∀ z, (-2147483648 ≤ z ∧ z ≤ 2147483647) → ((0 ≤ x → z = x) ∧ (x < 0 → -2147483647 ≤ x → z = -x)) → e_Ok fd lay code I d M (nx, l, (0, z) :: r, w) Q) : e_Ok fd lay code I d M (p, l, (0, x) :: r, w) Q := by
  by_cases q : 0 ≤ x
  · refine e_Ok.step (t' := (nx, l, (0, x) :: r, w)) hc ?_ (h _ hx ⟨fun _ => rfl, fun g => by omega⟩)
    unfold ei_abs; simp only [hr, cond_true, decide_eq_true q]
  · refine e_Ok.step (t' := (nx, l, (0, e32 (-x)) :: r, w)) hc ?_ (h _ (e32_in _) ⟨fun g => by omega, fun _ g => e32_id (by omega) (by omega)⟩)
    unfold ei_abs; simp only [hr, cond_true, decide_eq_false q, cond_false]
theorem e_Ok.isnull {c : Int} {tg : Nat} (hc : code M p = (0, ei_null tg nx, a, b)) (h : e_Ok fd lay code I d M (nx, l, r, w) Q) : e_Ok fd lay code I d M (p, l, (1, c) :: r, w) Q := e_Ok.step hc rfl h
theorem e_Ok.isnul0 {c : Int} {tg : Nat} (hc : code M p = (0, ei_null tg nx, a, b)) (h : e_Ok fd lay code I d M (tg, l, r, w) Q) : e_Ok fd lay code I d M (p, l, (2, c) :: r, w) Q := e_Ok.step hc rfl h
theorem e_Ok.jp {P : eL → eW → Prop} {tg : Nat} (hc : code M p = (0, kJp P tg, a, b)) (hP : P l w) (h : ∀ w1, e_hk w = w1 → e_Ok fd lay code I d M (tg, l, [], w1) Q) : e_Ok fd lay code I d M (p, l, [], w) Q := by
  refine e_Ok.step (t' := (tg, l, [], e_hk w)) hc ?_ (h _ rfl)
  unfold kJp
  exact if_pos hP
end K0
end
noncomputable section
section K1
variable {fd : Nat} {lay : List eY} {code : Nat → Nat → eE} {I : Nat → xM} {d M nx a b p : Nat} {l : eL} {r : List eV} {w : eW} {Q : List eV → eW → Prop}
theorem e_Ok.sn {i : Int} (hc : code M p = (0, e_S (g_sn nx), a, b)) (hi : 0 ≤ i ∧ i < 1025) (h : ∀ z, -2147483648 ≤ z → z ≤ 2147483647 → e_Ok fd lay code I d M (nx, l, (0, z) :: r, w) Q) : e_Ok fd lay code I d M (p, l, (0, i) :: (1, 359) :: r, w) Q := by
  refine e_Ok.step (t' := (nx, l, (0, (e_sin.getD i.toNat 0).toInt) :: r, w)) hc ?_ (h _ (Int32.le_toInt _) (Int32.toInt_le _))
  unfold e_S g_sn
  simp only [true_and, if_pos hi, Option.map_some]
end K1
end
noncomputable section
theorem aK.fr {S : Int → Int → Prop} {w w' : eW} {a : Int} (f : e_fr S w w') (hS : ∀ k, ¬ S (17 * a + 88) k ∧ ¬ S (17 * a + 89) k) (h8 : ¬ S (17 * a + 86) 8) (h : aK w a) : aK w' a := by
  unfold aK at h ⊢
  rw [f _ _ h8]
  exact ⟨h.1.fr f (fun k => (hS k).1), h.2.fr f (fun k => (hS k).2)⟩
end
