noncomputable section
theorem no_54_0 : ¬ mTape 275 8 := by unfold mTape; omega
theorem c_275 {d : Nat} {w : eW} (hT : e_Has mTy w) (hH : e_Has hTy w) {a : Int} (ht : w 275 9 ≤ 3996) : e_Ok 20 elay ecode eI d 275 (0, [(0, (1, 275)), (1, (0, a))], [], w) (fun r w' => r = [] ∧ e_fr mTape w w' ∧ e_Has mTy w' ∧ e_Has hTy w' ∧ w' 275 9 = w 275 9 + 4) := by
  have h9 := e_Has.get hH (c := 275) (k := 9) (lo := 0) (hi := 4000) rfl (by decide)
  refine e_Ok.run (t' := (3, [(2, (0, 24)), (0, (1, 275)), (1, (0, a))], [], w)) 2 rfl ?_
  have hL1 : ∀ (n : Nat) (y2 : Int) (v1 : eW), e_fr mTape w v1 ∧ e_Has mTy v1 ∧ e_Has hTy v1 ∧ 8 * v1 275 9 = 8 * w 275 9 + 24 - y2 ∧ -8 ≤ y2 ∧ y2 ≤ 24 ∧ y2 % 8 = 0 → y2 + 8 < n → e_Ok 20 elay ecode eI d 275 (3, [(0, (1, 275)), (1, (0, a)), (2, (0, y2))], [], v1) (fun r w' => r = [] ∧ e_fr mTape w w' ∧ e_Has mTy w' ∧ e_Has hTy w' ∧ w' 275 9 = w 275 9 + 4) := by
    intro n
    induction n with
    | zero => intro y2 v1 hj hm; obtain ⟨j3, j4, j5, j6, j7⟩ := hj; exfalso; omega
    | succ n ih2 =>
      intro y2 v1 hj hm
      obtain ⟨j3, j4, j5, j6, j7⟩ := hj
      refine e_Ok.run (t' := (4, [(0, (1, 275)), (1, (0, a)), (2, (0, y2))], [(0, y2)], v1)) 1 rfl ?_
      refine e_Ok.if1 rfl (fun h8 => ?_) (fun h8 => ?_)
      · replace h8 : (y2 : Int) < 0 := h8
        refine e_Ok.rets rfl rfl ?_
        exact ⟨rfl, j3, j4, j5, by omega⟩
      · replace h8 : (y2 : Int) ≥ 0 := by have q : ¬ ((y2 : Int) < 0) := h8; omega
        refine e_Ok.run (t' := (8, [(0, (1, 275)), (1, (0, a)), (2, (0, y2))], [(1, 275)], v1)) 1 rfl ?_
        refine e_Ok.getr (z := 281) rfl (el_o rfl) rfl rfl ((j3 275 8 no_54_0).trans (e_Has.eq hT rfl)) (by omega) ?_
        refine e_Ok.run (t' := (12, [(0, (1, 275)), (1, (0, a)), (2, (0, y2))], [(1, 275), (1, 281)], v1)) 1 rfl ?_
        refine e_Ok.getf (z := v1 275 9) rfl (el_o rfl) rfl rfl rfl (by omega) ?_
        refine e_Ok.run (t' := (17, [(0, (1, 275)), (1, (0, a)), (2, (0, y2))], [(0, y2), (0, a), (0, v1 275 9), (1, 281)], v1)) 2 rfl ?_
        refine e_Ok.any rfl (eB_any _ _) (fun z9 z9a z9b => ?_)
        refine e_Ok.i2b rfl (fun z10 hz10 => ?_)
        obtain ⟨z11, hz11, z11r⟩ := e_nar_2 z10
        refine e_Ok.ast rfl (el_o rfl) rfl hz11 (by omega) ?_
        generalize hw12 : e_up v1 281 (v1 275 9) z11 = w12
        have f13 : e_fr mTape w w12 := e_fr.up j3 hw12 (by unfold mTape; omega)
        have hH14 : e_Has hTy w12 := e_Has.upr j5 hw12 rfl (by omega)
        have hT15 : e_Has mTy w12 := e_Has.ups j4 hw12 rfl
        refine e_Ok.run (t' := (22, [(0, (1, 275)), (1, (0, a)), (2, (0, y2))], [(1, 275), (1, 275)], w12)) 2 rfl ?_
        refine e_Ok.getf (z := v1 275 9) rfl (el_o rfl) rfl rfl (by rw [← hw12]; exact (e_up_ne _ _ (Or.inl (by omega))).trans rfl) (by omega) ?_
        refine e_Ok.run (t' := (26, [(0, (1, 275)), (1, (0, a)), (2, (0, y2))], [(0, 1), (0, v1 275 9), (1, 275)], w12)) 1 rfl ?_
        refine e_Ok.add (z := v1 275 9 + 1) rfl (by omega) (by omega) ?_
        refine e_Ok.putf rfl (el_o rfl) rfl rfl ?_
        generalize hw16 : e_up w12 275 9 (v1 275 9 + 1) = w16
        have f17 : e_fr mTape w w16 := e_fr.up f13 hw16 (by unfold mTape; omega)
        have hH18 : e_Has hTy w16 := e_Has.upr hH14 hw16 rfl (by omega)
        have hT19 : e_Has mTy w16 := e_Has.ups hT15 hw16 rfl
        refine e_Ok.inc (z := y2 - 8) rfl rfl (by omega) (by omega) ?_
        show e_Ok 20 elay ecode eI d 275 (33, [(2, (0, y2 - 8)), (0, (1, 275)), (1, (0, a))], [], w16) _
        refine e_Ok.run (t' := (3, [(2, (0, y2 - 8)), (0, (1, 275)), (1, (0, a))], [], w16)) 1 rfl ?_
        refine e_Ok.sub eAlk (e_sub_of rfl ?_) (ih2 (y2 - 8) w16 ⟨f17, hT19, hH18, by have := (show w16 275 9 = v1 275 9 + 1 from (by rw [← hw16]; exact e_up_eq _ _ _ _)); omega, by omega⟩ (by omega))
        exact ⟨rfl, rfl, rfl, trivial⟩
  refine e_Ok.sub eAlk (e_sub_of rfl ?_) (hL1 (32 + 1 : Int).toNat 24 w ⟨(e_fr.refl w), hT, hH, by omega, by omega⟩ (by omega))
  exact ⟨rfl, rfl, rfl, trivial⟩
theorem c_274 {d : Nat} (hd : 21 ≤ d) {w : eW} (hT : e_Has mTy w) (hH : e_Has hTy w) {a b c e f : Int} : e_Ok 20 elay ecode eI d 274 (0, [(0, (1, 275)), (1, (0, a)), (2, (0, b)), (3, (0, c)), (4, (0, e)), (5, (0, f))], [], w) (fun r w' => ∃ z : Int, r = [(0, z)] ∧ e_fr mTape w w' ∧ e_Has mTy w' ∧ e_Has hTy w' ∧ ((w 275 9 ≤ 3980 ∧ z = w 275 9 + 20 ∧ w' 275 9 = w 275 9 + 20) ∨ (3980 < w 275 9 ∧ z = -3 ∧ w' 275 9 = w 275 9))) := by
  obtain ⟨d, rfl⟩ : ∃ e, d = e + 1 := ⟨d - 1, by omega⟩
  refine e_Ok.run (t' := (1, [(0, (1, 275)), (1, (0, a)), (2, (0, b)), (3, (0, c)), (4, (0, e)), (5, (0, f))], [(1, 275)], w)) 1 rfl ?_
  have h1 := (e_Has.get hH (c := 275) (k := 9) (lo := 0) (hi := 4000) rfl (by decide))
  refine e_Ok.getf (z := w 275 9) rfl (el_o rfl) rfl rfl rfl (by omega) ?_
  refine e_Ok.run (t' := (6, [(0, (1, 275)), (1, (0, a)), (2, (0, b)), (3, (0, c)), (4, (0, e)), (5, (0, f))], [(0, 20), (0, w 275 9)], w)) 1 rfl ?_
  refine e_Ok.add (z := w 275 9 + 20) rfl (by omega) (by omega) ?_
  refine e_Ok.run (t' := (10, [(0, (1, 275)), (1, (0, a)), (2, (0, b)), (3, (0, c)), (4, (0, e)), (5, (0, f))], [(0, 4000), (0, w 275 9 + 20)], w)) 1 rfl ?_
  refine e_Ok.if2 rfl (fun h2 => ?_) (fun h2 => ?_)
  · replace h2 : (w 275 9 + 20 : Int) ≤ 4000 := h2
    refine e_Ok.run (t' := (18, [(0, (1, 275)), (1, (0, a)), (2, (0, b)), (3, (0, c)), (4, (0, e)), (5, (0, f))], [(0, a), (1, 275)], w)) 2 rfl ?_
    refine e_Ok.callV rfl (by omega) rfl rfl rfl rfl (c_275 hT hH (by omega)) (fun r3 w4 h5 => ?_)
    obtain ⟨rfl, q6, q6T, q6H, q6n⟩ := h5
    have f7 : e_fr mTape w w4 := e_fr.trans (e_fr.refl w) (e_fr.mono q6 (fun c k q => by exact q))
    have h8 := e_Has.get q6H (c := 275) (k := 9) (lo := 0) (hi := 4000) rfl (by decide)
    show e_Ok 20 elay ecode eI (d + 1) 274 (21, [(0, (1, 275)), (1, (0, a)), (2, (0, b)), (3, (0, c)), (4, (0, e)), (5, (0, f))], [], w4) _
    refine e_Ok.run (t' := (23, [(0, (1, 275)), (1, (0, a)), (2, (0, b)), (3, (0, c)), (4, (0, e)), (5, (0, f))], [(0, b), (1, 275)], w4)) 2 rfl ?_
    refine e_Ok.callV rfl (by omega) rfl rfl rfl rfl (c_275 q6T q6H (by omega)) (fun r9 w10 h11 => ?_)
    obtain ⟨rfl, q12, q12T, q12H, q12n⟩ := h11
    have f13 : e_fr mTape w w10 := e_fr.trans f7 (e_fr.mono q12 (fun c k q => by exact q))
    have h14 := e_Has.get q12H (c := 275) (k := 9) (lo := 0) (hi := 4000) rfl (by decide)
    show e_Ok 20 elay ecode eI (d + 1) 274 (26, [(0, (1, 275)), (1, (0, a)), (2, (0, b)), (3, (0, c)), (4, (0, e)), (5, (0, f))], [], w10) _
    refine e_Ok.run (t' := (28, [(0, (1, 275)), (1, (0, a)), (2, (0, b)), (3, (0, c)), (4, (0, e)), (5, (0, f))], [(0, c), (1, 275)], w10)) 2 rfl ?_
    refine e_Ok.callV rfl (by omega) rfl rfl rfl rfl (c_275 q12T q12H (by omega)) (fun r15 w16 h17 => ?_)
    obtain ⟨rfl, q18, q18T, q18H, q18n⟩ := h17
    have f19 : e_fr mTape w w16 := e_fr.trans f13 (e_fr.mono q18 (fun c k q => by exact q))
    have h20 := e_Has.get q18H (c := 275) (k := 9) (lo := 0) (hi := 4000) rfl (by decide)
    show e_Ok 20 elay ecode eI (d + 1) 274 (31, [(0, (1, 275)), (1, (0, a)), (2, (0, b)), (3, (0, c)), (4, (0, e)), (5, (0, f))], [], w16) _
    refine e_Ok.run (t' := (34, [(0, (1, 275)), (1, (0, a)), (2, (0, b)), (3, (0, c)), (4, (0, e)), (5, (0, f))], [(0, e), (1, 275)], w16)) 2 rfl ?_
    refine e_Ok.callV rfl (by omega) rfl rfl rfl rfl (c_275 q18T q18H (by omega)) (fun r21 w22 h23 => ?_)
    obtain ⟨rfl, q24, q24T, q24H, q24n⟩ := h23
    have f25 : e_fr mTape w w22 := e_fr.trans f19 (e_fr.mono q24 (fun c k q => by exact q))
    have h26 := e_Has.get q24H (c := 275) (k := 9) (lo := 0) (hi := 4000) rfl (by decide)
    show e_Ok 20 elay ecode eI (d + 1) 274 (37, [(0, (1, 275)), (1, (0, a)), (2, (0, b)), (3, (0, c)), (4, (0, e)), (5, (0, f))], [], w22) _
    refine e_Ok.run (t' := (40, [(0, (1, 275)), (1, (0, a)), (2, (0, b)), (3, (0, c)), (4, (0, e)), (5, (0, f))], [(0, f), (1, 275)], w22)) 2 rfl ?_
    refine e_Ok.callV rfl (by omega) rfl rfl rfl rfl (c_275 q24T q24H (by omega)) (fun r27 w28 h29 => ?_)
    obtain ⟨rfl, q30, q30T, q30H, q30n⟩ := h29
    have f31 : e_fr mTape w w28 := e_fr.trans f25 (e_fr.mono q30 (fun c k q => by exact q))
    have h32 := e_Has.get q30H (c := 275) (k := 9) (lo := 0) (hi := 4000) rfl (by decide)
    show e_Ok 20 elay ecode eI (d + 1) 274 (43, [(0, (1, 275)), (1, (0, a)), (2, (0, b)), (3, (0, c)), (4, (0, e)), (5, (0, f))], [], w28) _
    refine e_Ok.run (t' := (44, [(0, (1, 275)), (1, (0, a)), (2, (0, b)), (3, (0, c)), (4, (0, e)), (5, (0, f))], [(1, 275)], w28)) 1 rfl ?_
    refine e_Ok.getf (z := w28 275 9) rfl (el_o rfl) rfl rfl rfl (by omega) ?_
    refine e_Ok.rets rfl rfl ?_
    exact ⟨_, rfl, f31, q30T, q30H, by omega⟩
  · replace h2 : (w 275 9 + 20 : Int) > 4000 := by have q : ¬ ((w 275 9 + 20 : Int) ≤ 4000) := h2; omega
    refine e_Ok.run (t' := (15, [(0, (1, 275)), (1, (0, a)), (2, (0, b)), (3, (0, c)), (4, (0, e)), (5, (0, f))], [(0, (-3))], w)) 1 rfl ?_
    refine e_Ok.rets rfl rfl ?_
    exact ⟨_, rfl, (e_fr.refl w), hT, hH, by omega⟩
theorem c_276 {d : Nat} (hd : 21 ≤ d) {w : eW} (hT : e_Has mTy w) (hH : e_Has hTy w) {a : Int} : e_Ok 20 elay ecode eI d 276 (0, [(0, (1, 275)), (1, (0, a))], [], w) (fun r w' => ∃ z : Int, r = [(0, z)] ∧ e_fr mTape w w' ∧ e_Has mTy w' ∧ e_Has hTy w' ∧ ((0 ≤ a ∧ a ≤ w 275 9 ∧ z = w 275 9 - a ∧ w' 275 9 = w 275 9 - a) ∨ ((a < 0 ∨ w 275 9 < a) ∧ z = -1 ∧ w' 275 9 = w 275 9))) := by
  obtain ⟨d, rfl⟩ : ∃ e, d = e + 1 := ⟨d - 1, by omega⟩
  refine e_Ok.run (t' := (4, [(0, (1, 275)), (1, (0, a))], [(1, 275), (4, 0), (4, a)], w)) 4 rfl ?_
  have h1 := (e_Has.get hH (c := 275) (k := 9) (lo := 0) (hi := 4000) rfl (by decide))
  refine e_Ok.getf (z := w 275 9) rfl (el_o rfl) rfl rfl rfl (by omega) ?_
  refine e_Ok.run (t' := (8, [(0, (1, 275)), (1, (0, a))], [(4, w 275 9), (4, 0), (4, a)], w)) 1 rfl ?_
  refine e_Ok.callS rfl (by omega) rfl rfl (c_266) (fun r2 w3 h4 => ?_)
  obtain ⟨z5, rfl, rfl, q6⟩ := h4
  obtain ⟨rfl, q6⟩ | ⟨rfl, q6⟩ := q6
  · show e_Ok 20 elay ecode eI (d + 1) 276 (11, [(0, (1, 275)), (1, (0, a))], [(0, 1)], w) _
    refine e_Ok.if1 rfl (fun h7 => ?_) (fun h7 => ?_)
    · replace h7 : (1 : Int) ≠ 0 := h7
      refine e_Ok.run (t' := (18, [(0, (1, 275)), (1, (0, a))], [(1, 275), (1, 275)], w)) 2 rfl ?_
      refine e_Ok.getf (z := w 275 9) rfl (el_o rfl) rfl rfl rfl (by omega) ?_
      refine e_Ok.run (t' := (22, [(0, (1, 275)), (1, (0, a))], [(0, a), (0, w 275 9), (1, 275)], w)) 1 rfl ?_
      refine e_Ok.sub' (z := w 275 9 - a) rfl (by omega) (by omega) ?_
      refine e_Ok.putf rfl (el_o rfl) rfl rfl ?_
      generalize hw8 : e_up w 275 9 (w 275 9 - a) = w8
      have f9 : e_fr mTape w w8 := e_fr.up (e_fr.refl w) hw8 (by unfold mTape; omega)
      have hH10 : e_Has hTy w8 := e_Has.upr hH hw8 rfl (by omega)
      have hT11 : e_Has mTy w8 := e_Has.ups hT hw8 rfl
      refine e_Ok.run (t' := (27, [(0, (1, 275)), (1, (0, a))], [(1, 275)], w8)) 1 rfl ?_
      refine e_Ok.getf (z := w 275 9 - a) rfl (el_o rfl) rfl rfl (by rw [← hw8]; exact e_up_eq _ _ _ _) (by omega) ?_
      refine e_Ok.rets rfl rfl ?_
      have e9 : w8 275 9 = w 275 9 - a := (by rw [← hw8]; exact e_up_eq _ _ _ _)
      exact ⟨_, rfl, f9, hT11, hH10, by omega⟩
    · replace h7 : (1 : Int) = 0 := by have q : ¬ ((1 : Int) ≠ 0) := h7; omega
      exfalso; omega
  · show e_Ok 20 elay ecode eI (d + 1) 276 (11, [(0, (1, 275)), (1, (0, a))], [(0, 0)], w) _
    refine e_Ok.if1 rfl (fun h12 => ?_) (fun h12 => ?_)
    · replace h12 : (0 : Int) ≠ 0 := h12
      exfalso; omega
    · replace h12 : (0 : Int) = 0 := by have q : ¬ ((0 : Int) ≠ 0) := h12; omega
      refine e_Ok.run (t' := (15, [(0, (1, 275)), (1, (0, a))], [(0, (-1))], w)) 1 rfl ?_
      refine e_Ok.rets rfl rfl ?_
      have e9 : w 275 9 = w 275 9 := rfl
      exact ⟨_, rfl, (e_fr.refl w), hT, hH, by omega⟩
theorem no_54_1 {k : Int} : ¬ mO 275 k := by unfold mO; omega
theorem su_54_4 {c k : Int} (q : mW c k) : mO c k := by
  unfold mW at q
  rcases q with q | q
  · exact Or.inr (Or.inl (by omega))
  · exact Or.inr (Or.inr (by omega))
theorem su_54_5 {c k : Int} (q : mR c k) : mO c k := by
  unfold mR at q
  rcases q with ⟨q, ⟨q, q⟩⟩ | q
  · exact Or.inl ⟨(by omega), Or.inr ⟨(by omega), (by omega)⟩⟩
  · exact Or.inr (Or.inl (by omega))
theorem c_323 {d : Nat} (hd : 23 ≤ d) {w : eW} (hT : e_Has mTy w) (hA : mAc w) {p v : Int} (hp : 0 ≤ p ∧ p ≤ 63) (hv : -2147483648 ≤ v ∧ v ≤ 2147483647) : e_Ok 20 elay ecode eI d 323 (0, [(0, (1, 275)), (1, (0, p)), (2, (0, v))], [], w) (fun r w' => r = [] ∧ e_fr mO w w' ∧ e_Has mTy w') := by
  obtain ⟨d, rfl⟩ : ∃ e, d = e + 1 := ⟨d - 1, by omega⟩
  refine e_Ok.run (t' := (1, [(0, (1, 275)), (1, (0, p)), (2, (0, v))], [(1, 275)], w)) 1 rfl ?_
  refine e_Ok.getr (z := 276) rfl (el_o rfl) rfl rfl (e_Has.eq hT rfl) (by omega) ?_
  refine e_Ok.run (t' := (8, [(0, (1, 275)), (1, (0, p)), (2, (0, v))], [(0, p), (0, 160), (1, 276)], w)) 2 rfl ?_
  refine e_Ok.add (z := p + 160) rfl (by omega) (by omega) ?_
  have h1 := (e_Has.get hT (c := 276) (k := p + 160) (lo := (-2147483648)) (hi := 2147483647) (nR_OWN (p := p) (by omega)) (by decide))
  refine e_Ok.ald (z := w 276 (p + 160)) rfl (el_o rfl) rfl (by omega) rfl (by omega) ?_
  refine e_Ok.run (t' := (11, [(0, (1, 275)), (1, (0, p)), (2, (0, v))], [(0, v), (0, w 276 (p + 160))], w)) 1 rfl ?_
  refine e_Ok.if2 rfl (fun h2 => ?_) (fun h2 => ?_)
  · replace h2 : (w 276 (p + 160) : Int) = v := h2
    refine e_Ok.rets rfl rfl ?_
    exact ⟨rfl, (e_fr.refl w), hT⟩
  · replace h2 : (w 276 (p + 160) : Int) ≠ v := by have q : ¬ ((w 276 (p + 160) : Int) = v) := h2; omega
    refine e_Ok.run (t' := (15, [(0, (1, 275)), (1, (0, p)), (2, (0, v))], [(1, 275)], w)) 1 rfl ?_
    refine e_Ok.callV rfl (by omega) rfl rfl rfl rfl (c_321 (by omega) hT hA) (fun r3 w4 h5 => ?_)
    obtain ⟨rfl, q6, q6k⟩ := h5
    have f7 : e_fr mO w w4 := e_fr.trans (e_fr.refl w) (e_fr.mono q6 (fun c k q => su_54_4 q))
    show e_Ok 20 elay ecode eI (d + 1) 323 (18, [(0, (1, 275)), (1, (0, p)), (2, (0, v))], [], w4) _
    refine e_Ok.run (t' := (19, [(0, (1, 275)), (1, (0, p)), (2, (0, v))], [(1, 275)], w4)) 1 rfl ?_
    refine e_Ok.getr (z := 276) rfl (el_o rfl) rfl rfl ((f7 275 0 no_54_1).trans (e_Has.eq hT rfl)) (by omega) ?_
    refine e_Ok.run (t' := (26, [(0, (1, 275)), (1, (0, p)), (2, (0, v))], [(0, p), (0, 160), (1, 276)], w4)) 2 rfl ?_
    refine e_Ok.add (z := p + 160) rfl (by omega) (by omega) ?_
    refine e_Ok.run (t' := (28, [(0, (1, 275)), (1, (0, p)), (2, (0, v))], [(0, v), (0, p + 160), (1, 276)], w4)) 1 rfl ?_
    refine e_Ok.ast rfl (el_o rfl) rfl rfl (by omega) ?_
    generalize hw8 : e_up w4 276 (p + 160) v = w8
    have f9 : e_fr mO w w8 := e_fr.up f7 hw8 (by unfold mO; omega)
    have hT10 : e_Has mTy w8 := e_Has.upr (mT_W q6 hT) hw8 (nR_OWN (p := p) (by omega)) (by omega)
    refine e_Ok.run (t' := (30, [(0, (1, 275)), (1, (0, p)), (2, (0, v))], [(1, 275)], w8)) 1 rfl ?_
    refine e_Ok.callV rfl (by omega) rfl rfl rfl rfl (c_322 (by omega) hT10 (mAc.fr' (fun k q => by unfold mO at q; omega) f9 hA) (e_kr.oth q6k hw8 (by decide))) (fun r11 w12 h13 => ?_)
    obtain ⟨rfl, q14, q14T⟩ := h13
    have f15 : e_fr mO w w12 := e_fr.trans f9 (e_fr.mono q14 (fun c k q => su_54_5 q))
    show e_Ok 20 elay ecode eI (d + 1) 323 (33, [(0, (1, 275)), (1, (0, p)), (2, (0, v))], [], w12) _
    refine e_Ok.rets rfl rfl ?_
    exact ⟨rfl, f15, q14T⟩
theorem no_54_2 {k : Int} : ¬ mK 275 k := by unfold mK; omega
theorem no_54_3 {k : Int} : ¬ mK 286 k := by unfold mK; omega
theorem su_54_6 {c k : Int} (q : mP c k) : mK c k := by
  unfold mP at q
  rcases q with q | q
  · exact Or.inr (Or.inl (by omega))
  · exact Or.inr (Or.inr (by omega))
theorem c_303 {d : Nat} (hd : 23 ≤ d) {w : eW} (hT : e_Has mTy w) : e_Ok 20 elay ecode eI d 303 (0, [(0, (1, 275))], [], w) (fun r w' => r = [] ∧ e_fr mK w w' ∧ e_Has mTy w') := by
  obtain ⟨d, rfl⟩ : ∃ e, d = e + 1 := ⟨d - 1, by omega⟩
  refine e_Ok.run (t' := (1, [(0, (1, 275))], [(1, 275)], w)) 1 rfl ?_
  refine e_Ok.callV rfl (by omega) rfl rfl rfl rfl (c_302 (by omega) hT) (fun r1 w2 h3 => ?_)
  obtain ⟨rfl, q4, q4k⟩ := h3
  have f5 : e_fr mK w w2 := e_fr.trans (e_fr.refl w) (e_fr.mono q4 (fun c k q => su_54_6 q))
  show e_Ok 20 elay ecode eI (d + 1) 303 (4, [(0, (1, 275))], [], w2) _
  refine e_Ok.run (t' := (6, [(1, (0, 0)), (0, (1, 275))], [], w2)) 2 rfl ?_
  have hL6 : ∀ (n : Nat) (y1 : Int) (v1 : eW), e_fr mK w v1 ∧ e_Has mTy v1 ∧ (∀ b, 0 ≤ b → b < w 275 10 → e_pk2 v1 (7 * b) (w 286 b)) ∧ 0 ≤ y1 ∧ y1 ≤ 4 → 5 - y1 < n → e_Ok 20 elay ecode eI (d + 1) 303 (6, [(0, (1, 275)), (1, (0, y1))], [], v1) (fun r w' => r = [] ∧ e_fr mK w w' ∧ e_Has mTy w') := by
    intro n
    induction n with
    | zero => intro y1 v1 hj hm; obtain ⟨j8, j9, j10, j11⟩ := hj; exfalso; omega
    | succ n ih7 =>
      intro y1 v1 hj hm
      obtain ⟨j8, j9, j10, j11⟩ := hj
      refine e_Ok.run (t' := (8, [(0, (1, 275)), (1, (0, y1))], [(1, 275), (0, y1)], v1)) 2 rfl ?_
      have h12 := (e_Has.get hT (c := 275) (k := 10) (lo := 0) (hi := 4) rfl (by decide))
      refine e_Ok.getf (z := w 275 10) rfl (el_o rfl) rfl rfl ((j8 275 10 no_54_2).trans rfl) (by omega) ?_
      refine e_Ok.if2 rfl (fun h13 => ?_) (fun h13 => ?_)
      · replace h13 : (y1 : Int) ≥ w 275 10 := h13
        refine e_Ok.rets rfl rfl ?_
        exact ⟨rfl, j8, j9⟩
      · replace h13 : (y1 : Int) < w 275 10 := by have q : ¬ ((y1 : Int) ≥ w 275 10) := h13; omega
        refine e_Ok.run (t' := (16, [(2, (0, 0)), (0, (1, 275)), (1, (0, y1))], [], v1)) 2 rfl ?_
        have hL14 : ∀ (n : Nat) (y2 : Int) (v2 : eW), e_fr mK w v2 ∧ e_Has mTy v2 ∧ (∀ b, 0 ≤ b → b < w 275 10 → e_pk2 v2 (7 * b) (w 286 b)) ∧ 0 ≤ y2 ∧ y2 ≤ 7 → 8 - y2 < n → e_Ok 20 elay ecode eI (d + 1) 303 (16, [(0, (1, 275)), (1, (0, y1)), (2, (0, y2))], [], v2) (fun r w' => r = [] ∧ e_fr mK w w' ∧ e_Has mTy w') := by
          intro n
          induction n with
          | zero => intro y2 v2 hj hm; obtain ⟨j16, j17, j18, j19⟩ := hj; exfalso; omega
          | succ n ih15 =>
            intro y2 v2 hj hm
            obtain ⟨j16, j17, j18, j19⟩ := hj
            refine e_Ok.run (t' := (18, [(0, (1, 275)), (1, (0, y1)), (2, (0, y2))], [(1, 275), (0, y2)], v2)) 2 rfl ?_
            refine e_Ok.getr (z := 286) rfl (el_o rfl) rfl rfl ((j16 275 15 no_54_2).trans (e_Has.eq hT rfl)) (by omega) ?_
            refine e_Ok.run (t' := (22, [(0, (1, 275)), (1, (0, y1)), (2, (0, y2))], [(0, y1), (1, 286), (0, y2)], v2)) 1 rfl ?_
            have h20 := (e_Has.get hT (c := 286) (k := y1) (lo := 0) (hi := 6) rfl (by decide))
            refine e_Ok.ald (z := w 286 y1) rfl (el_o rfl) rfl (by omega) ((j16 286 y1 no_54_3).trans rfl) (by omega) ?_
            refine e_Ok.if2 rfl (fun h21 => ?_) (fun h21 => ?_)
            · replace h21 : (y2 : Int) > w 286 y1 := h21
              refine e_Ok.inc (z := y1 + 1) rfl rfl (by omega) (by omega) ?_
              show e_Ok 20 elay ecode eI (d + 1) 303 (93, [(1, (0, y1 + 1)), (0, (1, 275)), (2, (0, y2))], [], v2) _
              refine e_Ok.run (t' := (6, [(1, (0, y1 + 1)), (0, (1, 275)), (2, (0, y2))], [], v2)) 1 rfl ?_
              refine e_Ok.sub eAlk (e_sub_of rfl ?_) (ih7 (y1 + 1) v2 ⟨j16, j17, (fun b g1 g2 => ⟨(j18 b g1 g2).1, (j18 b g1 g2).2⟩), by omega⟩ (by omega))
              exact ⟨rfl, rfl, trivial⟩
            · replace h21 : (y2 : Int) ≤ w 286 y1 := by have q : ¬ ((y2 : Int) > w 286 y1) := h21; omega
              refine e_Ok.run (t' := (27, [(0, (1, 275)), (1, (0, y1)), (2, (0, y2))], [(1, 275)], v2)) 1 rfl ?_
              refine e_Ok.getr (z := 276) rfl (el_o rfl) rfl rfl ((j16 275 0 no_54_2).trans (e_Has.eq hT rfl)) (by omega) ?_
              refine e_Ok.run (t' := (36, [(0, (1, 275)), (1, (0, y1)), (2, (0, y2))], [(0, y1), (0, 14), (0, 20876), (1, 276)], v2)) 3 rfl ?_
              refine e_Ok.mul (z := 14 * y1) rfl (by omega) (by omega) ?_
              refine e_Ok.add (z := 14 * y1 + 20876) rfl (by omega) (by omega) ?_
              refine e_Ok.run (t' := (40, [(0, (1, 275)), (1, (0, y1)), (2, (0, y2))], [(0, y2), (0, 2), (0, 14 * y1 + 20876), (1, 276)], v2)) 2 rfl ?_
              refine e_Ok.mul (z := 2 * y2) rfl (by omega) (by omega) ?_
              refine e_Ok.add (z := 14 * y1 + 2 * y2 + 20876) rfl (by omega) (by omega) ?_
              refine e_Ok.run (t' := (43, [(0, (1, 275)), (1, (0, y1)), (2, (0, y2))], [(1, 275), (0, 14 * y1 + 2 * y2 + 20876), (1, 276)], v2)) 1 rfl ?_
              refine e_Ok.getr (z := 321) rfl (el_o rfl) rfl rfl ((j16 275 55 no_54_2).trans (e_Has.eq hT rfl)) (by omega) ?_
              refine e_Ok.run (t' := (49, [(0, (1, 275)), (1, (0, y1)), (2, (0, y2))], [(0, y1), (0, 7), (1, 321), (0, 14 * y1 + 2 * y2 + 20876), (1, 276)], v2)) 2 rfl ?_
              refine e_Ok.mul (z := 7 * y1) rfl (by omega) (by omega) ?_
              refine e_Ok.run (t' := (51, [(0, (1, 275)), (1, (0, y1)), (2, (0, y2))], [(0, y2), (0, 7 * y1), (1, 321), (0, 14 * y1 + 2 * y2 + 20876), (1, 276)], v2)) 1 rfl ?_
              refine e_Ok.add (z := 7 * y1 + y2) rfl (by omega) (by omega) ?_
              have h22 := ((j18 y1 (by omega) (by omega)).1 (7 * y1 + y2) (by omega) (by omega))
              refine e_Ok.ald (z := v2 321 (7 * y1 + y2)) rfl (el_o rfl) rfl (by omega) rfl (by omega) ?_
              refine e_Ok.ast rfl (el_o rfl) rfl rfl (by omega) ?_
              generalize hw23 : e_up v2 276 (14 * y1 + 2 * y2 + 20876) (v2 321 (7 * y1 + y2)) = w23
              have f24 : e_fr mK w w23 := e_fr.up j16 hw23 (by unfold mK; omega)
              have hT25 : e_Has mTy w23 := e_Has.upr j17 hw23 (nR_mid (by omega)) (by omega)
              refine e_Ok.run (t' := (55, [(0, (1, 275)), (1, (0, y1)), (2, (0, y2))], [(1, 275)], w23)) 1 rfl ?_
              refine e_Ok.getr (z := 276) rfl (el_o rfl) rfl rfl (by rw [← hw23]; exact (e_up_ne _ _ (Or.inl (by omega))).trans ((j16 275 0 no_54_2).trans (e_Has.eq hT rfl))) (by omega) ?_
              refine e_Ok.run (t' := (64, [(0, (1, 275)), (1, (0, y1)), (2, (0, y2))], [(0, y1), (0, 14), (0, 20876), (1, 276)], w23)) 3 rfl ?_
              refine e_Ok.mul (z := 14 * y1) rfl (by omega) (by omega) ?_
              refine e_Ok.add (z := 14 * y1 + 20876) rfl (by omega) (by omega) ?_
              refine e_Ok.run (t' := (68, [(0, (1, 275)), (1, (0, y1)), (2, (0, y2))], [(0, y2), (0, 2), (0, 14 * y1 + 20876), (1, 276)], w23)) 2 rfl ?_
              refine e_Ok.mul (z := 2 * y2) rfl (by omega) (by omega) ?_
              refine e_Ok.add (z := 14 * y1 + 2 * y2 + 20876) rfl (by omega) (by omega) ?_
              refine e_Ok.run (t' := (71, [(0, (1, 275)), (1, (0, y1)), (2, (0, y2))], [(0, 1), (0, 14 * y1 + 2 * y2 + 20876), (1, 276)], w23)) 1 rfl ?_
              refine e_Ok.add (z := 14 * y1 + 2 * y2 + 20877) rfl (by omega) (by omega) ?_
              refine e_Ok.run (t' := (73, [(0, (1, 275)), (1, (0, y1)), (2, (0, y2))], [(1, 275), (0, 14 * y1 + 2 * y2 + 20877), (1, 276)], w23)) 1 rfl ?_
              refine e_Ok.getr (z := 322) rfl (el_o rfl) rfl rfl (by rw [← hw23]; exact (e_up_ne _ _ (Or.inl (by omega))).trans ((j16 275 56 no_54_2).trans (e_Has.eq hT rfl))) (by omega) ?_
              refine e_Ok.run (t' := (79, [(0, (1, 275)), (1, (0, y1)), (2, (0, y2))], [(0, y1), (0, 7), (1, 322), (0, 14 * y1 + 2 * y2 + 20877), (1, 276)], w23)) 2 rfl ?_
              refine e_Ok.mul (z := 7 * y1) rfl (by omega) (by omega) ?_
              refine e_Ok.run (t' := (81, [(0, (1, 275)), (1, (0, y1)), (2, (0, y2))], [(0, y2), (0, 7 * y1), (1, 322), (0, 14 * y1 + 2 * y2 + 20877), (1, 276)], w23)) 1 rfl ?_
              refine e_Ok.add (z := 7 * y1 + y2) rfl (by omega) (by omega) ?_
              have h26 := ((j18 y1 (by omega) (by omega)).2 (7 * y1 + y2) (by omega) (by omega))
              refine e_Ok.ald (z := v2 322 (7 * y1 + y2)) rfl (el_o rfl) rfl (by omega) (by rw [← hw23]; exact (e_up_ne _ _ (Or.inl (by omega))).trans rfl) (by omega) ?_
              refine e_Ok.ast rfl (el_o rfl) rfl rfl (by omega) ?_
              generalize hw27 : e_up w23 276 (14 * y1 + 2 * y2 + 20877) (v2 322 (7 * y1 + y2)) = w27
              have f28 : e_fr mK w w27 := e_fr.up f24 hw27 (by unfold mK; omega)
              have hT29 : e_Has mTy w27 := e_Has.upr hT25 hw27 (nR_mid (by omega)) (by omega)
              refine e_Ok.inc (z := y2 + 1) rfl rfl (by omega) (by omega) ?_
              show e_Ok 20 elay ecode eI (d + 1) 303 (87, [(2, (0, y2 + 1)), (0, (1, 275)), (1, (0, y1))], [], w27) _
              refine e_Ok.run (t' := (16, [(2, (0, y2 + 1)), (0, (1, 275)), (1, (0, y1))], [], w27)) 1 rfl ?_
              refine e_Ok.sub eAlk (e_sub_of rfl ?_) (ih15 (y2 + 1) w27 ⟨f28, hT29, (fun b g1 g2 => ⟨(e_kn.oth (e_kn.oth (j18 b g1 g2).1 hw23 (by decide)) hw27 (by decide)), (e_kn.oth (e_kn.oth (j18 b g1 g2).2 hw23 (by decide)) hw27 (by decide))⟩), by omega⟩ (by omega))
              exact ⟨rfl, rfl, rfl, trivial⟩
        refine e_Ok.sub eAlk (e_sub_of rfl ?_) (hL14 (8 + 1 : Int).toNat 0 v1 ⟨j8, j9, (fun b g1 g2 => ⟨(j10 b g1 g2).1, (j10 b g1 g2).2⟩), by omega⟩ (by omega))
        exact ⟨rfl, rfl, rfl, trivial⟩
  refine e_Ok.sub eAlk (e_sub_of rfl ?_) (hL6 (5 + 1 : Int).toNat 0 w2 ⟨f5, (mT_P q4 hT), (fun b g1 g2 => ⟨(q4k b g1 g2).1, (q4k b g1 g2).2⟩), by omega⟩ (by omega))
  exact ⟨rfl, rfl, trivial⟩
end
