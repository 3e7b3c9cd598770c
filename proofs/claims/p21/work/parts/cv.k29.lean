noncomputable section
/-! the class: power is switched on -/
section Kv
variable {w w' : eW} {OP OD CL : Int → Int → Int} {h t0 : Int}
/-- power is switched on -/
theorem kI.pon (q : kI w OP OD CL h t0) (hT : e_Has kTy w') (f : e_fr kPw w w') (h3 : w' 74 3 = 1) (hL : lgK w') : kI w' OP OD CL h t0 := by
  refine kI.lg (kI.pup q) hT (fun c k g => ?_) hL
  by_cases g2 : c = 74 ∧ k = 3
  · rw [g2.1, g2.2, e_up_eq]; exact h3
  · rw [e_up_ne _ _ (by omega)]
    refine f c k (fun g3 => g ?_)
    unfold kPw at g3
    rcases g3 with g3 | g3 | g3
    · exact Or.inr (Or.inl ⟨g3.1, by omega⟩)
    · exact Or.inr (Or.inr g3)
    · refine Or.inl (hm_kCi ?_)
      exact Or.inl g3
theorem hm_kCh {c k : Int} (g : kCh c k) : kHm c k := by
  unfold kCh at g
  unfold kHm
  have h1 : 76 ≤ c ∧ c ≤ 81 := by omega
  simp only [h1.1, h1.2, true_and, true_or, or_true]
end Kv
theorem c_33_b {d : Nat} (hd : 21 ≤ d) {w : eW} (hT : e_Has kTy w) {e1 : Int} (g_e1 : (-2147483648) ≤ e1 ∧ e1 ≤ 2147483647) (he : w 74 1 < 2147483647) : e_Ok 20 elay kcode eI d 33 (0, [(0, (1, 74)), (1, (0, e1))], [], w) (fun r w' => ∃ z : Int, r = [(0, z)] ∧ e_fr kPw w w' ∧ e_Has kTy w' ∧ (1 ≤ z ∧ z ≤ 1) ∧ ((w' 74 1 = w 74 1 + 1 ∧ (lgK w → lgK w')) ∧ w' 74 3 = 1)) := by
  obtain ⟨d, rfl⟩ : ∃ e, d = e + 1 := ⟨d - 1, by omega⟩
  have h74 := e_Has.get hT (c := 74) (k := 1) (lo := 0) (hi := 2147483647) rfl (by decide)
  refine e_Ok.run (t' := (2, [(2, (0, 0)), (0, (1, 74)), (1, (0, e1))], [], w)) 2 rfl ?_
  have hL1 : ∀ (nn : Nat) (y2 : Int) (v1 : eW), e_fr kPw w v1 ∧ e_Has kTy v1 ∧ e_fr kNl w v1 ∧ (0 ≤ y2 ∧ y2 ≤ 8) → 8 - y2 < nn → e_Ok 20 elay kcode eI (d + 1) 33 (2, [(0, (1, 74)), (1, (0, e1)), (2, (0, y2))], [], v1) (fun r w' => ∃ z : Int, r = [(0, z)] ∧ e_fr kPw w w' ∧ e_Has kTy w' ∧ (1 ≤ z ∧ z ≤ 1) ∧ ((w' 74 1 = w 74 1 + 1 ∧ (lgK w → lgK w')) ∧ w' 74 3 = 1)) := by
    intro nn
    induction nn with
    | zero => intro y2 v1 hj hm; obtain ⟨j3, j4, j5, j6⟩ := hj; exfalso; omega
    | succ nn ih2 =>
      intro y2 v1 hj hm
      obtain ⟨j3, j4, j5, j6⟩ := hj
      refine e_Ok.run (t' := (4, [(0, (1, 74)), (1, (0, e1)), (2, (0, y2))], [(1, 74), (0, y2)], v1)) 2 rfl ?_
      have h7 := (e_Has.get hT (c := 74) (k := 2) (lo := 0) (hi := 8) rfl (by decide))
      refine e_Ok.getf (z := w 74 2) rfl (el_o rfl) rfl rfl ((j3 74 2 (by unfold kPw; omega)).trans rfl) (by omega) ?_
      refine e_Ok.if2 rfl (fun h8 => ?_) (fun h8 => ?_)
      · replace h8 : (y2 : Int) ≥ w 74 2 := h8
        refine e_Ok.run (t' := (25, [(0, (1, 74)), (1, (0, e1)), (2, (0, y2))], [(0, 1), (1, 74)], v1)) 2 rfl ?_
        refine e_Ok.putb rfl (el_o rfl) rfl rfl (by omega) ?_
        generalize hw9 : e_up v1 74 3 1 = w9
        have f10 : e_fr kPw w w9 := e_fr.up j3 hw9 (by unfold kPw; omega)
        have hT11 : e_Has kTy w9 := e_Has.upr j4 hw9 rfl (by omega)
        refine e_Ok.run (t' := (32, [(0, (1, 74)), (1, (0, e1)), (2, (0, y2))], [(0, 0), (0, e1), (0, 3), (1, 74)], w9)) 4 rfl ?_
        refine e_Ok.callV rfl (by omega) rfl rfl rfl rfl (c_27 hT11 (by omega) (by omega) (by omega) (by rw [(show e_fr kNl w w9 from e_fr.up j5 hw9 (by unfold kNl; omega)) _ _ (by unfold kNl; omega)]; exact he)) (fun r12 w13 h14 => ?_)
        obtain ⟨rfl, q15f, q15T, q15x⟩ := h14
        have f16 : e_fr kPw w w13 := e_fr.trans f10 (e_fr.mono q15f (fun c k q => by unfold kLg at q; unfold kPw; omega))
        show e_Ok 20 elay kcode eI (d + 1) 33 (35, [(0, (1, 74)), (1, (0, e1)), (2, (0, y2))], [], w13) _
        refine e_Ok.run (t' := (36, [(0, (1, 74)), (1, (0, e1)), (2, (0, y2))], [(0, 1)], w13)) 1 rfl ?_
        refine e_Ok.rets rfl rfl ?_
        exact ⟨_, rfl, f16, q15T, ⟨by omega, by omega⟩, ⟨⟨(by rw [q15x.1, (show e_fr kNl w w9 from e_fr.up j5 hw9 (by unfold kNl; omega)) _ _ (by unfold kNl; omega)]), fun hL => q15x.2 (by have f := (show e_fr kNl w w9 from e_fr.up j5 hw9 (by unfold kNl; omega)); exact lgK.ch f hL)⟩, ((q15f 74 3 (by unfold kLg; omega)).trans (by rw [← hw9]; exact e_up_eq _ _ _ _))⟩⟩
      · replace h8 : (y2 : Int) < w 74 2 := by have q : ¬ ((y2 : Int) ≥ w 74 2) := h8; omega
        refine e_Ok.run (t' := (11, [(0, (1, 74)), (1, (0, e1)), (2, (0, y2))], [(1, 74)], v1)) 1 rfl ?_
        refine e_Ok.getr (z := 80) rfl (el_o rfl) rfl rfl ((j3 74 13 (by unfold kPw; omega)).trans (Eq.trans (e_Has.eq hT rfl) (by omega))) (by omega) ?_
        refine e_Ok.run (t' := (16, [(0, (1, 74)), (1, (0, e1)), (2, (0, y2))], [(0, 0), (0, y2), (1, 80)], v1)) 2 rfl ?_
        refine e_Ok.ast rfl (el_o rfl) rfl (e_nar_b (by omega)) (by omega) ?_
        generalize hw17 : e_up v1 80 y2 0 = w17
        have f18 : e_fr kPw w w17 := e_fr.up j3 hw17 (by unfold kPw; omega)
        have hT19 : e_Has kTy w17 := e_Has.upr j4 hw17 rfl (by omega)
        refine e_Ok.inc (z := y2 + 1) rfl rfl (by omega) (by omega) ?_
        show e_Ok 20 elay kcode eI (d + 1) 33 (20, [(2, (0, y2 + 1)), (0, (1, 74)), (1, (0, e1))], [], w17) _
        refine e_Ok.run (t' := (2, [(2, (0, y2 + 1)), (0, (1, 74)), (1, (0, e1))], [], w17)) 1 rfl ?_
        refine e_Ok.sub kAlk (e_sub_of rfl ?_) (ih2 (y2 + 1) w17 ⟨f18, hT19, (show e_fr kNl w w17 from e_fr.up j5 hw17 (by unfold kNl; omega)), by omega⟩ (by omega))
        exact ⟨rfl, rfl, rfl, trivial⟩
  refine e_Ok.sub kAlk (e_sub_of rfl ?_) (hL1 (8 + 1 : Int).toNat 0 w ⟨(e_fr.refl w), hT, (e_fr.refl w), by omega⟩ (by omega))
  exact ⟨rfl, rfl, rfl, trivial⟩
end
