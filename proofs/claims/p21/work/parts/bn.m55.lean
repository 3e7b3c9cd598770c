noncomputable section
theorem c_356_x {d : Nat} (hd : 25 ≤ d) {w : eW} (hT : e_Has mTy w) (hH : e_Has hTy w) {N n mm : Int} (hN : N ≤ 4000) (hm : w 275 94 = mm) (hmm : 0 ≤ mm ∧ mm ≤ 4099) (hnr : 0 ≤ n ∧ n ≤ 9900) (hp : w 275 88 = 0 → NM w N n mm ∧ nK w n mm (fun _ => False)) (h9 : w 339 4 = 0) (h8 : w 338 4 = 0) : e_Ok 20 elay ecode eI d 356 (0, [(0, (1, 275))], [], w) (fun r w' => r = [] ∧ e_fr mRsv w w' ∧ e_Has mTy w' ∧ e_Has hTy w' ∧ ((w 275 88 ≠ 0 ∧ w = w') ∨ (w 275 88 = 0 ∧ (w' 275 88 = 0 → RS w w' n mm mm)))) := by
  by_cases c : w 275 88 = 0
  · exact (c_356 hd hT hH hN hm hmm hnr c (hp c).1 (hp c).2 h9 h8).imp (fun r w' q => ⟨q.1, q.2.1, q.2.2.1, q.2.2.2.1, Or.inr ⟨c, q.2.2.2.2⟩⟩)
  · exact (c_356_0 (by omega) hT hH hN hm hmm hnr c).imp (fun r w' q => by obtain ⟨q1, rfl⟩ := q; exact ⟨q1, e_fr.refl w, hT, hH, Or.inl ⟨c, rfl⟩⟩)
set_option maxHeartbeats 4000000 in
theorem c_357 {d : Nat} (hd : 424 ≤ d) {w : eW} (hT : e_Has mTy w) (hH : e_Has hTy w) {p1 : Int} (g1 : -2147483648 ≤ p1 ∧ p1 ≤ 2147483647) : e_Ok 20 elay ecode eI d 357 (0, [(0, (1, 275)), (1, (0, p1))], [], w) (fun r w' => ∃ z : Int, r = [(0, z)] ∧ ((w = w' ∧ ¬ (w 275 3 = 0 ∧ 0 ≤ p1 ∧ p1 < w 275 10)) ∨ (w 275 3 = 0 ∧ (0 ≤ p1 ∧ p1 < w 275 10) ∧ e_fr (mPg p1) w w' ∧ e_Has mTy w' ∧ e_Has hTy w' ∧ w' 275 9 = 0 ∧ (prS w w' p1 ∨ ∃ (n' nt' nw' : Int) (dl sg pi en : Int → Int) (an br : Int → Int → Prop), cOk w' p1 n' nt' nw' dl sg pi en an br ∧ ∀ r q, br r q → 0 ≤ q ∧ q < nw')))) := by
  obtain ⟨d, rfl⟩ : ∃ e, d = e + 1 := ⟨d - 1, by omega⟩
  have hop := e_Has.get hT (c := 275) (k := 3) (lo := 0) (hi := 1) rfl (by decide)
  have h9 := e_Has.get hH (c := 275) (k := 9) (lo := 0) (hi := 4000) rfl (by decide)
  have h10 := e_Has.get hT (c := 275) (k := 10) (lo := 0) (hi := 4) rfl (by decide)
  refine e_Ok.run (t' := (2, [(0, (1, 275)), (1, (0, p1))], [(0, p1), (1, 275)], w)) 2 rfl ?_
  refine e_Ok.callV rfl (by omega) rfl rfl rfl rfl (c_270 (by omega) hT) (fun r1 w2 h3 => ?_)
  have h4 := e_Has.get hT (c := 275) (k := 10) (lo := 0) (hi := 4) rfl (by decide)
  obtain ⟨z5, rfl, rfl, q6⟩ := h3
  obtain ⟨rfl, q6⟩ | ⟨rfl, q6⟩ := q6
  · show e_Ok 20 elay ecode eI (d + 1) 357 (5, [(0, (1, 275)), (1, (0, p1))], [(0, 1)], w) _
    refine e_Ok.if1 rfl (fun h7 => ?_) (fun h7 => ?_)
    · replace h7 : (1 : Int) ≠ 0 := h7
      refine e_Ok.run (t' := (11, [(0, (1, 275)), (1, (0, p1))], [(1, 275)], w)) 1 rfl ?_
      refine e_Ok.getf (z := w 275 3) rfl (el_o rfl) rfl rfl rfl (by omega) ?_
      refine e_Ok.if1 rfl (fun h8 => ?_) (fun h8 => ?_)
      · replace h8 : (w 275 3 : Int) = 0 := h8
        refine e_Ok.run (t' := (22, [(0, (1, 275)), (1, (0, p1))], [(0, 1), (1, 275)], w)) 2 rfl ?_
        refine e_Ok.putb rfl (el_o rfl) rfl rfl (by omega) ?_
        generalize hw9 : e_up w 275 95 1 = w9
        have f10 : e_fr mPs w w9 := e_fr.up (e_fr.refl w) hw9 (by unfold mPs; omega)
        have hH11 : e_Has hTy w9 := e_Has.upr hH hw9 rfl (by omega)
        have hT12 : e_Has mTy w9 := e_Has.ups hT hw9 rfl
        refine e_Ok.run (t' := (27, [(0, (1, 275)), (1, (0, p1))], [(0, 0), (1, 275)], w9)) 2 rfl ?_
        refine e_Ok.putf rfl (el_o rfl) rfl rfl ?_
        generalize hw13 : e_up w9 275 88 0 = w13
        have f14 : e_fr mPs w w13 := e_fr.up f10 hw13 (by unfold mPs; omega)
        have hH15 : e_Has hTy w13 := e_Has.upr hH11 hw13 rfl (by omega)
        have hT16 : e_Has mTy w13 := e_Has.ups hT12 hw13 rfl
        refine e_Ok.run (t' := (32, [(0, (1, 275)), (1, (0, p1))], [(0, (-1)), (1, 275)], w13)) 2 rfl ?_
        refine e_Ok.putf rfl (el_o rfl) rfl rfl ?_
        generalize hw17 : e_up w13 275 89 (-1) = w17
        have f18 : e_fr mPs w w17 := e_fr.up f14 hw17 (by unfold mPs; omega)
        have hH19 : e_Has hTy w17 := e_Has.upr hH15 hw17 rfl (by omega)
        have hT20 : e_Has mTy w17 := e_Has.ups hT16 hw17 rfl
        refine e_Ok.run (t' := (37, [(0, (1, 275)), (1, (0, p1))], [(0, 0), (1, 275)], w17)) 2 rfl ?_
        refine e_Ok.putf rfl (el_o rfl) rfl rfl ?_
        generalize hw21 : e_up w17 275 78 0 = w21
        have f22 : e_fr mPs w w21 := e_fr.up f18 hw21 (by unfold mPs; omega)
        have hH23 : e_Has hTy w21 := e_Has.ups hH19 hw21 rfl
        have hT24 : e_Has mTy w21 := e_Has.ups hT20 hw21 rfl
        refine e_Ok.run (t' := (42, [(0, (1, 275)), (1, (0, p1))], [(0, 0), (1, 275)], w21)) 2 rfl ?_
        refine e_Ok.putf rfl (el_o rfl) rfl rfl ?_
        generalize hw25 : e_up w21 275 79 0 = w25
        have f26 : e_fr mPs w w25 := e_fr.up f22 hw25 (by unfold mPs; omega)
        have hH27 : e_Has hTy w25 := e_Has.ups hH23 hw25 rfl
        have hT28 : e_Has mTy w25 := e_Has.ups hT24 hw25 rfl
        refine e_Ok.run (t' := (47, [(0, (1, 275)), (1, (0, p1))], [(0, 0), (1, 275)], w25)) 2 rfl ?_
        refine e_Ok.putf rfl (el_o rfl) rfl rfl ?_
        generalize hw29 : e_up w25 275 80 0 = w29
        have f30 : e_fr mPs w w29 := e_fr.up f26 hw29 (by unfold mPs; omega)
        have hH31 : e_Has hTy w29 := e_Has.ups hH27 hw29 rfl
        have hT32 : e_Has mTy w29 := e_Has.ups hT28 hw29 rfl
        refine e_Ok.run (t' := (52, [(0, (1, 275)), (1, (0, p1))], [(0, (-1)), (1, 275)], w29)) 2 rfl ?_
        refine e_Ok.putf rfl (el_o rfl) rfl rfl ?_
        generalize hw33 : e_up w29 275 81 (-1) = w33
        have f34 : e_fr mPs w w33 := e_fr.up f30 hw33 (by unfold mPs; omega)
        have hH35 : e_Has hTy w33 := e_Has.ups hH31 hw33 rfl
        have hT36 : e_Has mTy w33 := e_Has.ups hT32 hw33 rfl
        refine e_Ok.run (t' := (57, [(0, (1, 275)), (1, (0, p1))], [(0, (-1)), (1, 275)], w33)) 2 rfl ?_
        refine e_Ok.putf rfl (el_o rfl) rfl rfl ?_
        generalize hw37 : e_up w33 275 82 (-1) = w37
        have f38 : e_fr mPs w w37 := e_fr.up f34 hw37 (by unfold mPs; omega)
        have hH40 : e_Has hTy w37 := e_Has.ups hH35 hw37 rfl
        have hT41 : e_Has mTy w37 := e_Has.ups hT36 hw37 rfl
        refine e_Ok.run (t' := (62, [(0, (1, 275)), (1, (0, p1))], [(0, 0), (1, 275)], w37)) 2 rfl ?_
        refine e_Ok.putf rfl (el_o rfl) rfl rfl ?_
        generalize hw42 : e_up w37 275 83 0 = w42
        have f43 : e_fr mPs w w42 := e_fr.up f38 hw42 (by unfold mPs; omega)
        have hH44 : e_Has hTy w42 := e_Has.ups hH40 hw42 rfl
        have hT45 : e_Has mTy w42 := e_Has.ups hT41 hw42 rfl
        refine e_Ok.run (t' := (67, [(0, (1, 275)), (1, (0, p1))], [(0, 0), (1, 275)], w42)) 2 rfl ?_
        refine e_Ok.putf rfl (el_o rfl) rfl rfl ?_
        generalize hw46 : e_up w42 275 94 0 = w46
        have f47 : e_fr mPs w w46 := e_fr.up f43 hw46 (by unfold mPs; omega)
        have hH48 : e_Has hTy w46 := e_Has.ups hH44 hw46 rfl
        have hT49 : e_Has mTy w46 := e_Has.ups hT45 hw46 rfl
        refine e_Ok.run (t' := (71, [(0, (1, 275)), (1, (0, p1))], [(1, 275)], w46)) 1 rfl ?_
        refine e_Ok.getr (z := 339) rfl (el_o rfl) rfl rfl (by rw [← hw46]; exact (e_up_ne _ _ (Or.inr (by omega))).trans (by rw [← hw42]; exact (e_up_ne _ _ (Or.inr (by omega))).trans (by rw [← hw37]; exact (e_up_ne _ _ (Or.inr (by omega))).trans (by rw [← hw33]; exact (e_up_ne _ _ (Or.inr (by omega))).trans (by rw [← hw29]; exact (e_up_ne _ _ (Or.inr (by omega))).trans (by rw [← hw25]; exact (e_up_ne _ _ (Or.inr (by omega))).trans (by rw [← hw21]; exact (e_up_ne _ _ (Or.inr (by omega))).trans (by rw [← hw17]; exact (e_up_ne _ _ (Or.inr (by omega))).trans (by rw [← hw13]; exact (e_up_ne _ _ (Or.inr (by omega))).trans (by rw [← hw9]; exact (e_up_ne _ _ (Or.inr (by omega))).trans (e_Has.eq hT rfl))))))))))) (by omega) ?_
        refine e_Ok.run (t' := (76, [(0, (1, 275)), (1, (0, p1))], [(0, 0), (0, 4), (1, 339)], w46)) 2 rfl ?_
        refine e_Ok.ast rfl (el_o rfl) rfl rfl (by omega) ?_
        generalize hw50 : e_up w46 339 4 0 = w50
        have f51 : e_fr mPs w w50 := e_fr.up f47 hw50 (by unfold mPs; omega)
        have hH52 : e_Has hTy w50 := e_Has.ups hH48 hw50 rfl
        have hT53 : e_Has mTy w50 := e_Has.upr hT49 hw50 rfl (by omega)
        refine e_Ok.run (t' := (78, [(0, (1, 275)), (1, (0, p1))], [(1, 275)], w50)) 1 rfl ?_
        refine e_Ok.getr (z := 338) rfl (el_o rfl) rfl rfl (by rw [← hw50]; exact (e_up_ne _ _ (Or.inl (by omega))).trans (by rw [← hw46]; exact (e_up_ne _ _ (Or.inr (by omega))).trans (by rw [← hw42]; exact (e_up_ne _ _ (Or.inr (by omega))).trans (by rw [← hw37]; exact (e_up_ne _ _ (Or.inr (by omega))).trans (by rw [← hw33]; exact (e_up_ne _ _ (Or.inr (by omega))).trans (by rw [← hw29]; exact (e_up_ne _ _ (Or.inr (by omega))).trans (by rw [← hw25]; exact (e_up_ne _ _ (Or.inr (by omega))).trans (by rw [← hw21]; exact (e_up_ne _ _ (Or.inr (by omega))).trans (by rw [← hw17]; exact (e_up_ne _ _ (Or.inr (by omega))).trans (by rw [← hw13]; exact (e_up_ne _ _ (Or.inr (by omega))).trans (by rw [← hw9]; exact (e_up_ne _ _ (Or.inr (by omega))).trans (e_Has.eq hT rfl)))))))))))) (by omega) ?_
        refine e_Ok.run (t' := (83, [(0, (1, 275)), (1, (0, p1))], [(0, 0), (0, 4), (1, 338)], w50)) 2 rfl ?_
        refine e_Ok.ast rfl (el_o rfl) rfl rfl (by omega) ?_
        generalize hw54 : e_up w50 338 4 0 = w54
        have f55 : e_fr mPs w w54 := e_fr.up f51 hw54 (by unfold mPs; omega)
        have hH56 : e_Has hTy w54 := e_Has.ups hH52 hw54 rfl
        have hT57 : e_Has mTy w54 := e_Has.upr hT53 hw54 rfl (by omega)
        refine e_Ok.run (t' := (86, [(0, (1, 275)), (1, (0, p1))], [(0, 0), (1, 275)], w54)) 2 rfl ?_
        refine e_Ok.putf rfl (el_o rfl) rfl rfl ?_
        generalize hw58 : e_up w54 275 87 0 = w58
        have f59 : e_fr mPs w w58 := e_fr.up f55 hw58 (by unfold mPs; omega)
        have hH60 : e_Has hTy w58 := e_Has.ups hH56 hw58 rfl
        have hT61 : e_Has mTy w58 := e_Has.ups hT57 hw58 rfl
        refine e_Ok.run (t' := (90, [(0, (1, 275)), (1, (0, p1))], [(1, 275)], w58)) 1 rfl ?_
        refine e_Ok.callV rfl (by omega) rfl rfl rfl rfl (c_327 (by omega) hT61 hH60 (show w58 275 9 = w 275 9 from (by rw [← hw58]; exact (e_up_ne _ _ (Or.inr (by omega))).trans (by rw [← hw54]; exact (e_up_ne _ _ (Or.inl (by omega))).trans (by rw [← hw50]; exact (e_up_ne _ _ (Or.inl (by omega))).trans (by rw [← hw46]; exact (e_up_ne _ _ (Or.inr (by omega))).trans (by rw [← hw42]; exact (e_up_ne _ _ (Or.inr (by omega))).trans (by rw [← hw37]; exact (e_up_ne _ _ (Or.inr (by omega))).trans (by rw [← hw33]; exact (e_up_ne _ _ (Or.inr (by omega))).trans (by rw [← hw29]; exact (e_up_ne _ _ (Or.inr (by omega))).trans (by rw [← hw25]; exact (e_up_ne _ _ (Or.inr (by omega))).trans (by rw [← hw21]; exact (e_up_ne _ _ (Or.inr (by omega))).trans (by rw [← hw17]; exact (e_up_ne _ _ (Or.inr (by omega))).trans (by rw [← hw13]; exact (e_up_ne _ _ (Or.inr (by omega))).trans (by rw [← hw9]; exact (e_up_ne _ _ (Or.inr (by omega))).trans rfl)))))))))))))) h9 (t := 0) (show w58 275 87 = 0 from (by rw [← hw58]; exact e_up_eq _ _ _ _)) (by omega)) (fun r62 w63 h64 => ?_)
        obtain ⟨rfl, q, qs, qt⟩ := h64
        have hz : w63 275 78 = 0 ∧ w63 275 79 = 0 ∧ w63 275 80 = 0 ∧ w63 275 81 = -1 ∧ w63 275 82 = -1 ∧ w63 275 83 = 0 ∧ w63 275 94 = 0 := ⟨Eq.trans (q 275 78 (mTq_fld (by decide))) (show w58 275 78 = 0 from (by rw [← hw58]; exact (e_up_ne _ _ (Or.inr (by omega))).trans (by rw [← hw54]; exact (e_up_ne _ _ (Or.inl (by omega))).trans (by rw [← hw50]; exact (e_up_ne _ _ (Or.inl (by omega))).trans (by rw [← hw46]; exact (e_up_ne _ _ (Or.inr (by omega))).trans (by rw [← hw42]; exact (e_up_ne _ _ (Or.inr (by omega))).trans (by rw [← hw37]; exact (e_up_ne _ _ (Or.inr (by omega))).trans (by rw [← hw33]; exact (e_up_ne _ _ (Or.inr (by omega))).trans (by rw [← hw29]; exact (e_up_ne _ _ (Or.inr (by omega))).trans (by rw [← hw25]; exact (e_up_ne _ _ (Or.inr (by omega))).trans (by rw [← hw21]; exact e_up_eq _ _ _ _))))))))))), Eq.trans (q 275 79 (mTq_fld (by decide))) (show w58 275 79 = 0 from (by rw [← hw58]; exact (e_up_ne _ _ (Or.inr (by omega))).trans (by rw [← hw54]; exact (e_up_ne _ _ (Or.inl (by omega))).trans (by rw [← hw50]; exact (e_up_ne _ _ (Or.inl (by omega))).trans (by rw [← hw46]; exact (e_up_ne _ _ (Or.inr (by omega))).trans (by rw [← hw42]; exact (e_up_ne _ _ (Or.inr (by omega))).trans (by rw [← hw37]; exact (e_up_ne _ _ (Or.inr (by omega))).trans (by rw [← hw33]; exact (e_up_ne _ _ (Or.inr (by omega))).trans (by rw [← hw29]; exact (e_up_ne _ _ (Or.inr (by omega))).trans (by rw [← hw25]; exact e_up_eq _ _ _ _)))))))))), Eq.trans (q 275 80 (mTq_fld (by decide))) (show w58 275 80 = 0 from (by rw [← hw58]; exact (e_up_ne _ _ (Or.inr (by omega))).trans (by rw [← hw54]; exact (e_up_ne _ _ (Or.inl (by omega))).trans (by rw [← hw50]; exact (e_up_ne _ _ (Or.inl (by omega))).trans (by rw [← hw46]; exact (e_up_ne _ _ (Or.inr (by omega))).trans (by rw [← hw42]; exact (e_up_ne _ _ (Or.inr (by omega))).trans (by rw [← hw37]; exact (e_up_ne _ _ (Or.inr (by omega))).trans (by rw [← hw33]; exact (e_up_ne _ _ (Or.inr (by omega))).trans (by rw [← hw29]; exact e_up_eq _ _ _ _))))))))), Eq.trans (q 275 81 (mTq_fld (by decide))) (show w58 275 81 = (-1) from (by rw [← hw58]; exact (e_up_ne _ _ (Or.inr (by omega))).trans (by rw [← hw54]; exact (e_up_ne _ _ (Or.inl (by omega))).trans (by rw [← hw50]; exact (e_up_ne _ _ (Or.inl (by omega))).trans (by rw [← hw46]; exact (e_up_ne _ _ (Or.inr (by omega))).trans (by rw [← hw42]; exact (e_up_ne _ _ (Or.inr (by omega))).trans (by rw [← hw37]; exact (e_up_ne _ _ (Or.inr (by omega))).trans (by rw [← hw33]; exact e_up_eq _ _ _ _)))))))), Eq.trans (q 275 82 (mTq_fld (by decide))) (show w58 275 82 = (-1) from (by rw [← hw58]; exact (e_up_ne _ _ (Or.inr (by omega))).trans (by rw [← hw54]; exact (e_up_ne _ _ (Or.inl (by omega))).trans (by rw [← hw50]; exact (e_up_ne _ _ (Or.inl (by omega))).trans (by rw [← hw46]; exact (e_up_ne _ _ (Or.inr (by omega))).trans (by rw [← hw42]; exact (e_up_ne _ _ (Or.inr (by omega))).trans (by rw [← hw37]; exact e_up_eq _ _ _ _))))))), Eq.trans (q 275 83 (mTq_fld (by decide))) (show w58 275 83 = 0 from (by rw [← hw58]; exact (e_up_ne _ _ (Or.inr (by omega))).trans (by rw [← hw54]; exact (e_up_ne _ _ (Or.inl (by omega))).trans (by rw [← hw50]; exact (e_up_ne _ _ (Or.inl (by omega))).trans (by rw [← hw46]; exact (e_up_ne _ _ (Or.inr (by omega))).trans (by rw [← hw42]; exact e_up_eq _ _ _ _)))))), Eq.trans (q 275 94 (mTq_fld (by decide))) (show w58 275 94 = 0 from (by rw [← hw58]; exact (e_up_ne _ _ (Or.inr (by omega))).trans (by rw [← hw54]; exact (e_up_ne _ _ (Or.inl (by omega))).trans (by rw [← hw50]; exact (e_up_ne _ _ (Or.inl (by omega))).trans (by rw [← hw46]; exact e_up_eq _ _ _ _)))))⟩
        have h88 : w63 275 88 = 0 := Eq.trans (q 275 88 (mTq_fld (by decide))) (show w58 275 88 = 0 from (by rw [← hw58]; exact (e_up_ne _ _ (Or.inr (by omega))).trans (by rw [← hw54]; exact (e_up_ne _ _ (Or.inl (by omega))).trans (by rw [← hw50]; exact (e_up_ne _ _ (Or.inl (by omega))).trans (by rw [← hw46]; exact (e_up_ne _ _ (Or.inr (by omega))).trans (by rw [← hw42]; exact (e_up_ne _ _ (Or.inr (by omega))).trans (by rw [← hw37]; exact (e_up_ne _ _ (Or.inr (by omega))).trans (by rw [← hw33]; exact (e_up_ne _ _ (Or.inr (by omega))).trans (by rw [← hw29]; exact (e_up_ne _ _ (Or.inr (by omega))).trans (by rw [← hw25]; exact (e_up_ne _ _ (Or.inr (by omega))).trans (by rw [← hw21]; exact (e_up_ne _ _ (Or.inr (by omega))).trans (by rw [← hw17]; exact (e_up_ne _ _ (Or.inr (by omega))).trans (by rw [← hw13]; exact e_up_eq _ _ _ _)))))))))))))
        have h338 : w63 338 4 = 0 := Eq.trans (q 338 4 (mTq_not (by decide))) (show w58 338 4 = 0 from (by rw [← hw58]; exact (e_up_ne _ _ (Or.inl (by omega))).trans (by rw [← hw54]; exact e_up_eq _ _ _ _)))
        have h339 : w63 339 4 = 0 := Eq.trans (q 339 4 (mTq_not (by decide))) (show w58 339 4 = 0 from (by rw [← hw58]; exact (e_up_ne _ _ (Or.inl (by omega))).trans (by rw [← hw54]; exact (e_up_ne _ _ (Or.inl (by omega))).trans (by rw [← hw50]; exact e_up_eq _ _ _ _))))
        have hcs : cSt w63 (w 275 9) := ⟨mT_Tq q hT61, hT_Tq q hH60, Eq.trans (q 275 9 (mTq_fld (by decide))) (show w58 275 9 = w 275 9 from (by rw [← hw58]; exact (e_up_ne _ _ (Or.inr (by omega))).trans (by rw [← hw54]; exact (e_up_ne _ _ (Or.inl (by omega))).trans (by rw [← hw50]; exact (e_up_ne _ _ (Or.inl (by omega))).trans (by rw [← hw46]; exact (e_up_ne _ _ (Or.inr (by omega))).trans (by rw [← hw42]; exact (e_up_ne _ _ (Or.inr (by omega))).trans (by rw [← hw37]; exact (e_up_ne _ _ (Or.inr (by omega))).trans (by rw [← hw33]; exact (e_up_ne _ _ (Or.inr (by omega))).trans (by rw [← hw29]; exact (e_up_ne _ _ (Or.inr (by omega))).trans (by rw [← hw25]; exact (e_up_ne _ _ (Or.inr (by omega))).trans (by rw [← hw21]; exact (e_up_ne _ _ (Or.inr (by omega))).trans (by rw [← hw17]; exact (e_up_ne _ _ (Or.inr (by omega))).trans (by rw [← hw13]; exact (e_up_ne _ _ (Or.inr (by omega))).trans (by rw [← hw9]; exact (e_up_ne _ _ (Or.inr (by omega))).trans rfl)))))))))))))), qs, by rw [hz.2.2.2.1]; decide⟩
        have f1 : e_fr mPs w w63 := e_fr.trans f59 (e_fr.mono q (fun c k g => by unfold mTq at g; unfold mPs; omega))
        have xt1 := tkS.lin hcs.2.2.2.1
        show e_Ok 20 elay ecode eI (d + 1) 357 (93, [(0, (1, 275)), (1, (0, p1))], [], w63) _
        refine e_Ok.run (t' := (94, [(0, (1, 275)), (1, (0, p1))], [(1, 275)], w63)) 1 rfl ?_
        refine e_Ok.callV rfl (by omega) rfl rfl rfl rfl (c_353 (by omega) hcs h9 h88 hz) (fun r65 w66 h67 => ?_)
        obtain ⟨rfl, xF, xc, xl, xg⟩ := h67
        rw [hz.1, hz.2.1, hz.2.2.1, hz.2.2.2.2.2.2] at xF
        unfold stL at xl
        rw [hz.1, hz.2.1, hz.2.2.1, hz.2.2.2.2.2.2] at xl
        rw [hz.2.2.2.1] at xg
        replace xg := (show Hid _ from xg)
        obtain ⟨x1, x2, x3, x4, x5, x6, -, -, -, -, -, -⟩ := xl
        have xt := tkS.lin xc.2.2.2.1
        have xk := e_Has.get xc.2.1 (c := 275) (k := 88) (lo := 0) (hi := 7) rfl (by decide)
        have f2 : e_fr mPs w w66 := e_fr.trans f1 (e_fr.mono xF (fun c k g => by unfold mStm at g; unfold mPs; omega))
        have x338 : w66 338 4 = 0 := Eq.trans (xF 338 4 (by unfold mStm; omega)) h338
        have x339 : w66 339 4 = 0 := Eq.trans (xF 339 4 (by unfold mStm; omega)) h339
        show e_Ok 20 elay ecode eI (d + 1) 357 (97, [(0, (1, 275)), (1, (0, p1))], [], w66) _
        refine e_Ok.run (t' := (98, [(0, (1, 275)), (1, (0, p1))], [(1, 275)], w66)) 1 rfl ?_
        refine e_Ok.callV rfl (by omega) rfl rfl rfl rfl (c_356_x (by omega) xc.1 xc.2.1 (N := w 275 9) (n := w66 275 78) (mm := w66 275 94) (by omega) rfl (by omega) (by omega) (fun z => ⟨(GX.gb (xg.out z)).1.1.2, (GX.gb (xg.out z)).1.2.2.2.2.2.2.2.2.2.2⟩) x339 x338) (fun r68 w69 h70 => ?_)
        obtain ⟨rfl, rF, rT, rH, rq⟩ := h70
        replace rq := (show Hid _ from rq)
        have f3 : e_fr mPs w w69 := e_fr.trans f2 (e_fr.mono rF (fun c k g => by unfold mRsv at g; unfold mPs; omega))
        have rk := e_Has.get rH (c := 275) (k := 88) (lo := 0) (hi := 7) rfl (by decide)
        show e_Ok 20 elay ecode eI (d + 1) 357 (101, [(0, (1, 275)), (1, (0, p1))], [], w69) _
        refine e_Ok.run (t' := (103, [(0, (1, 275)), (1, (0, p1))], [(0, 0), (1, 275)], w69)) 2 rfl ?_
        refine e_Ok.putf rfl (el_o rfl) rfl rfl ?_
        generalize hw71 : e_up w69 275 9 0 = w71
        have f72 : e_fr mPs w w71 := e_fr.up f3 hw71 (by unfold mPs; omega)
        have hH73 : e_Has hTy w71 := e_Has.upr rH hw71 rfl (by omega)
        have hT74 : e_Has mTy w71 := e_Has.ups rT hw71 rfl
        refine e_Ok.run (t' := (107, [(0, (1, 275)), (1, (0, p1))], [(1, 275)], w71)) 1 rfl ?_
        have h75 := (e_Has.get rH (c := 275) (k := 88) (lo := 0) (hi := 7) rfl (by decide))
        refine e_Ok.getf (z := w69 275 88) rfl (el_o rfl) rfl rfl (by rw [← hw71]; exact (e_up_ne _ _ (Or.inr (by omega))).trans rfl) (by omega) ?_
        refine e_Ok.if1 rfl (fun h76 => ?_) (fun h76 => ?_)
        · replace h76 : (w69 275 88 : Int) = 0 := h76
          have hX78 : w71 275 78 = w66 275 78 := (by rw [← hw71]; exact (e_up_ne _ _ (Or.inr (by omega))).trans ((rF 275 78 (by unfold mRsv; omega)).trans rfl))
          have hG2 : w66 275 88 = 0 ∧ RS w66 w69 (w66 275 78) (w66 275 94) (w66 275 94) := by rcases rq.out with ⟨y1, y2⟩ | ⟨y1, y2⟩; exact absurd (by rw [y2]; omega) y1; exact ⟨y1, y2 (by omega)⟩
          have hgx := xg.out hG2.1
          have hG21 := hG2.1
          replace x3 := x3 hG21
          have hnb : 0 ≤ w66 275 78 ∧ w66 275 78 ≤ 9900 := by omega
          have hnt : w66 275 79 ≤ 900 ∧ w66 275 80 ≤ 900 := by omega
          refine e_Ok.run (t' := (123, [(2, (0, 0)), (0, (1, 275)), (1, (0, p1))], [], w71)) 2 rfl ?_
          have hL77 : ∀ (nn : Nat) (y2 : Int) (v1 : eW), cp3 w71 v1 p1 y2 ∧ e_Has mTy v1 ∧ e_Has hTy v1 ∧ ((0 ≤ y2 ∧ y2 ≤ w66 275 78)) → 9900 - y2 < nn → e_Ok 20 elay ecode eI (d + 1) 357 (123, [(0, (1, 275)), (1, (0, p1)), (2, (0, y2))], [], v1) (fun r w' => ∃ z : Int, r = [(0, z)] ∧ ((w = w' ∧ ¬ (w 275 3 = 0 ∧ 0 ≤ p1 ∧ p1 < w 275 10)) ∨ (w 275 3 = 0 ∧ (0 ≤ p1 ∧ p1 < w 275 10) ∧ e_fr (mPg p1) w w' ∧ e_Has mTy w' ∧ e_Has hTy w' ∧ w' 275 9 = 0 ∧ (prS w w' p1 ∨ ∃ (n' nt' nw' : Int) (dl sg pi en : Int → Int) (an br : Int → Int → Prop), cOk w' p1 n' nt' nw' dl sg pi en an br ∧ ∀ r q, br r q → 0 ≤ q ∧ q < nw')))) := by
            intro nn
            induction nn with
            | zero => intro y2 v1 hj hm; obtain ⟨j79, j80, j81, j82⟩ := hj; exfalso; omega
            | succ nn ih78 =>
              intro y2 v1 hj hm
              obtain ⟨j79, j80, j81, j82⟩ := hj
              refine e_Ok.run (t' := (125, [(0, (1, 275)), (1, (0, p1)), (2, (0, y2))], [(1, 275), (0, y2)], v1)) 2 rfl ?_
              refine e_Ok.getf (z := w66 275 78) rfl (el_o rfl) rfl rfl (Eq.trans (j79.1 275 78 (by omega)) hX78) (by omega) ?_
              refine e_Ok.if2 rfl (fun h83 => ?_) (fun h83 => ?_)
              · replace h83 : (y2 : Int) ≥ w66 275 78 := h83
                refine e_Ok.run (t' := (205, [(2, (0, 0)), (0, (1, 275)), (1, (0, p1))], [], v1)) 2 rfl ?_
                have hL84 : ∀ (nn : Nat) (z2 : Int) (v2 : eW), cp6 v1 v2 p1 z2 ∧ e_Has mTy v2 ∧ e_Has hTy v2 ∧ ((0 ≤ z2 ∧ z2 ≤ 900)) → 900 - z2 < nn → e_Ok 20 elay ecode eI (d + 1) 357 (205, [(0, (1, 275)), (1, (0, p1)), (2, (0, z2))], [], v2) (fun r w' => ∃ z : Int, r = [(0, z)] ∧ ((w = w' ∧ ¬ (w 275 3 = 0 ∧ 0 ≤ p1 ∧ p1 < w 275 10)) ∨ (w 275 3 = 0 ∧ (0 ≤ p1 ∧ p1 < w 275 10) ∧ e_fr (mPg p1) w w' ∧ e_Has mTy w' ∧ e_Has hTy w' ∧ w' 275 9 = 0 ∧ (prS w w' p1 ∨ ∃ (n' nt' nw' : Int) (dl sg pi en : Int → Int) (an br : Int → Int → Prop), cOk w' p1 n' nt' nw' dl sg pi en an br ∧ ∀ r q, br r q → 0 ≤ q ∧ q < nw')))) := by
                  intro nn
                  induction nn with
                  | zero => intro z2 v2 hj hm; obtain ⟨j86, j87, j88, j89⟩ := hj; exfalso; omega
                  | succ nn ih85 =>
                    intro z2 v2 hj hm
                    obtain ⟨j86, j87, j88, j89⟩ := hj
                    refine e_Ok.run (t' := (209, [(0, (1, 275)), (1, (0, p1)), (2, (0, z2))], [(0, 900), (0, z2)], v2)) 2 rfl ?_
                    refine e_Ok.if2 rfl (fun h90 => ?_) (fun h90 => ?_)
                    · replace h90 : (z2 : Int) ≥ 900 := h90
                      refine e_Ok.run (t' := (352, [(2, (0, 0)), (0, (1, 275)), (1, (0, p1))], [], v2)) 2 rfl ?_
                      have hL91 : ∀ (nn : Nat) (t2 : Int) (v3 : eW), cp2 v2 v3 p1 t2 ∧ e_Has mTy v3 ∧ e_Has hTy v3 ∧ ((0 ≤ t2 ∧ t2 ≤ 32)) → 32 - t2 < nn → e_Ok 20 elay ecode eI (d + 1) 357 (352, [(0, (1, 275)), (1, (0, p1)), (2, (0, t2))], [], v3) (fun r w' => ∃ z : Int, r = [(0, z)] ∧ ((w = w' ∧ ¬ (w 275 3 = 0 ∧ 0 ≤ p1 ∧ p1 < w 275 10)) ∨ (w 275 3 = 0 ∧ (0 ≤ p1 ∧ p1 < w 275 10) ∧ e_fr (mPg p1) w w' ∧ e_Has mTy w' ∧ e_Has hTy w' ∧ w' 275 9 = 0 ∧ (prS w w' p1 ∨ ∃ (n' nt' nw' : Int) (dl sg pi en : Int → Int) (an br : Int → Int → Prop), cOk w' p1 n' nt' nw' dl sg pi en an br ∧ ∀ r q, br r q → 0 ≤ q ∧ q < nw')))) := by
                        intro nn
                        induction nn with
                        | zero => intro t2 v3 hj hm; obtain ⟨j93, j94, j95, j101⟩ := hj; exfalso; omega
                        | succ nn ih92 =>
                          intro t2 v3 hj hm
                          obtain ⟨j93, j94, j95, j101⟩ := hj
                          refine e_Ok.run (t' := (355, [(0, (1, 275)), (1, (0, p1)), (2, (0, t2))], [(0, 32), (0, t2)], v3)) 2 rfl ?_
                          refine e_Ok.if2 rfl (fun h103 => ?_) (fun h103 => ?_)
                          · replace h103 : (t2 : Int) ≥ 32 := h103
                            refine e_Ok.run (t' := (402, [(0, (1, 275)), (1, (0, p1)), (2, (0, t2))], [(1, 275)], v3)) 1 rfl ?_
                            refine e_Ok.getr (z := 338) rfl (el_o rfl) rfl rfl (e_Has.eq j94 rfl) (by omega) ?_
                            refine e_Ok.run (t' := (407, [(0, (1, 275)), (1, (0, p1)), (2, (0, t2))], [(1, 275), (0, p1), (1, 338)], v3)) 2 rfl ?_
                            refine e_Ok.getr (z := 338) rfl (el_o rfl) rfl rfl (e_Has.eq j94 rfl) (by omega) ?_
                            refine e_Ok.run (t' := (411, [(0, (1, 275)), (1, (0, p1)), (2, (0, t2))], [(0, 4), (1, 338), (0, p1), (1, 338)], v3)) 1 rfl ?_
                            have h104 := (e_Has.get j94 (c := 338) (k := 4) (lo := 0) (hi := 32) rfl (by decide))
                            refine e_Ok.ald (z := v3 338 4) rfl (el_o rfl) rfl (by omega) rfl (by omega) ?_
                            refine e_Ok.ast rfl (el_o rfl) rfl rfl (by omega) ?_
                            generalize hw105 : e_up v3 338 p1 (v3 338 4) = w105
                            have hH106 : e_Has hTy w105 := e_Has.ups j95 hw105 rfl
                            have hT107 : e_Has mTy w105 := e_Has.upr j94 hw105 rfl (by omega)
                            refine e_Ok.run (t' := (414, [(0, (1, 275)), (1, (0, p1)), (2, (0, t2))], [(1, 275)], w105)) 1 rfl ?_
                            refine e_Ok.getr (z := 339) rfl (el_o rfl) rfl rfl (by rw [← hw105]; exact (e_up_ne _ _ (Or.inl (by omega))).trans (e_Has.eq j94 rfl)) (by omega) ?_
                            refine e_Ok.run (t' := (419, [(0, (1, 275)), (1, (0, p1)), (2, (0, t2))], [(1, 275), (0, p1), (1, 339)], w105)) 2 rfl ?_
                            refine e_Ok.getr (z := 339) rfl (el_o rfl) rfl rfl (by rw [← hw105]; exact (e_up_ne _ _ (Or.inl (by omega))).trans (e_Has.eq j94 rfl)) (by omega) ?_
                            refine e_Ok.run (t' := (423, [(0, (1, 275)), (1, (0, p1)), (2, (0, t2))], [(0, 4), (1, 339), (0, p1), (1, 339)], w105)) 1 rfl ?_
                            have h108 := (e_Has.get j94 (c := 339) (k := 4) (lo := 0) (hi := 32) rfl (by decide))
                            refine e_Ok.ald (z := v3 339 4) rfl (el_o rfl) rfl (by omega) (by rw [← hw105]; exact (e_up_ne _ _ (Or.inl (by omega))).trans rfl) (by omega) ?_
                            refine e_Ok.ast rfl (el_o rfl) rfl rfl (by omega) ?_
                            generalize hw109 : e_up w105 339 p1 (v3 339 4) = w109
                            have hH110 : e_Has hTy w109 := e_Has.ups hH106 hw109 rfl
                            have hT111 : e_Has mTy w109 := e_Has.upr hT107 hw109 rfl (by omega)
                            refine e_Ok.run (t' := (426, [(0, (1, 275)), (1, (0, p1)), (2, (0, t2))], [(1, 275)], w109)) 1 rfl ?_
                            refine e_Ok.getr (z := 340) rfl (el_o rfl) rfl rfl (by rw [← hw109]; exact (e_up_ne _ _ (Or.inl (by omega))).trans (by rw [← hw105]; exact (e_up_ne _ _ (Or.inl (by omega))).trans (e_Has.eq j94 rfl))) (by omega) ?_
                            refine e_Ok.run (t' := (431, [(0, (1, 275)), (1, (0, p1)), (2, (0, t2))], [(0, 1), (0, p1), (1, 340)], w109)) 2 rfl ?_
                            refine e_Ok.ast rfl (el_o rfl) rfl (e_nar_b (by omega)) (by omega) ?_
                            generalize hw112 : e_up w109 340 p1 1 = w112
                            have hH113 : e_Has hTy w112 := e_Has.ups hH110 hw112 rfl
                            have hT114 : e_Has mTy w112 := e_Has.upr hT111 hw112 rfl (by omega)
                            refine e_Ok.run (t' := (433, [(0, (1, 275)), (1, (0, p1)), (2, (0, t2))], [(1, 275)], w112)) 1 rfl ?_
                            refine e_Ok.getr (z := 338) rfl (el_o rfl) rfl rfl (by rw [← hw112]; exact (e_up_ne _ _ (Or.inl (by omega))).trans (by rw [← hw109]; exact (e_up_ne _ _ (Or.inl (by omega))).trans (by rw [← hw105]; exact (e_up_ne _ _ (Or.inl (by omega))).trans (e_Has.eq j94 rfl)))) (by omega) ?_
                            refine e_Ok.run (t' := (437, [(0, (1, 275)), (1, (0, p1)), (2, (0, t2))], [(0, p1), (1, 338)], w112)) 1 rfl ?_
                            refine e_Ok.ald (z := v3 338 4) rfl (el_o rfl) rfl (by omega) (by rw [← hw112]; exact (e_up_ne _ _ (Or.inl (by omega))).trans (by rw [← hw109]; exact (e_up_ne _ _ (Or.inl (by omega))).trans (by rw [← hw105]; exact e_up_eq _ _ _ _))) (by omega) ?_
                            refine e_Ok.rets rfl rfl ?_
                            have hfr : e_fr (mPg p1) w w112 := fun c k g => by
                              have g' := g
                              unfold mPg mPs at g'
                              rw [← hw112, e_up_ne _ _ (by omega), ← hw109, e_up_ne _ _ (by omega), ← hw105, e_up_ne _ _ (by omega), j93.1 c k (by omega), j86.1 c k (by omega), j79.1 c k (by omega)]
                              exact f72 c k (fun y => g (Or.inl y))
                            have hp9 : w112 275 9 = 0 := by rw [← hw112, e_up_ne _ _ (Or.inl (by decide)), ← hw109, e_up_ne _ _ (Or.inl (by decide)), ← hw105, e_up_ne _ _ (Or.inl (by decide)), j93.1 275 9 (by omega), j86.1 275 9 (by omega), j79.1 275 9 (by omega), ← hw71]; exact e_up_eq _ _ _ _
                            have k3 : cp3 w71 v1 p1 (w66 275 78) := by have y := j79; rw [show y2 = w66 275 78 by omega] at y; exact y
                            have k6 : cp6 v1 v2 p1 900 := by have y := j86; rw [show z2 = 900 by omega] at y; exact y
                            have k2 : cp2 v2 v3 p1 32 := by have y := j93; rw [show t2 = 32 by omega] at y; exact y
                            exact ⟨_, rfl, Or.inr ⟨by omega, by omega, hfr, hT114, hH113, hp9, Or.inr (prog_ok hgx hG2.2 rF (fun c k g => by rw [← hw71]; exact e_up_ne _ _ (by omega)) (by omega) hnb hnt.1 hnt.2 k3 k6 k2 hw105 rfl ⟨_, hw109⟩ hw112)⟩⟩
                          · replace h103 : (t2 : Int) < 32 := by have q : ¬ ((t2 : Int) ≥ 32) := h103; omega
                            refine e_Ok.run (t' := (359, [(0, (1, 275)), (1, (0, p1)), (2, (0, t2))], [(1, 275)], v3)) 1 rfl ?_
                            refine e_Ok.getr (z := 337) rfl (el_o rfl) rfl rfl (e_Has.eq j94 rfl) (by omega) ?_
                            refine e_Ok.run (t' := (365, [(0, (1, 275)), (1, (0, p1)), (2, (0, t2))], [(0, p1), (0, 32), (1, 337)], v3)) 2 rfl ?_
                            refine e_Ok.mul (z := 32 * p1) rfl (by omega) (by omega) ?_
                            refine e_Ok.run (t' := (367, [(0, (1, 275)), (1, (0, p1)), (2, (0, t2))], [(0, t2), (0, 32 * p1), (1, 337)], v3)) 1 rfl ?_
                            refine e_Ok.add (z := 32 * p1 + t2) rfl (by omega) (by omega) ?_
                            refine e_Ok.run (t' := (369, [(0, (1, 275)), (1, (0, p1)), (2, (0, t2))], [(1, 275), (0, 32 * p1 + t2), (1, 337)], v3)) 1 rfl ?_
                            refine e_Ok.getr (z := 337) rfl (el_o rfl) rfl rfl (e_Has.eq j94 rfl) (by omega) ?_
                            refine e_Ok.run (t' := (376, [(0, (1, 275)), (1, (0, p1)), (2, (0, t2))], [(0, t2), (0, 128), (1, 337), (0, 32 * p1 + t2), (1, 337)], v3)) 2 rfl ?_
                            refine e_Ok.add (z := t2 + 128) rfl (by omega) (by omega) ?_
                            have h115 := (e_Has.get j94 (c := 337) (k := t2 + 128) (lo := (-2147483648)) (hi := 2147483647) rfl (by decide))
                            refine e_Ok.ald (z := v3 337 (t2 + 128)) rfl (el_o rfl) rfl (by omega) rfl (by omega) ?_
                            refine e_Ok.ast rfl (el_o rfl) rfl rfl (by omega) ?_
                            generalize hw116 : e_up v3 337 (32 * p1 + t2) (v3 337 (t2 + 128)) = w116
                            have hH117 : e_Has hTy w116 := e_Has.ups j95 hw116 rfl
                            have hT118 : e_Has mTy w116 := e_Has.upr j94 hw116 rfl (by omega)
                            refine e_Ok.run (t' := (380, [(0, (1, 275)), (1, (0, p1)), (2, (0, t2))], [(1, 275)], w116)) 1 rfl ?_
                            refine e_Ok.getr (z := 276) rfl (el_o rfl) rfl rfl (by rw [← hw116]; exact (e_up_ne _ _ (Or.inl (by omega))).trans (e_Has.eq j94 rfl)) (by omega) ?_
                            refine e_Ok.run (t' := (389, [(0, (1, 275)), (1, (0, p1)), (2, (0, t2))], [(0, p1), (0, 32), (0, 20932), (1, 276)], w116)) 3 rfl ?_
                            refine e_Ok.mul (z := 32 * p1) rfl (by omega) (by omega) ?_
                            refine e_Ok.add (z := 32 * p1 + 20932) rfl (by omega) (by omega) ?_
                            refine e_Ok.run (t' := (392, [(0, (1, 275)), (1, (0, p1)), (2, (0, t2))], [(0, t2), (0, 32 * p1 + 20932), (1, 276)], w116)) 1 rfl ?_
                            refine e_Ok.add (z := 32 * p1 + t2 + 20932) rfl (by omega) (by omega) ?_
                            refine e_Ok.run (t' := (394, [(0, (1, 275)), (1, (0, p1)), (2, (0, t2))], [(0, 0), (0, 32 * p1 + t2 + 20932), (1, 276)], w116)) 1 rfl ?_
                            refine e_Ok.ast rfl (el_o rfl) rfl rfl (by omega) ?_
                            generalize hw119 : e_up w116 276 (32 * p1 + t2 + 20932) 0 = w119
                            have hH120 : e_Has hTy w119 := e_Has.ups hH117 hw119 rfl
                            have hT121 : e_Has mTy w119 := e_Has.upr hT118 hw119 (nR_mid (by omega)) (by omega)
                            refine e_Ok.inc (z := t2 + 1) rfl rfl (by omega) (by omega) ?_
                            show e_Ok 20 elay ecode eI (d + 1) 357 (398, [(2, (0, t2 + 1)), (0, (1, 275)), (1, (0, p1))], [], w119) _
                            refine e_Ok.run (t' := (352, [(2, (0, t2 + 1)), (0, (1, 275)), (1, (0, p1))], [], w119)) 1 rfl ?_
                            refine e_Ok.sub eAlk (e_sub_of rfl ?_) (ih92 (t2 + 1) w119 ⟨(cp2.next j93 (by omega) (by omega) hw116 hw119), hT121, hH120, by omega⟩ (by omega))
                            exact ⟨rfl, rfl, rfl, trivial⟩
                      refine e_Ok.sub eAlk (e_sub_of rfl ?_) (hL91 (33 + 1 : Int).toNat 0 v2 ⟨(cp2.zero _ _), j87, j88, by omega⟩ (by omega))
                      exact ⟨rfl, rfl, rfl, trivial⟩
                    · replace h90 : (z2 : Int) < 900 := by have q : ¬ ((z2 : Int) ≥ 900) := h90; omega
                      refine e_Ok.run (t' := (213, [(0, (1, 275)), (1, (0, p1)), (2, (0, z2))], [(1, 275)], v2)) 1 rfl ?_
                      refine e_Ok.getr (z := 331) rfl (el_o rfl) rfl rfl (e_Has.eq j87 rfl) (by omega) ?_
                      refine e_Ok.run (t' := (220, [(0, (1, 275)), (1, (0, p1)), (2, (0, z2))], [(0, p1), (0, 900), (1, 331)], v2)) 2 rfl ?_
                      refine e_Ok.mul (z := 900 * p1) rfl (by omega) (by omega) ?_
                      refine e_Ok.run (t' := (222, [(0, (1, 275)), (1, (0, p1)), (2, (0, z2))], [(0, z2), (0, 900 * p1), (1, 331)], v2)) 1 rfl ?_
                      refine e_Ok.add (z := 900 * p1 + z2) rfl (by omega) (by omega) ?_
                      refine e_Ok.run (t' := (224, [(0, (1, 275)), (1, (0, p1)), (2, (0, z2))], [(1, 275), (0, 900 * p1 + z2), (1, 331)], v2)) 1 rfl ?_
                      refine e_Ok.getr (z := 331) rfl (el_o rfl) rfl rfl (e_Has.eq j87 rfl) (by omega) ?_
                      refine e_Ok.run (t' := (231, [(0, (1, 275)), (1, (0, p1)), (2, (0, z2))], [(0, z2), (0, 3600), (1, 331), (0, 900 * p1 + z2), (1, 331)], v2)) 2 rfl ?_
                      refine e_Ok.add (z := z2 + 3600) rfl (by omega) (by omega) ?_
                      have h122 := (e_Has.get j87 (c := 331) (k := z2 + 3600) (lo := (-2147483648)) (hi := 2147483647) rfl (by decide))
                      refine e_Ok.ald (z := v2 331 (z2 + 3600)) rfl (el_o rfl) rfl (by omega) rfl (by omega) ?_
                      refine e_Ok.ast rfl (el_o rfl) rfl rfl (by omega) ?_
                      generalize hw123 : e_up v2 331 (900 * p1 + z2) (v2 331 (z2 + 3600)) = w123
                      have hH124 : e_Has hTy w123 := e_Has.ups j88 hw123 rfl
                      have hT125 : e_Has mTy w123 := e_Has.upr j87 hw123 rfl (by omega)
                      refine e_Ok.run (t' := (235, [(0, (1, 275)), (1, (0, p1)), (2, (0, z2))], [(1, 275)], w123)) 1 rfl ?_
                      refine e_Ok.getr (z := 332) rfl (el_o rfl) rfl rfl (by rw [← hw123]; exact (e_up_ne _ _ (Or.inl (by omega))).trans (e_Has.eq j87 rfl)) (by omega) ?_
                      refine e_Ok.run (t' := (242, [(0, (1, 275)), (1, (0, p1)), (2, (0, z2))], [(0, p1), (0, 900), (1, 332)], w123)) 2 rfl ?_
                      refine e_Ok.mul (z := 900 * p1) rfl (by omega) (by omega) ?_
                      refine e_Ok.run (t' := (244, [(0, (1, 275)), (1, (0, p1)), (2, (0, z2))], [(0, z2), (0, 900 * p1), (1, 332)], w123)) 1 rfl ?_
                      refine e_Ok.add (z := 900 * p1 + z2) rfl (by omega) (by omega) ?_
                      refine e_Ok.run (t' := (246, [(0, (1, 275)), (1, (0, p1)), (2, (0, z2))], [(1, 275), (0, 900 * p1 + z2), (1, 332)], w123)) 1 rfl ?_
                      refine e_Ok.getr (z := 332) rfl (el_o rfl) rfl rfl (by rw [← hw123]; exact (e_up_ne _ _ (Or.inl (by omega))).trans (e_Has.eq j87 rfl)) (by omega) ?_
                      refine e_Ok.run (t' := (253, [(0, (1, 275)), (1, (0, p1)), (2, (0, z2))], [(0, z2), (0, 3600), (1, 332), (0, 900 * p1 + z2), (1, 332)], w123)) 2 rfl ?_
                      refine e_Ok.add (z := z2 + 3600) rfl (by omega) (by omega) ?_
                      have h126 := (e_Has.get j87 (c := 332) (k := z2 + 3600) (lo := (-2147483648)) (hi := 2147483647) rfl (by decide))
                      refine e_Ok.ald (z := v2 332 (z2 + 3600)) rfl (el_o rfl) rfl (by omega) (by rw [← hw123]; exact (e_up_ne _ _ (Or.inl (by omega))).trans rfl) (by omega) ?_
                      refine e_Ok.ast rfl (el_o rfl) rfl rfl (by omega) ?_
                      generalize hw127 : e_up w123 332 (900 * p1 + z2) (v2 332 (z2 + 3600)) = w127
                      have hH128 : e_Has hTy w127 := e_Has.ups hH124 hw127 rfl
                      have hT129 : e_Has mTy w127 := e_Has.upr hT125 hw127 rfl (by omega)
                      refine e_Ok.run (t' := (257, [(0, (1, 275)), (1, (0, p1)), (2, (0, z2))], [(1, 275)], w127)) 1 rfl ?_
                      refine e_Ok.getr (z := 333) rfl (el_o rfl) rfl rfl (by rw [← hw127]; exact (e_up_ne _ _ (Or.inl (by omega))).trans (by rw [← hw123]; exact (e_up_ne _ _ (Or.inl (by omega))).trans (e_Has.eq j87 rfl))) (by omega) ?_
                      refine e_Ok.run (t' := (264, [(0, (1, 275)), (1, (0, p1)), (2, (0, z2))], [(0, p1), (0, 900), (1, 333)], w127)) 2 rfl ?_
                      refine e_Ok.mul (z := 900 * p1) rfl (by omega) (by omega) ?_
                      refine e_Ok.run (t' := (266, [(0, (1, 275)), (1, (0, p1)), (2, (0, z2))], [(0, z2), (0, 900 * p1), (1, 333)], w127)) 1 rfl ?_
                      refine e_Ok.add (z := 900 * p1 + z2) rfl (by omega) (by omega) ?_
                      refine e_Ok.run (t' := (268, [(0, (1, 275)), (1, (0, p1)), (2, (0, z2))], [(1, 275), (0, 900 * p1 + z2), (1, 333)], w127)) 1 rfl ?_
                      refine e_Ok.getr (z := 333) rfl (el_o rfl) rfl rfl (by rw [← hw127]; exact (e_up_ne _ _ (Or.inl (by omega))).trans (by rw [← hw123]; exact (e_up_ne _ _ (Or.inl (by omega))).trans (e_Has.eq j87 rfl))) (by omega) ?_
                      refine e_Ok.run (t' := (275, [(0, (1, 275)), (1, (0, p1)), (2, (0, z2))], [(0, z2), (0, 3600), (1, 333), (0, 900 * p1 + z2), (1, 333)], w127)) 2 rfl ?_
                      refine e_Ok.add (z := z2 + 3600) rfl (by omega) (by omega) ?_
                      have h130 := (e_Has.get j87 (c := 333) (k := z2 + 3600) (lo := (-2147483648)) (hi := 2147483647) rfl (by decide))
                      refine e_Ok.ald (z := v2 333 (z2 + 3600)) rfl (el_o rfl) rfl (by omega) (by rw [← hw127]; exact (e_up_ne _ _ (Or.inl (by omega))).trans (by rw [← hw123]; exact (e_up_ne _ _ (Or.inl (by omega))).trans rfl)) (by omega) ?_
                      refine e_Ok.ast rfl (el_o rfl) rfl rfl (by omega) ?_
                      generalize hw131 : e_up w127 333 (900 * p1 + z2) (v2 333 (z2 + 3600)) = w131
                      have hH132 : e_Has hTy w131 := e_Has.ups hH128 hw131 rfl
                      have hT133 : e_Has mTy w131 := e_Has.upr hT129 hw131 rfl (by omega)
                      refine e_Ok.run (t' := (279, [(0, (1, 275)), (1, (0, p1)), (2, (0, z2))], [(1, 275)], w131)) 1 rfl ?_
                      refine e_Ok.getr (z := 334) rfl (el_o rfl) rfl rfl (by rw [← hw131]; exact (e_up_ne _ _ (Or.inl (by omega))).trans (by rw [← hw127]; exact (e_up_ne _ _ (Or.inl (by omega))).trans (by rw [← hw123]; exact (e_up_ne _ _ (Or.inl (by omega))).trans (e_Has.eq j87 rfl)))) (by omega) ?_
                      refine e_Ok.run (t' := (286, [(0, (1, 275)), (1, (0, p1)), (2, (0, z2))], [(0, p1), (0, 900), (1, 334)], w131)) 2 rfl ?_
                      refine e_Ok.mul (z := 900 * p1) rfl (by omega) (by omega) ?_
                      refine e_Ok.run (t' := (288, [(0, (1, 275)), (1, (0, p1)), (2, (0, z2))], [(0, z2), (0, 900 * p1), (1, 334)], w131)) 1 rfl ?_
                      refine e_Ok.add (z := 900 * p1 + z2) rfl (by omega) (by omega) ?_
                      refine e_Ok.run (t' := (290, [(0, (1, 275)), (1, (0, p1)), (2, (0, z2))], [(1, 275), (0, 900 * p1 + z2), (1, 334)], w131)) 1 rfl ?_
                      refine e_Ok.getr (z := 334) rfl (el_o rfl) rfl rfl (by rw [← hw131]; exact (e_up_ne _ _ (Or.inl (by omega))).trans (by rw [← hw127]; exact (e_up_ne _ _ (Or.inl (by omega))).trans (by rw [← hw123]; exact (e_up_ne _ _ (Or.inl (by omega))).trans (e_Has.eq j87 rfl)))) (by omega) ?_
                      refine e_Ok.run (t' := (297, [(0, (1, 275)), (1, (0, p1)), (2, (0, z2))], [(0, z2), (0, 3600), (1, 334), (0, 900 * p1 + z2), (1, 334)], w131)) 2 rfl ?_
                      refine e_Ok.add (z := z2 + 3600) rfl (by omega) (by omega) ?_
                      have h134 := (e_Has.get j87 (c := 334) (k := z2 + 3600) (lo := (-2147483648)) (hi := 2147483647) rfl (by decide))
                      refine e_Ok.ald (z := v2 334 (z2 + 3600)) rfl (el_o rfl) rfl (by omega) (by rw [← hw131]; exact (e_up_ne _ _ (Or.inl (by omega))).trans (by rw [← hw127]; exact (e_up_ne _ _ (Or.inl (by omega))).trans (by rw [← hw123]; exact (e_up_ne _ _ (Or.inl (by omega))).trans rfl))) (by omega) ?_
                      refine e_Ok.ast rfl (el_o rfl) rfl rfl (by omega) ?_
                      generalize hw135 : e_up w131 334 (900 * p1 + z2) (v2 334 (z2 + 3600)) = w135
                      have hH136 : e_Has hTy w135 := e_Has.ups hH132 hw135 rfl
                      have hT137 : e_Has mTy w135 := e_Has.upr hT133 hw135 rfl (by omega)
                      refine e_Ok.run (t' := (301, [(0, (1, 275)), (1, (0, p1)), (2, (0, z2))], [(1, 275)], w135)) 1 rfl ?_
                      refine e_Ok.getr (z := 335) rfl (el_o rfl) rfl rfl (by rw [← hw135]; exact (e_up_ne _ _ (Or.inl (by omega))).trans (by rw [← hw131]; exact (e_up_ne _ _ (Or.inl (by omega))).trans (by rw [← hw127]; exact (e_up_ne _ _ (Or.inl (by omega))).trans (by rw [← hw123]; exact (e_up_ne _ _ (Or.inl (by omega))).trans (e_Has.eq j87 rfl))))) (by omega) ?_
                      refine e_Ok.run (t' := (308, [(0, (1, 275)), (1, (0, p1)), (2, (0, z2))], [(0, p1), (0, 900), (1, 335)], w135)) 2 rfl ?_
                      refine e_Ok.mul (z := 900 * p1) rfl (by omega) (by omega) ?_
                      refine e_Ok.run (t' := (310, [(0, (1, 275)), (1, (0, p1)), (2, (0, z2))], [(0, z2), (0, 900 * p1), (1, 335)], w135)) 1 rfl ?_
                      refine e_Ok.add (z := 900 * p1 + z2) rfl (by omega) (by omega) ?_
                      refine e_Ok.run (t' := (312, [(0, (1, 275)), (1, (0, p1)), (2, (0, z2))], [(1, 275), (0, 900 * p1 + z2), (1, 335)], w135)) 1 rfl ?_
                      refine e_Ok.getr (z := 335) rfl (el_o rfl) rfl rfl (by rw [← hw135]; exact (e_up_ne _ _ (Or.inl (by omega))).trans (by rw [← hw131]; exact (e_up_ne _ _ (Or.inl (by omega))).trans (by rw [← hw127]; exact (e_up_ne _ _ (Or.inl (by omega))).trans (by rw [← hw123]; exact (e_up_ne _ _ (Or.inl (by omega))).trans (e_Has.eq j87 rfl))))) (by omega) ?_
                      refine e_Ok.run (t' := (319, [(0, (1, 275)), (1, (0, p1)), (2, (0, z2))], [(0, z2), (0, 3600), (1, 335), (0, 900 * p1 + z2), (1, 335)], w135)) 2 rfl ?_
                      refine e_Ok.add (z := z2 + 3600) rfl (by omega) (by omega) ?_
                      have h138 := (e_Has.get j87 (c := 335) (k := z2 + 3600) (lo := (-2147483648)) (hi := 2147483647) rfl (by decide))
                      refine e_Ok.ald (z := v2 335 (z2 + 3600)) rfl (el_o rfl) rfl (by omega) (by rw [← hw135]; exact (e_up_ne _ _ (Or.inl (by omega))).trans (by rw [← hw131]; exact (e_up_ne _ _ (Or.inl (by omega))).trans (by rw [← hw127]; exact (e_up_ne _ _ (Or.inl (by omega))).trans (by rw [← hw123]; exact (e_up_ne _ _ (Or.inl (by omega))).trans rfl)))) (by omega) ?_
                      refine e_Ok.ast rfl (el_o rfl) rfl rfl (by omega) ?_
                      generalize hw139 : e_up w135 335 (900 * p1 + z2) (v2 335 (z2 + 3600)) = w139
                      have hH140 : e_Has hTy w139 := e_Has.ups hH136 hw139 rfl
                      have hT141 : e_Has mTy w139 := e_Has.upr hT137 hw139 rfl (by omega)
                      refine e_Ok.run (t' := (323, [(0, (1, 275)), (1, (0, p1)), (2, (0, z2))], [(1, 275)], w139)) 1 rfl ?_
                      refine e_Ok.getr (z := 336) rfl (el_o rfl) rfl rfl (by rw [← hw139]; exact (e_up_ne _ _ (Or.inl (by omega))).trans (by rw [← hw135]; exact (e_up_ne _ _ (Or.inl (by omega))).trans (by rw [← hw131]; exact (e_up_ne _ _ (Or.inl (by omega))).trans (by rw [← hw127]; exact (e_up_ne _ _ (Or.inl (by omega))).trans (by rw [← hw123]; exact (e_up_ne _ _ (Or.inl (by omega))).trans (e_Has.eq j87 rfl)))))) (by omega) ?_
                      refine e_Ok.run (t' := (330, [(0, (1, 275)), (1, (0, p1)), (2, (0, z2))], [(0, p1), (0, 900), (1, 336)], w139)) 2 rfl ?_
                      refine e_Ok.mul (z := 900 * p1) rfl (by omega) (by omega) ?_
                      refine e_Ok.run (t' := (332, [(0, (1, 275)), (1, (0, p1)), (2, (0, z2))], [(0, z2), (0, 900 * p1), (1, 336)], w139)) 1 rfl ?_
                      refine e_Ok.add (z := 900 * p1 + z2) rfl (by omega) (by omega) ?_
                      refine e_Ok.run (t' := (334, [(0, (1, 275)), (1, (0, p1)), (2, (0, z2))], [(1, 275), (0, 900 * p1 + z2), (1, 336)], w139)) 1 rfl ?_
                      refine e_Ok.getr (z := 336) rfl (el_o rfl) rfl rfl (by rw [← hw139]; exact (e_up_ne _ _ (Or.inl (by omega))).trans (by rw [← hw135]; exact (e_up_ne _ _ (Or.inl (by omega))).trans (by rw [← hw131]; exact (e_up_ne _ _ (Or.inl (by omega))).trans (by rw [← hw127]; exact (e_up_ne _ _ (Or.inl (by omega))).trans (by rw [← hw123]; exact (e_up_ne _ _ (Or.inl (by omega))).trans (e_Has.eq j87 rfl)))))) (by omega) ?_
                      refine e_Ok.run (t' := (341, [(0, (1, 275)), (1, (0, p1)), (2, (0, z2))], [(0, z2), (0, 3600), (1, 336), (0, 900 * p1 + z2), (1, 336)], w139)) 2 rfl ?_
                      refine e_Ok.add (z := z2 + 3600) rfl (by omega) (by omega) ?_
                      have h142 := (e_Has.get j87 (c := 336) (k := z2 + 3600) (lo := (-2147483648)) (hi := 2147483647) rfl (by decide))
                      refine e_Ok.ald (z := v2 336 (z2 + 3600)) rfl (el_o rfl) rfl (by omega) (by rw [← hw139]; exact (e_up_ne _ _ (Or.inl (by omega))).trans (by rw [← hw135]; exact (e_up_ne _ _ (Or.inl (by omega))).trans (by rw [← hw131]; exact (e_up_ne _ _ (Or.inl (by omega))).trans (by rw [← hw127]; exact (e_up_ne _ _ (Or.inl (by omega))).trans (by rw [← hw123]; exact (e_up_ne _ _ (Or.inl (by omega))).trans rfl))))) (by omega) ?_
                      refine e_Ok.ast rfl (el_o rfl) rfl rfl (by omega) ?_
                      generalize hw143 : e_up w139 336 (900 * p1 + z2) (v2 336 (z2 + 3600)) = w143
                      have hH144 : e_Has hTy w143 := e_Has.ups hH140 hw143 rfl
                      have hT145 : e_Has mTy w143 := e_Has.upr hT141 hw143 rfl (by omega)
                      refine e_Ok.inc (z := z2 + 1) rfl rfl (by omega) (by omega) ?_
                      show e_Ok 20 elay ecode eI (d + 1) 357 (347, [(2, (0, z2 + 1)), (0, (1, 275)), (1, (0, p1))], [], w143) _
                      refine e_Ok.run (t' := (205, [(2, (0, z2 + 1)), (0, (1, 275)), (1, (0, p1))], [], w143)) 1 rfl ?_
                      refine e_Ok.sub eAlk (e_sub_of rfl ?_) (ih85 (z2 + 1) w143 ⟨(cp6.next j86 (by omega) (by omega) hw123 hw127 hw131 hw135 hw139 hw143), hT145, hH144, by omega⟩ (by omega))
                      exact ⟨rfl, rfl, rfl, trivial⟩
                refine e_Ok.sub eAlk (e_sub_of rfl ?_) (hL84 (901 + 1 : Int).toNat 0 v1 ⟨(cp6.zero _ _), j80, j81, by omega⟩ (by omega))
                exact ⟨rfl, rfl, rfl, trivial⟩
              · replace h83 : (y2 : Int) < w66 275 78 := by have q : ¬ ((y2 : Int) ≥ w66 275 78) := h83; omega
                refine e_Ok.run (t' := (132, [(0, (1, 275)), (1, (0, p1)), (2, (0, y2))], [(1, 275)], v1)) 1 rfl ?_
                refine e_Ok.getr (z := 328) rfl (el_o rfl) rfl rfl (e_Has.eq j80 rfl) (by omega) ?_
                refine e_Ok.run (t' := (139, [(0, (1, 275)), (1, (0, p1)), (2, (0, y2))], [(0, p1), (0, 10000), (1, 328)], v1)) 2 rfl ?_
                refine e_Ok.mul (z := 10000 * p1) rfl (by omega) (by omega) ?_
                refine e_Ok.run (t' := (141, [(0, (1, 275)), (1, (0, p1)), (2, (0, y2))], [(0, y2), (0, 10000 * p1), (1, 328)], v1)) 1 rfl ?_
                refine e_Ok.add (z := 10000 * p1 + y2) rfl (by omega) (by omega) ?_
                refine e_Ok.run (t' := (143, [(0, (1, 275)), (1, (0, p1)), (2, (0, y2))], [(1, 275), (0, 10000 * p1 + y2), (1, 328)], v1)) 1 rfl ?_
                refine e_Ok.getr (z := 328) rfl (el_o rfl) rfl rfl (e_Has.eq j80 rfl) (by omega) ?_
                refine e_Ok.run (t' := (150, [(0, (1, 275)), (1, (0, p1)), (2, (0, y2))], [(0, y2), (0, 40000), (1, 328), (0, 10000 * p1 + y2), (1, 328)], v1)) 2 rfl ?_
                refine e_Ok.add (z := y2 + 40000) rfl (by omega) (by omega) ?_
                have h146 := (e_Has.get j80 (c := 328) (k := y2 + 40000) (lo := (-2147483648)) (hi := 2147483647) rfl (by decide))
                refine e_Ok.ald (z := v1 328 (y2 + 40000)) rfl (el_o rfl) rfl (by omega) rfl (by omega) ?_
                refine e_Ok.ast rfl (el_o rfl) rfl rfl (by omega) ?_
                generalize hw147 : e_up v1 328 (10000 * p1 + y2) (v1 328 (y2 + 40000)) = w147
                have hH148 : e_Has hTy w147 := e_Has.ups j81 hw147 rfl
                have hT149 : e_Has mTy w147 := e_Has.upr j80 hw147 rfl (by omega)
                refine e_Ok.run (t' := (154, [(0, (1, 275)), (1, (0, p1)), (2, (0, y2))], [(1, 275)], w147)) 1 rfl ?_
                refine e_Ok.getr (z := 329) rfl (el_o rfl) rfl rfl (by rw [← hw147]; exact (e_up_ne _ _ (Or.inl (by omega))).trans (e_Has.eq j80 rfl)) (by omega) ?_
                refine e_Ok.run (t' := (161, [(0, (1, 275)), (1, (0, p1)), (2, (0, y2))], [(0, p1), (0, 10000), (1, 329)], w147)) 2 rfl ?_
                refine e_Ok.mul (z := 10000 * p1) rfl (by omega) (by omega) ?_
                refine e_Ok.run (t' := (163, [(0, (1, 275)), (1, (0, p1)), (2, (0, y2))], [(0, y2), (0, 10000 * p1), (1, 329)], w147)) 1 rfl ?_
                refine e_Ok.add (z := 10000 * p1 + y2) rfl (by omega) (by omega) ?_
                refine e_Ok.run (t' := (165, [(0, (1, 275)), (1, (0, p1)), (2, (0, y2))], [(1, 275), (0, 10000 * p1 + y2), (1, 329)], w147)) 1 rfl ?_
                refine e_Ok.getr (z := 329) rfl (el_o rfl) rfl rfl (by rw [← hw147]; exact (e_up_ne _ _ (Or.inl (by omega))).trans (e_Has.eq j80 rfl)) (by omega) ?_
                refine e_Ok.run (t' := (172, [(0, (1, 275)), (1, (0, p1)), (2, (0, y2))], [(0, y2), (0, 40000), (1, 329), (0, 10000 * p1 + y2), (1, 329)], w147)) 2 rfl ?_
                refine e_Ok.add (z := y2 + 40000) rfl (by omega) (by omega) ?_
                have h150 := (e_Has.get j80 (c := 329) (k := y2 + 40000) (lo := (-2147483648)) (hi := 2147483647) rfl (by decide))
                refine e_Ok.ald (z := v1 329 (y2 + 40000)) rfl (el_o rfl) rfl (by omega) (by rw [← hw147]; exact (e_up_ne _ _ (Or.inl (by omega))).trans rfl) (by omega) ?_
                refine e_Ok.ast rfl (el_o rfl) rfl rfl (by omega) ?_
                generalize hw151 : e_up w147 329 (10000 * p1 + y2) (v1 329 (y2 + 40000)) = w151
                have hH152 : e_Has hTy w151 := e_Has.ups hH148 hw151 rfl
                have hT153 : e_Has mTy w151 := e_Has.upr hT149 hw151 rfl (by omega)
                refine e_Ok.run (t' := (176, [(0, (1, 275)), (1, (0, p1)), (2, (0, y2))], [(1, 275)], w151)) 1 rfl ?_
                refine e_Ok.getr (z := 330) rfl (el_o rfl) rfl rfl (by rw [← hw151]; exact (e_up_ne _ _ (Or.inl (by omega))).trans (by rw [← hw147]; exact (e_up_ne _ _ (Or.inl (by omega))).trans (e_Has.eq j80 rfl))) (by omega) ?_
                refine e_Ok.run (t' := (183, [(0, (1, 275)), (1, (0, p1)), (2, (0, y2))], [(0, p1), (0, 10000), (1, 330)], w151)) 2 rfl ?_
                refine e_Ok.mul (z := 10000 * p1) rfl (by omega) (by omega) ?_
                refine e_Ok.run (t' := (185, [(0, (1, 275)), (1, (0, p1)), (2, (0, y2))], [(0, y2), (0, 10000 * p1), (1, 330)], w151)) 1 rfl ?_
                refine e_Ok.add (z := 10000 * p1 + y2) rfl (by omega) (by omega) ?_
                refine e_Ok.run (t' := (187, [(0, (1, 275)), (1, (0, p1)), (2, (0, y2))], [(1, 275), (0, 10000 * p1 + y2), (1, 330)], w151)) 1 rfl ?_
                refine e_Ok.getr (z := 330) rfl (el_o rfl) rfl rfl (by rw [← hw151]; exact (e_up_ne _ _ (Or.inl (by omega))).trans (by rw [← hw147]; exact (e_up_ne _ _ (Or.inl (by omega))).trans (e_Has.eq j80 rfl))) (by omega) ?_
                refine e_Ok.run (t' := (194, [(0, (1, 275)), (1, (0, p1)), (2, (0, y2))], [(0, y2), (0, 40000), (1, 330), (0, 10000 * p1 + y2), (1, 330)], w151)) 2 rfl ?_
                refine e_Ok.add (z := y2 + 40000) rfl (by omega) (by omega) ?_
                have h154 := (e_Has.get j80 (c := 330) (k := y2 + 40000) (lo := (-2147483648)) (hi := 2147483647) rfl (by decide))
                refine e_Ok.ald (z := v1 330 (y2 + 40000)) rfl (el_o rfl) rfl (by omega) (by rw [← hw151]; exact (e_up_ne _ _ (Or.inl (by omega))).trans (by rw [← hw147]; exact (e_up_ne _ _ (Or.inl (by omega))).trans rfl)) (by omega) ?_
                refine e_Ok.ast rfl (el_o rfl) rfl rfl (by omega) ?_
                generalize hw155 : e_up w151 330 (10000 * p1 + y2) (v1 330 (y2 + 40000)) = w155
                have hH156 : e_Has hTy w155 := e_Has.ups hH152 hw155 rfl
                have hT157 : e_Has mTy w155 := e_Has.upr hT153 hw155 rfl (by omega)
                refine e_Ok.inc (z := y2 + 1) rfl rfl (by omega) (by omega) ?_
                show e_Ok 20 elay ecode eI (d + 1) 357 (200, [(2, (0, y2 + 1)), (0, (1, 275)), (1, (0, p1))], [], w155) _
                refine e_Ok.run (t' := (123, [(2, (0, y2 + 1)), (0, (1, 275)), (1, (0, p1))], [], w155)) 1 rfl ?_
                refine e_Ok.sub eAlk (e_sub_of rfl ?_) (ih78 (y2 + 1) w155 ⟨(cp3.next j79 (by omega) (by omega) hw147 hw151 hw155), hT157, hH156, by omega⟩ (by omega))
                exact ⟨rfl, rfl, rfl, trivial⟩
          refine e_Ok.sub eAlk (e_sub_of rfl ?_) (hL77 (9901 + 1 : Int).toNat 0 w71 ⟨(cp3.zero _ _), hT74, hH73, by omega⟩ (by omega))
          exact ⟨rfl, rfl, rfl, trivial⟩
        · replace h76 : (w69 275 88 : Int) ≠ 0 := by have q : ¬ ((w69 275 88 : Int) = 0) := h76; omega
          refine e_Ok.run (t' := (116, [(0, (1, 275)), (1, (0, p1))], [(1, 275), (0, (-10))], w71)) 2 rfl ?_
          have h158 := (e_Has.get rH (c := 275) (k := 89) (lo := (-2147483648)) (hi := 2147483647) rfl (by decide))
          refine e_Ok.getf (z := w69 275 89) rfl (el_o rfl) rfl rfl (by rw [← hw71]; exact (e_up_ne _ _ (Or.inr (by omega))).trans rfl) (by omega) ?_
          refine e_Ok.any rfl (eF_sub_any _ _) (fun z159 z159a z159b => ?_)
          refine e_Ok.rets rfl rfl ?_
          exact ⟨_, rfl, Or.inr ⟨by omega, by omega, e_fr.mono f72 (fun c k g => Or.inl g), hT74, hH73, (by rw [← hw71]; exact e_up_eq _ _ _ _), Or.inl (mPs.ps (by omega) f72)⟩⟩
      · replace h8 : (w 275 3 : Int) ≠ 0 := by have q : ¬ ((w 275 3 : Int) = 0) := h8; omega
        refine e_Ok.run (t' := (19, [(0, (1, 275)), (1, (0, p1))], [(0, (-2))], w)) 1 rfl ?_
        refine e_Ok.rets rfl rfl ?_
        exact ⟨_, rfl, Or.inl ⟨rfl, by omega⟩⟩
    · replace h7 : (1 : Int) = 0 := by have q : ¬ ((1 : Int) ≠ 0) := h7; omega
      exfalso; omega
  · show e_Ok 20 elay ecode eI (d + 1) 357 (5, [(0, (1, 275)), (1, (0, p1))], [(0, 0)], w) _
    refine e_Ok.if1 rfl (fun h160 => ?_) (fun h160 => ?_)
    · replace h160 : (0 : Int) ≠ 0 := h160
      exfalso; omega
    · replace h160 : (0 : Int) = 0 := by have q : ¬ ((0 : Int) ≠ 0) := h160; omega
      refine e_Ok.run (t' := (9, [(0, (1, 275)), (1, (0, p1))], [(0, (-1))], w)) 1 rfl ?_
      refine e_Ok.rets rfl rfl ?_
      exact ⟨_, rfl, Or.inl ⟨rfl, by omega⟩⟩
end
