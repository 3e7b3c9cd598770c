noncomputable section
set_option maxHeartbeats 4000000 in
theorem c_351 {d : Nat} (hd : 309 ≤ d) {w : eW} {N o O F : Int} {P OW : Int → Prop} (hc : cSt w N) (hNr : 0 ≤ N ∧ N ≤ 4000) (h0 : w 275 88 = 0) (ho : w 275 83 = o) (hv : w 275 82 = -1 ∨ OW (w 275 82)) (hb : stB w N o) (hO : O ≤ o) (hG : GB w N (w 275 78) (w 275 94) (w 275 79) (w 275 80) P (w 275 81) OW O) (hor : 0 ≤ o ∧ o ≤ 30) (hF : 300 ≤ F ∧ F ≤ 700) (hS : o < 30 → ∀ k, d = k + 1 → stC 348 0 (o + 1) F k) : e_Ok 20 elay ecode eI d 351 (0, [(0, (1, 275))], [], w) (fun r w' => r = [] ∧ stQ w w' N P OW O 1 (F + 10)) := by
  obtain ⟨d, rfl⟩ : ∃ e, d = e + 1 := ⟨d - 1, by omega⟩
  have hdq : 308 ≤ d := by omega
  have hct := tkS.lin hc.2.2.2.1
  have hcf := e_Has.get hc.2.1 (c := 275) (k := 88) (lo := 0) (hi := 7) rfl (by decide)
  have hsb := hc.2.2.2.2
  unfold stB at hb
  have hvr : -1 ≤ w 275 82 ∧ w 275 82 ≤ 900 := by rcases hv with g | g; omega; have := hG.1.2.2.2.2.2.2.2.1 _ g; omega
  replace hv := (show Hid _ from hv)
  have hgH : Hid (w 275 88 = 0 → GB w N (w 275 78) (w 275 94) (w 275 79) (w 275 80) P (w 275 81) OW O) := Hid.mk (fun _ => hG)
  refine e_Ok.run (t' := (1, [(0, (1, 275))], [(1, 275)], w)) 1 rfl ?_
  refine e_Ok.callV rfl (Nat.le_trans (by decide) hdq) rfl rfl rfl rfl (c_335 (Nat.le_trans (by decide) hdq) hc.1 hc.2.1 hc.2.2.1 hNr hc.2.2.2.1 (o := w 275 83) rfl (by omega)) (fun r1 w2 h3 => ?_)
  obtain ⟨rfl, -, q4⟩ := h3
  obtain ⟨q4, q4n⟩ | ⟨q4z, q4n, w5, q4u, q4, q4T, q4H, q4r⟩ := q4
  · show e_Ok 20 elay ecode eI (d + 1) 351 (4, [(0, (1, 275))], [], w2) _
    have e6 := up83 q4
    replace e6 := (show Hid _ from e6)
    have u7 : Hid (w2 275 78 = w 275 78) := Hid.mk (e6.out.1 275 78 (by decide))
    have u8 : Hid (w2 275 79 = w 275 79) := Hid.mk (e6.out.1 275 79 (by decide))
    have u9 : Hid (w2 275 80 = w 275 80) := Hid.mk (e6.out.1 275 80 (by decide))
    have u10 : Hid (w2 275 81 = w 275 81) := Hid.mk (e6.out.1 275 81 (by decide))
    have u11 : Hid (w2 275 82 = w 275 82) := Hid.mk (e6.out.1 275 82 (by decide))
    have u12 : Hid (w2 275 83 = w 275 83 + 1) := Hid.mk (e6.out.2)
    have u13 : Hid (w2 275 84 = w 275 84) := Hid.mk (e6.out.1 275 84 (by decide))
    have u14 : Hid (w2 275 85 = w 275 85) := Hid.mk (e6.out.1 275 85 (by decide))
    have u15 : Hid (w2 275 86 = w 275 86) := Hid.mk (e6.out.1 275 86 (by decide))
    have u16 : Hid (w2 275 87 = w 275 87) := Hid.mk (e6.out.1 275 87 (by decide))
    have u17 : Hid (w2 275 88 = w 275 88) := Hid.mk (e6.out.1 275 88 (by decide))
    have u18 : Hid (w2 275 94 = w 275 94) := Hid.mk (e6.out.1 275 94 (by decide))
    have c19 := cSt.up hc q4
    have f20 : e_fr (mStm (w 275 78) (w 275 79) (w 275 80) (w 275 94)) w w2 := e_fr.trans (e_fr.refl w) (fun c k g => e6.out.1 c k (fun g2 => g (mU_St g2)))
    have g21 : Hid (w 275 88 = 0 → GB w2 N (w 275 78) (w 275 94) (w 275 79) (w 275 80) P (w 275 81) OW O) := Hid.mk (fun z => GB.pr (hgH.out z) (prE.up q4))
    refine e_Ok.run (t' := (5, [(0, (1, 275))], [(1, 275)], w2)) 1 rfl ?_
    refine e_Ok.getf (z := w 275 80) rfl (el_o rfl) rfl rfl u9.out (by omega) ?_
    refine e_Ok.run (t' := (11, [(1, (0, w 275 80)), (0, (1, 275))], [(1, 275), (1, 275)], w2)) 3 rfl ?_
    refine e_Ok.getf (z := w 275 80) rfl (el_o rfl) rfl rfl u9.out (by omega) ?_
    refine e_Ok.run (t' := (15, [(1, (0, w 275 80)), (0, (1, 275))], [(0, 1), (0, w 275 80), (1, 275)], w2)) 1 rfl ?_
    refine e_Ok.add (z := w 275 80 + 1) rfl (by omega) (by omega) ?_
    refine e_Ok.putf rfl (el_o rfl) rfl rfl ?_
    generalize hw22 : e_up w2 275 80 (w 275 80 + 1) = w22
    have f23 : e_fr (mStm (w 275 78) (w 275 79) (w 275 80) (w 275 94)) w w22 := e_fr.up f20 hw22 (by unfold mStm; omega)
    have u24 : Hid (w22 275 78 = w 275 78) := Hid.mk (Eq.trans (by rw [← hw22]; exact e_up_ne _ _ (Or.inr (by decide))) u7.out)
    have u25 : Hid (w22 275 79 = w 275 79) := Hid.mk (Eq.trans (by rw [← hw22]; exact e_up_ne _ _ (Or.inr (by decide))) u8.out)
    have u26 : Hid (w22 275 80 = w 275 80 + 1) := Hid.mk (by rw [← hw22]; exact e_up_eq _ _ _ _)
    have u27 : Hid (w22 275 81 = w 275 81) := Hid.mk (Eq.trans (by rw [← hw22]; exact e_up_ne _ _ (Or.inr (by decide))) u10.out)
    have u28 : Hid (w22 275 82 = w 275 82) := Hid.mk (Eq.trans (by rw [← hw22]; exact e_up_ne _ _ (Or.inr (by decide))) u11.out)
    have u29 : Hid (w22 275 83 = w 275 83 + 1) := Hid.mk (Eq.trans (by rw [← hw22]; exact e_up_ne _ _ (Or.inr (by decide))) u12.out)
    have u30 : Hid (w22 275 84 = w 275 84) := Hid.mk (Eq.trans (by rw [← hw22]; exact e_up_ne _ _ (Or.inr (by decide))) u13.out)
    have u31 : Hid (w22 275 85 = w 275 85) := Hid.mk (Eq.trans (by rw [← hw22]; exact e_up_ne _ _ (Or.inr (by decide))) u14.out)
    have u32 : Hid (w22 275 86 = w 275 86) := Hid.mk (Eq.trans (by rw [← hw22]; exact e_up_ne _ _ (Or.inr (by decide))) u15.out)
    have u33 : Hid (w22 275 87 = w 275 87) := Hid.mk (Eq.trans (by rw [← hw22]; exact e_up_ne _ _ (Or.inr (by decide))) u16.out)
    have u34 : Hid (w22 275 88 = w 275 88) := Hid.mk (Eq.trans (by rw [← hw22]; exact e_up_ne _ _ (Or.inr (by decide))) u17.out)
    have u35 : Hid (w22 275 94 = w 275 94) := Hid.mk (Eq.trans (by rw [← hw22]; exact e_up_ne _ _ (Or.inr (by decide))) u18.out)
    have c36 := cSt.wr c19 hw22 (Or.inr rfl) (by omega) rfl (fun _ => ⟨⟨by decide, by decide⟩, fun y => absurd y (by decide)⟩)
    have g37 : Hid (w 275 88 = 0 → GB w22 N (w 275 78) (w 275 94) (w 275 79) (w 275 80) P (w 275 81) OW O) := Hid.mk (fun z => GB.pr (g21.out z) (fun c k q => by rw [← hw22]; exact e_up_ne _ _ (by omega)))
    refine e_Ok.run (t' := (20, [(1, (0, w 275 80)), (0, (1, 275))], [(1, 275)], w22)) 1 rfl ?_
    refine e_Ok.getf (z := w 275 82) rfl (el_o rfl) rfl rfl u28.out (by omega) ?_
    refine e_Ok.run (t' := (25, [(2, (0, w 275 82)), (1, (0, w 275 80)), (0, (1, 275))], [(1, 275)], w22)) 2 rfl ?_
    refine e_Ok.getr (z := 335) rfl (el_o rfl) rfl rfl ((f23 275 72 (by unfold mStm; omega)).trans (e_Has.eq hc.1 rfl)) (by omega) ?_
    refine e_Ok.run (t' := (32, [(2, (0, w 275 82)), (1, (0, w 275 80)), (0, (1, 275))], [(0, w 275 80), (0, 3600), (1, 335)], w22)) 2 rfl ?_
    refine e_Ok.add (z := w 275 80 + 3600) rfl (by omega) (by omega) ?_
    refine e_Ok.run (t' := (34, [(2, (0, w 275 82)), (1, (0, w 275 80)), (0, (1, 275))], [(1, 275), (0, w 275 80 + 3600), (1, 335)], w22)) 1 rfl ?_
    refine e_Ok.getf (z := w 275 81) rfl (el_o rfl) rfl rfl u27.out (by omega) ?_
    refine e_Ok.ast rfl (el_o rfl) rfl rfl (by omega) ?_
    generalize hw38 : e_up w22 335 (w 275 80 + 3600) (w 275 81) = w38
    have f40 : e_fr (mStm (w 275 78) (w 275 79) (w 275 80) (w 275 94)) w w38 := e_fr.up f23 hw38 (by unfold mStm; omega)
    have u41 : Hid (w38 275 78 = w 275 78) := Hid.mk (Eq.trans (by rw [← hw38]; exact e_up_ne _ _ (Or.inl (by decide))) u24.out)
    have u42 : Hid (w38 275 79 = w 275 79) := Hid.mk (Eq.trans (by rw [← hw38]; exact e_up_ne _ _ (Or.inl (by decide))) u25.out)
    have u43 : Hid (w38 275 80 = w 275 80 + 1) := Hid.mk (Eq.trans (by rw [← hw38]; exact e_up_ne _ _ (Or.inl (by decide))) u26.out)
    have u44 : Hid (w38 275 81 = w 275 81) := Hid.mk (Eq.trans (by rw [← hw38]; exact e_up_ne _ _ (Or.inl (by decide))) u27.out)
    have u46 : Hid (w38 275 83 = w 275 83 + 1) := Hid.mk (Eq.trans (by rw [← hw38]; exact e_up_ne _ _ (Or.inl (by decide))) u29.out)
    have u47 : Hid (w38 275 84 = w 275 84) := Hid.mk (Eq.trans (by rw [← hw38]; exact e_up_ne _ _ (Or.inl (by decide))) u30.out)
    have u48 : Hid (w38 275 85 = w 275 85) := Hid.mk (Eq.trans (by rw [← hw38]; exact e_up_ne _ _ (Or.inl (by decide))) u31.out)
    have u49 : Hid (w38 275 86 = w 275 86) := Hid.mk (Eq.trans (by rw [← hw38]; exact e_up_ne _ _ (Or.inl (by decide))) u32.out)
    have u50 : Hid (w38 275 87 = w 275 87) := Hid.mk (Eq.trans (by rw [← hw38]; exact e_up_ne _ _ (Or.inl (by decide))) u33.out)
    have u51 : Hid (w38 275 88 = w 275 88) := Hid.mk (Eq.trans (by rw [← hw38]; exact e_up_ne _ _ (Or.inl (by decide))) u34.out)
    have u52 : Hid (w38 275 94 = w 275 94) := Hid.mk (Eq.trans (by rw [← hw38]; exact e_up_ne _ _ (Or.inl (by decide))) u35.out)
    have c53 := cSt.wr c36 hw38 (Or.inl rfl) (by omega) rfl (fun y => absurd y (by decide))
    have ev54 : Hid (w38 335 (w 275 80 + 3600) = w 275 81) := Hid.mk (by rw [← hw38]; exact e_up_eq _ _ _ _)
    have g55 : Hid (w 275 88 = 0 → GB w38 N (w 275 78) (w 275 94) (w 275 79) (w 275 80 + 1) P (w 275 81) (fun v => OW v ∨ v = w 275 80) O) := Hid.mk (fun z => (GB.wb (g37.out (by omega)) (Eq.trans ev54.out (show _ = w 275 81 from by omega)) (fun c k y1 y2 => by rw [← hw38]; exact e_up_ne _ _ (by omega))))
    have cf56 : Hid (w38 335 (w 275 80 + 3600) = w 275 81) := Hid.mk (ev54.out)
    refine e_Ok.run (t' := (42, [(2, (0, w 275 82)), (1, (0, w 275 80)), (0, (1, 275))], [(0, 0), (0, 30), (1, 275)], w38)) 3 rfl ?_
    refine e_Ok.callV rfl (Nat.le_trans (by decide) hdq) rfl rfl rfl rfl (c_336 c53.1 (n := w 275 78) u41.out (by omega) (s := w 275 81) u44.out (by omega)) (fun r57 w58 h59 => ?_)
    obtain ⟨rfl, q60⟩ := h59
    replace q60 := (show Hid (EM w38 w58 (w 275 78) 30 (0) (w 275 81)) from q60)
    have u61 : Hid (w58 275 78 = w 275 78 + 1) := Hid.mk (Eq.trans q60.out.2.2.2.2 (by omega))
    have u62 : Hid (w58 275 79 = w 275 79) := Hid.mk (Eq.trans (q60.out.fld (by decide)) u42.out)
    have u63 : Hid (w58 275 80 = w 275 80 + 1) := Hid.mk (Eq.trans (q60.out.fld (by decide)) u43.out)
    have u64 : Hid (w58 275 81 = w 275 81) := Hid.mk (Eq.trans (q60.out.fld (by decide)) u44.out)
    have u66 : Hid (w58 275 83 = w 275 83 + 1) := Hid.mk (Eq.trans (q60.out.fld (by decide)) u46.out)
    have u67 : Hid (w58 275 84 = w 275 84) := Hid.mk (Eq.trans (q60.out.fld (by decide)) u47.out)
    have u68 : Hid (w58 275 85 = w 275 85) := Hid.mk (Eq.trans (q60.out.fld (by decide)) u48.out)
    have u69 : Hid (w58 275 86 = w 275 86) := Hid.mk (Eq.trans (q60.out.fld (by decide)) u49.out)
    have u70 : Hid (w58 275 87 = w 275 87) := Hid.mk (Eq.trans (q60.out.fld (by decide)) u50.out)
    have u71 : Hid (w58 275 88 = w 275 88) := Hid.mk (Eq.trans (q60.out.fld (by decide)) u51.out)
    have u72 : Hid (w58 275 94 = w 275 94) := Hid.mk (Eq.trans (q60.out.fld (by decide)) u52.out)
    have f73 : e_fr (mStm (w 275 78) (w 275 79) (w 275 80) (w 275 94)) w w58 := e_fr.trans f40 (q60.out.st (by omega))
    have c74 := cSt.em c53 q60.out (by decide) (by omega) (by omega)
    have cf75 : Hid (w58 335 (w 275 80 + 3600) = w 275 81) := Hid.mk (Eq.trans (q60.out.far (by decide)) cf56.out)
    have g76 : Hid (w 275 88 = 0 → GA w58 N (w 275 78 + 1) (w 275 94) (w 275 79) (w 275 80 + 1) P (w 275 81) (fun v => OW v ∨ v = w 275 80) O) := Hid.mk (fun z => (GB.beg (g55.out (by omega)) q60.out))
    have cf77 : Hid (w58 328 (w 275 78 + 40000) = 30) := Hid.mk (q60.out.2.1)
    have cf78 : Hid (w58 330 (w 275 78 + 40000) = w 275 81) := Hid.mk (q60.out.2.2.2.1)
    have df79 : Hid (dp w58 (w 275 78) = 0) := Hid.mk (Eq.trans (q60.out.dq (Int.le_refl _)) (g55.out (by omega)).2.1)
    show e_Ok 20 elay ecode eI (d + 1) 351 (45, [(2, (0, w 275 82)), (1, (0, w 275 80)), (0, (1, 275))], [(0, w 275 78)], w58) _
    refine e_Ok.run (t' := (50, [(3, (0, w 275 78)), (2, (0, w 275 82)), (1, (0, w 275 80)), (0, (1, 275))], [(0, 20), (1, 275), (1, 275)], w58)) 4 rfl ?_
    refine e_Ok.callV rfl (Nat.le_trans (by decide) hdq) rfl rfl rfl rfl (c_332 c74.1 (N := N) c74.2.2.2.1) (fun r80 w81 h82 => ?_)
    obtain ⟨z83, rfl, rfl, q84⟩ := h82
    obtain ⟨rfl, q84, q84b⟩ | ⟨rfl, q84n⟩ := q84
    · show e_Ok 20 elay ecode eI (d + 1) 351 (53, [(3, (0, w 275 78)), (2, (0, w 275 82)), (1, (0, w 275 80)), (0, (1, 275))], [(0, 1), (1, 275)], w58) _
      rw [u67.out] at q84
      rw [u68.out] at q84b
      refine e_Ok.callV rfl (Nat.le_trans (by decide) hdq) rfl rfl rfl rfl (c_334 (Nat.le_trans (by decide) hdq) c74.1 c74.2.1 c74.2.2.1 hNr c74.2.2.2.1 (by decide)) (fun r85 w86 h87 => ?_)
      obtain ⟨rfl, q88⟩ := h87
      obtain ⟨rfl, q88z⟩ | ⟨q88z, q88b, q88, q88s, q88t⟩ | ⟨q88z, q88b, q88, q88T, q88H, q88r⟩ := q88
      · rw [u71.out] at q88z; exact absurd q88z (by omega)
      · show e_Ok 20 elay ecode eI (d + 1) 351 (56, [(3, (0, w 275 78)), (2, (0, w 275 82)), (1, (0, w 275 80)), (0, (1, 275))], [], w86) _
        rw [u71.out] at q88z
        rw [u70.out] at q88t
        have p89 := tkS.pos c74.2.2.2.1 (by rw [u67.out] <;> omega)
        rw [u69.out, u70.out] at p89
        have p90 := tkS.key c74.2.2.2.1 (by rw [u67.out] <;> omega)
        rw [u69.out, u70.out, u68.out] at p90
        have u91 : Hid (w86 275 78 = w 275 78 + 1) := Hid.mk (Eq.trans (q88 275 78 (mTq_fld (by decide))) u61.out)
        have u92 : Hid (w86 275 79 = w 275 79) := Hid.mk (Eq.trans (q88 275 79 (mTq_fld (by decide))) u62.out)
        have u93 : Hid (w86 275 80 = w 275 80 + 1) := Hid.mk (Eq.trans (q88 275 80 (mTq_fld (by decide))) u63.out)
        have u94 : Hid (w86 275 81 = w 275 81) := Hid.mk (Eq.trans (q88 275 81 (mTq_fld (by decide))) u64.out)
        have u101 : Hid (w86 275 83 = w 275 83 + 1) := Hid.mk (Eq.trans (q88 275 83 (mTq_fld (by decide))) u66.out)
        have u103 : Hid (w86 275 88 = w 275 88) := Hid.mk (Eq.trans (q88 275 88 (mTq_fld (by decide))) u71.out)
        have u104 : Hid (w86 275 94 = w 275 94) := Hid.mk (Eq.trans (q88 275 94 (mTq_fld (by decide))) u72.out)
        have c105 := cSt.tk c74 q88 q88s
        have t106 := tkS.lin c105.2.2.2.1
        have f107 : e_fr (mStm (w 275 78) (w 275 79) (w 275 80) (w 275 94)) w w86 := e_fr.trans f73 (e_fr.mono q88 (fun c k g => mTq_St g))
        have g108 : Hid (w 275 88 = 0 → GA w86 N (w 275 78 + 1) (w 275 94) (w 275 79) (w 275 80 + 1) P (w 275 81) (fun v => OW v ∨ v = w 275 80) O) := Hid.mk (fun z => GA.pr (g76.out z) (prE.tk q88))
        have cf109 : Hid (w86 335 (w 275 80 + 3600) = w 275 81) := Hid.mk (Eq.trans (q88 335 (w 275 80 + 3600) (mTq_not (by decide))) cf75.out)
        have cf110 : Hid (w86 328 (w 275 78 + 40000) = 30) := Hid.mk (Eq.trans (q88 328 (w 275 78 + 40000) (mTq_not (by decide))) cf77.out)
        have cf111 : Hid (w86 330 (w 275 78 + 40000) = w 275 81) := Hid.mk (Eq.trans (q88 330 (w 275 78 + 40000) (mTq_not (by decide))) cf78.out)
        have df112 : Hid (dp w86 (w 275 78) = 0) := Hid.mk (Eq.trans (dp_eq (fun k k1 k2 => q88 328 (k + 40000) (mTq_not (by decide)))) df79.out)
        refine e_Ok.run (t' := (57, [(3, (0, w 275 78)), (2, (0, w 275 82)), (1, (0, w 275 80)), (0, (1, 275))], [(1, 275)], w86)) 1 rfl ?_
        refine e_Ok.callV rfl (Nat.le_trans (by decide) hdq) rfl rfl rfl rfl (c_exp (o := w 275 83 + 1) (Nat.le_trans (by decide) hdq) (by omega) w86 N (w 275 79) (w 275 81) (0) (enc P (w 275 78 + 1) (w 275 94)) c105 hNr (by rw [u103.out] <;> omega) u101.out u94.out (by rw [u91.out, u104.out] <;> omega) (by rw [u91.out, u104.out] <;> exact GS.wf (GA.gs (g108.out (by omega)))) (by omega)) (fun r113 w114 h115 => ?_)
        obtain ⟨rfl, q116F, q116c, q116l, q116w⟩ := h115
        unfold cLn at q116l
        rw [u91.out, u101.out, u104.out] at q116l
        rw [u91.out, u104.out] at q116F
        obtain ⟨q1161, q1162, q1163, q1164, q1165, q1166, q1167, q1168, q1169⟩ := q116l
        replace q116w := (show Hid _ from q116w)
        have u117 : Hid (w114 275 79 = w 275 79) := Hid.mk (Eq.trans (q116F 275 79 (mEx_fld (by decide))) u92.out)
        have u118 : Hid (w114 275 80 = w 275 80 + 1) := Hid.mk (Eq.trans (q116F 275 80 (mEx_fld (by decide))) u93.out)
        have u119 : Hid (w114 275 81 = w 275 81) := Hid.mk (Eq.trans (q116F 275 81 (mEx_fld (by decide))) u94.out)
        have t121 := tkS.lin q116c.2.2.2.1
        have t122 := e_Has.get q116c.2.1 (c := 275) (k := 88) (lo := 0) (hi := 7) rfl (by decide)
        have f123 : e_fr (mStm (w 275 78) (w 275 79) (w 275 80) (w 275 94)) w w114 := e_fr.trans f107 (e_fr.mono q116F (fun c k g => mEx_St (by omega) (by omega) g))
        have q116x : Hid (w114 275 88 = 0 → GS w114 N (w114 275 78) (w114 275 94) (w 275 79) (w 275 80 + 1) P (w 275 81) (fun v => OW v ∨ v = w 275 80) O (0 + 1) ∧ (∀ p, w 275 78 + 1 ≤ p → p < w114 275 78 → w114 330 (p + 40000) = w 275 81) ∧ dp w114 (w 275 78 + 1) = 0 ∧ ((0 : Int) ≠ 0 + 1 → w 275 78 + 1 < w114 275 78)) := Hid.mk (fun z => GS.ex (GA.gs (g108.out (by omega))) q116F (by omega) (by omega) (q116w.out z))
        have g124 : Hid (w114 275 88 = 0 → GS w114 N (w114 275 78) (w114 275 94) (w 275 79) (w 275 80 + 1) P (w 275 81) (fun v => OW v ∨ v = w 275 80) O (0 + 1)) := Hid.mk (fun z => (q116x.out z).1)
        have cf125 : Hid (w114 335 (w 275 80 + 3600) = w 275 81) := Hid.mk (Eq.trans (q116F 335 (w 275 80 + 3600) (mEx_far (by decide))) cf109.out)
        have cf126 : Hid (w114 328 (w 275 78 + 40000) = 30) := Hid.mk (Eq.trans (q116F 328 (w 275 78 + 40000) (mEx_lt (by decide) (by omega))) cf110.out)
        have cf127 : Hid (w114 330 (w 275 78 + 40000) = w 275 81) := Hid.mk (Eq.trans (q116F 330 (w 275 78 + 40000) (mEx_lt (by decide) (by omega))) cf111.out)
        have df128 : Hid (dp w114 (w 275 78) = 0) := Hid.mk (Eq.trans (dp_eq (fun k k1 k2 => q116F 328 (k + 40000) (mEx_lt (by decide) (by omega)))) df112.out)
        show e_Ok 20 elay ecode eI (d + 1) 351 (60, [(3, (0, w 275 78)), (2, (0, w 275 82)), (1, (0, w 275 80)), (0, (1, 275))], [], w114) _
        refine e_Ok.run (t' := (64, [(3, (0, w 275 78)), (2, (0, w 275 82)), (1, (0, w 275 80)), (0, (1, 275))], [(0, 58), (1, 275), (1, 275)], w114)) 3 rfl ?_
        refine e_Ok.callV rfl (Nat.le_trans (by decide) hdq) rfl rfl rfl rfl (c_331 q116c.1 (N := N) q116c.2.2.2.1) (fun r129 w130 h131 => ?_)
        obtain ⟨z132, rfl, rfl, q133⟩ := h131
        obtain ⟨rfl, q133, q133b⟩ | ⟨rfl, q133n⟩ := q133
        · show e_Ok 20 elay ecode eI (d + 1) 351 (67, [(3, (0, w 275 78)), (2, (0, w 275 82)), (1, (0, w 275 80)), (0, (1, 275))], [(0, 1), (1, 275)], w114) _
          refine e_Ok.callV rfl (Nat.le_trans (by decide) hdq) rfl rfl rfl rfl (c_334 (Nat.le_trans (by decide) hdq) q116c.1 q116c.2.1 q116c.2.2.1 hNr q116c.2.2.2.1 (by decide)) (fun r134 w135 h136 => ?_)
          obtain ⟨rfl, q137⟩ := h136
          obtain ⟨rfl, q137z⟩ | ⟨q137z, q137b, q137, q137s, q137t⟩ | ⟨q137z, q137b, q137, q137T, q137H, q137r⟩ := q137
          · show e_Ok 20 elay ecode eI (d + 1) 351 (70, [(3, (0, w 275 78)), (2, (0, w 275 82)), (1, (0, w 275 80)), (0, (1, 275))], [], w114) _
            clear q1163
            clear q1169
            refine e_Ok.run (t' := (74, [(3, (0, w 275 78)), (2, (0, w 275 82)), (1, (0, w 275 80)), (0, (1, 275))], [(0, 0), (0, 47), (1, 275)], w114)) 3 rfl ?_
            refine e_Ok.callV rfl (Nat.le_trans (by decide) hdq) rfl rfl rfl rfl (c_336 q116c.1 (n := w114 275 78) rfl (by omega) (s := w 275 81) u119.out (by omega)) (fun r138 w139 h140 => ?_)
            obtain ⟨rfl, q141⟩ := h140
            replace q141 := (show Hid (EM w114 w139 (w114 275 78) 47 (0) (w 275 81)) from q141)
            have u142 : Hid (w139 275 78 = w114 275 78 + 1) := Hid.mk (Eq.trans q141.out.2.2.2.2 (by omega))
            have u143 : Hid (w139 275 79 = w 275 79) := Hid.mk (Eq.trans (q141.out.fld (by decide)) u117.out)
            have u144 : Hid (w139 275 80 = w 275 80 + 1) := Hid.mk (Eq.trans (q141.out.fld (by decide)) u118.out)
            have u145 : Hid (w139 275 81 = w 275 81) := Hid.mk (Eq.trans (q141.out.fld (by decide)) u119.out)
            have u147 : Hid (w139 275 83 = w114 275 83) := Hid.mk (q141.out.fld (by decide))
            have u148 : Hid (w139 275 84 = w114 275 84) := Hid.mk (q141.out.fld (by decide))
            have u149 : Hid (w139 275 85 = w114 275 85) := Hid.mk (q141.out.fld (by decide))
            have u150 : Hid (w139 275 86 = w114 275 86) := Hid.mk (q141.out.fld (by decide))
            have u152 : Hid (w139 275 88 = w114 275 88) := Hid.mk (q141.out.fld (by decide))
            have u153 : Hid (w139 275 94 = w114 275 94) := Hid.mk (q141.out.fld (by decide))
            have f154 : e_fr (mStm (w 275 78) (w 275 79) (w 275 80) (w 275 94)) w w139 := e_fr.trans f123 (q141.out.st (by omega))
            have c155 := cSt.em q116c q141.out (by decide) (by omega) (by omega)
            show e_Ok 20 elay ecode eI (d + 1) 351 (77, [(3, (0, w 275 78)), (2, (0, w 275 82)), (1, (0, w 275 80)), (0, (1, 275))], [(0, w114 275 78)], w139) _
            refine e_Ok.run (t' := (81, [(4, (0, w114 275 78)), (3, (0, w 275 78)), (2, (0, w 275 82)), (1, (0, w 275 80)), (0, (1, 275))], [(0, w 275 80), (1, 275)], w139)) 3 rfl ?_
            refine e_Ok.putf rfl (el_o rfl) rfl rfl ?_
            generalize hw156 : e_up w139 275 82 (w 275 80) = w156
            have f157 : e_fr (mStm (w 275 78) (w 275 79) (w 275 80) (w 275 94)) w w156 := e_fr.up f154 hw156 (by unfold mStm; omega)
            have u158 : Hid (w156 275 78 = w114 275 78 + 1) := Hid.mk (Eq.trans (by rw [← hw156]; exact e_up_ne _ _ (Or.inr (by decide))) u142.out)
            have u159 : Hid (w156 275 79 = w 275 79) := Hid.mk (Eq.trans (by rw [← hw156]; exact e_up_ne _ _ (Or.inr (by decide))) u143.out)
            have u160 : Hid (w156 275 80 = w 275 80 + 1) := Hid.mk (Eq.trans (by rw [← hw156]; exact e_up_ne _ _ (Or.inr (by decide))) u144.out)
            have u161 : Hid (w156 275 81 = w 275 81) := Hid.mk (Eq.trans (by rw [← hw156]; exact e_up_ne _ _ (Or.inr (by decide))) u145.out)
            have u163 : Hid (w156 275 83 = w114 275 83) := Hid.mk (Eq.trans (by rw [← hw156]; exact e_up_ne _ _ (Or.inr (by decide))) u147.out)
            have u164 : Hid (w156 275 84 = w114 275 84) := Hid.mk (Eq.trans (by rw [← hw156]; exact e_up_ne _ _ (Or.inr (by decide))) u148.out)
            have u165 : Hid (w156 275 85 = w114 275 85) := Hid.mk (Eq.trans (by rw [← hw156]; exact e_up_ne _ _ (Or.inr (by decide))) u149.out)
            have u166 : Hid (w156 275 86 = w114 275 86) := Hid.mk (Eq.trans (by rw [← hw156]; exact e_up_ne _ _ (Or.inr (by decide))) u150.out)
            have u168 : Hid (w156 275 88 = w114 275 88) := Hid.mk (Eq.trans (by rw [← hw156]; exact e_up_ne _ _ (Or.inr (by decide))) u152.out)
            have u169 : Hid (w156 275 94 = w114 275 94) := Hid.mk (Eq.trans (by rw [← hw156]; exact e_up_ne _ _ (Or.inr (by decide))) u153.out)
            have c170 := cSt.wr c155 hw156 (Or.inr rfl) (by omega) rfl (fun _ => ⟨⟨by decide, by decide⟩, fun y => absurd y (by decide)⟩)
            refine e_Ok.run (t' := (85, [(4, (0, w114 275 78)), (3, (0, w 275 78)), (2, (0, w 275 82)), (1, (0, w 275 80)), (0, (1, 275))], [(1, 275)], w156)) 1 rfl ?_
            refine e_Ok.callV rfl (Nat.le_trans (by decide) hdq) rfl rfl rfl rfl (c_348_0 (Nat.le_trans (by decide) hdq) c170 (by rw [u168.out] <;> omega)) (fun r171 w172 h173 => ?_)
            obtain ⟨rfl, rfl⟩ := h173
            show e_Ok 20 elay ecode eI (d + 1) 351 (88, [(4, (0, w114 275 78)), (3, (0, w 275 78)), (2, (0, w 275 82)), (1, (0, w 275 80)), (0, (1, 275))], [], w156) _
            refine e_Ok.run (t' := (90, [(4, (0, w114 275 78)), (3, (0, w 275 78)), (2, (0, w 275 82)), (1, (0, w 275 80)), (0, (1, 275))], [(0, w 275 82), (1, 275)], w156)) 2 rfl ?_
            refine e_Ok.putf rfl (el_o rfl) rfl rfl ?_
            generalize hw174 : e_up w156 275 82 (w 275 82) = w174
            have f175 : e_fr (mStm (w 275 78) (w 275 79) (w 275 80) (w 275 94)) w w174 := e_fr.up f157 hw174 (by unfold mStm; omega)
            have u176 : Hid (w174 275 78 = w114 275 78 + 1) := Hid.mk (Eq.trans (by rw [← hw174]; exact e_up_ne _ _ (Or.inr (by decide))) u158.out)
            have u177 : Hid (w174 275 79 = w 275 79) := Hid.mk (Eq.trans (by rw [← hw174]; exact e_up_ne _ _ (Or.inr (by decide))) u159.out)
            have u178 : Hid (w174 275 80 = w 275 80 + 1) := Hid.mk (Eq.trans (by rw [← hw174]; exact e_up_ne _ _ (Or.inr (by decide))) u160.out)
            have u179 : Hid (w174 275 81 = w 275 81) := Hid.mk (Eq.trans (by rw [← hw174]; exact e_up_ne _ _ (Or.inr (by decide))) u161.out)
            have u180 : Hid (w174 275 82 = w 275 82) := Hid.mk (by rw [← hw174]; exact e_up_eq _ _ _ _)
            have u181 : Hid (w174 275 83 = w114 275 83) := Hid.mk (Eq.trans (by rw [← hw174]; exact e_up_ne _ _ (Or.inr (by decide))) u163.out)
            have u182 : Hid (w174 275 84 = w114 275 84) := Hid.mk (Eq.trans (by rw [← hw174]; exact e_up_ne _ _ (Or.inr (by decide))) u164.out)
            have u183 : Hid (w174 275 85 = w114 275 85) := Hid.mk (Eq.trans (by rw [← hw174]; exact e_up_ne _ _ (Or.inr (by decide))) u165.out)
            have u184 : Hid (w174 275 86 = w114 275 86) := Hid.mk (Eq.trans (by rw [← hw174]; exact e_up_ne _ _ (Or.inr (by decide))) u166.out)
            have u186 : Hid (w174 275 88 = w114 275 88) := Hid.mk (Eq.trans (by rw [← hw174]; exact e_up_ne _ _ (Or.inr (by decide))) u168.out)
            have u187 : Hid (w174 275 94 = w114 275 94) := Hid.mk (Eq.trans (by rw [← hw174]; exact e_up_ne _ _ (Or.inr (by decide))) u169.out)
            have c188 := cSt.wr c170 hw174 (Or.inr rfl) (by omega) rfl (fun _ => ⟨⟨by decide, by decide⟩, fun y => absurd y (by decide)⟩)
            refine e_Ok.run (t' := (97, [(4, (0, w114 275 78)), (3, (0, w 275 78)), (2, (0, w 275 82)), (1, (0, w 275 80)), (0, (1, 275))], [(0, w 275 78), (0, 48), (1, 275)], w174)) 3 rfl ?_
            refine e_Ok.callV rfl (Nat.le_trans (by decide) hdq) rfl rfl rfl rfl (c_336 c188.1 (n := w114 275 78 + 1) u176.out (by omega) (s := w 275 81) u179.out (by omega)) (fun r189 w190 h191 => ?_)
            obtain ⟨rfl, q192⟩ := h191
            replace q192 := (show Hid (EM w174 w190 (w114 275 78 + 1) 48 (w 275 78) (w 275 81)) from q192)
            have u193 : Hid (w190 275 78 = w114 275 78 + 2) := Hid.mk (Eq.trans q192.out.2.2.2.2 (by omega))
            have u194 : Hid (w190 275 79 = w 275 79) := Hid.mk (Eq.trans (q192.out.fld (by decide)) u177.out)
            have u195 : Hid (w190 275 80 = w 275 80 + 1) := Hid.mk (Eq.trans (q192.out.fld (by decide)) u178.out)
            have u196 : Hid (w190 275 81 = w 275 81) := Hid.mk (Eq.trans (q192.out.fld (by decide)) u179.out)
            have u197 : Hid (w190 275 82 = w 275 82) := Hid.mk (Eq.trans (q192.out.fld (by decide)) u180.out)
            have u198 : Hid (w190 275 83 = w114 275 83) := Hid.mk (Eq.trans (q192.out.fld (by decide)) u181.out)
            have u199 : Hid (w190 275 84 = w114 275 84) := Hid.mk (Eq.trans (q192.out.fld (by decide)) u182.out)
            have u200 : Hid (w190 275 85 = w114 275 85) := Hid.mk (Eq.trans (q192.out.fld (by decide)) u183.out)
            have u201 : Hid (w190 275 86 = w114 275 86) := Hid.mk (Eq.trans (q192.out.fld (by decide)) u184.out)
            have u203 : Hid (w190 275 88 = w114 275 88) := Hid.mk (Eq.trans (q192.out.fld (by decide)) u186.out)
            have u204 : Hid (w190 275 94 = w114 275 94) := Hid.mk (Eq.trans (q192.out.fld (by decide)) u187.out)
            have f205 : e_fr (mStm (w 275 78) (w 275 79) (w 275 80) (w 275 94)) w w190 := e_fr.trans f175 (q192.out.st (by omega))
            have c206 := cSt.em c188 q192.out (by decide) (by omega) (by omega)
            show e_Ok 20 elay ecode eI (d + 1) 351 (100, [(4, (0, w114 275 78)), (3, (0, w 275 78)), (2, (0, w 275 82)), (1, (0, w 275 80)), (0, (1, 275))], [(0, w114 275 78 + 1)], w190) _
            refine e_Ok.run (t' := (104, [(4, (0, w114 275 78)), (3, (0, w 275 78)), (2, (0, w 275 82)), (1, (0, w 275 80)), (0, (1, 275))], [(0, w114 275 78), (1, 275)], w190)) 3 rfl ?_
            refine e_Ok.callV rfl (Nat.le_trans (by decide) hdq) rfl rfl rfl rfl (c_337 c206.1 (n := w114 275 78 + 2) u193.out (by omega) (by omega)) (fun r207 w208 h209 => ?_)
            obtain ⟨rfl, q210⟩ := h209
            have f211 : e_fr (mStm (w 275 78) (w 275 79) (w 275 80) (w 275 94)) w w208 := e_fr.up f205 q210 (by unfold mStm; omega)
            have u212 : Hid (w208 275 78 = w114 275 78 + 2) := Hid.mk (Eq.trans (by rw [← q210]; exact e_up_ne _ _ (Or.inl (by decide))) u193.out)
            have u213 : Hid (w208 275 79 = w 275 79) := Hid.mk (Eq.trans (by rw [← q210]; exact e_up_ne _ _ (Or.inl (by decide))) u194.out)
            have u214 : Hid (w208 275 80 = w 275 80 + 1) := Hid.mk (Eq.trans (by rw [← q210]; exact e_up_ne _ _ (Or.inl (by decide))) u195.out)
            have u215 : Hid (w208 275 81 = w 275 81) := Hid.mk (Eq.trans (by rw [← q210]; exact e_up_ne _ _ (Or.inl (by decide))) u196.out)
            have u216 : Hid (w208 275 82 = w 275 82) := Hid.mk (Eq.trans (by rw [← q210]; exact e_up_ne _ _ (Or.inl (by decide))) u197.out)
            have u217 : Hid (w208 275 83 = w114 275 83) := Hid.mk (Eq.trans (by rw [← q210]; exact e_up_ne _ _ (Or.inl (by decide))) u198.out)
            have u218 : Hid (w208 275 84 = w114 275 84) := Hid.mk (Eq.trans (by rw [← q210]; exact e_up_ne _ _ (Or.inl (by decide))) u199.out)
            have u219 : Hid (w208 275 85 = w114 275 85) := Hid.mk (Eq.trans (by rw [← q210]; exact e_up_ne _ _ (Or.inl (by decide))) u200.out)
            have u220 : Hid (w208 275 86 = w114 275 86) := Hid.mk (Eq.trans (by rw [← q210]; exact e_up_ne _ _ (Or.inl (by decide))) u201.out)
            have u222 : Hid (w208 275 88 = w114 275 88) := Hid.mk (Eq.trans (by rw [← q210]; exact e_up_ne _ _ (Or.inl (by decide))) u203.out)
            have u223 : Hid (w208 275 94 = w114 275 94) := Hid.mk (Eq.trans (by rw [← q210]; exact e_up_ne _ _ (Or.inl (by decide))) u204.out)
            have c224 := cSt.wr c206 q210 (Or.inl rfl) (by omega) rfl (fun y => absurd y (by decide))
            show e_Ok 20 elay ecode eI (d + 1) 351 (107, [(4, (0, w114 275 78)), (3, (0, w 275 78)), (2, (0, w 275 82)), (1, (0, w 275 80)), (0, (1, 275))], [], w208) _
            refine e_Ok.run (t' := (108, [(4, (0, w114 275 78)), (3, (0, w 275 78)), (2, (0, w 275 82)), (1, (0, w 275 80)), (0, (1, 275))], [(1, 275)], w208)) 1 rfl ?_
            refine e_Ok.getr (z := 336) rfl (el_o rfl) rfl rfl ((f211 275 73 (by unfold mStm; omega)).trans (e_Has.eq hc.1 rfl)) (by omega) ?_
            refine e_Ok.run (t' := (115, [(4, (0, w114 275 78)), (3, (0, w 275 78)), (2, (0, w 275 82)), (1, (0, w 275 80)), (0, (1, 275))], [(0, w 275 80), (0, 3600), (1, 336)], w208)) 2 rfl ?_
            refine e_Ok.add (z := w 275 80 + 3600) rfl (by omega) (by omega) ?_
            refine e_Ok.run (t' := (117, [(4, (0, w114 275 78)), (3, (0, w 275 78)), (2, (0, w 275 82)), (1, (0, w 275 80)), (0, (1, 275))], [(1, 275), (0, w 275 80 + 3600), (1, 336)], w208)) 1 rfl ?_
            refine e_Ok.getf (z := w114 275 78 + 2) rfl (el_o rfl) rfl rfl u212.out (by omega) ?_
            refine e_Ok.ast rfl (el_o rfl) rfl rfl (by omega) ?_
            generalize hw225 : e_up w208 336 (w 275 80 + 3600) (w114 275 78 + 2) = w225
            have f226 : e_fr (mStm (w 275 78) (w 275 79) (w 275 80) (w 275 94)) w w225 := e_fr.up f211 hw225 (by unfold mStm; omega)
            have u227 : Hid (w225 275 78 = w114 275 78 + 2) := Hid.mk (Eq.trans (by rw [← hw225]; exact e_up_ne _ _ (Or.inl (by decide))) u212.out)
            have u228 : Hid (w225 275 79 = w 275 79) := Hid.mk (Eq.trans (by rw [← hw225]; exact e_up_ne _ _ (Or.inl (by decide))) u213.out)
            have u229 : Hid (w225 275 80 = w 275 80 + 1) := Hid.mk (Eq.trans (by rw [← hw225]; exact e_up_ne _ _ (Or.inl (by decide))) u214.out)
            have u230 : Hid (w225 275 81 = w 275 81) := Hid.mk (Eq.trans (by rw [← hw225]; exact e_up_ne _ _ (Or.inl (by decide))) u215.out)
            have u231 : Hid (w225 275 82 = w 275 82) := Hid.mk (Eq.trans (by rw [← hw225]; exact e_up_ne _ _ (Or.inl (by decide))) u216.out)
            have u232 : Hid (w225 275 83 = w114 275 83) := Hid.mk (Eq.trans (by rw [← hw225]; exact e_up_ne _ _ (Or.inl (by decide))) u217.out)
            have u233 : Hid (w225 275 84 = w114 275 84) := Hid.mk (Eq.trans (by rw [← hw225]; exact e_up_ne _ _ (Or.inl (by decide))) u218.out)
            have u234 : Hid (w225 275 85 = w114 275 85) := Hid.mk (Eq.trans (by rw [← hw225]; exact e_up_ne _ _ (Or.inl (by decide))) u219.out)
            have u235 : Hid (w225 275 86 = w114 275 86) := Hid.mk (Eq.trans (by rw [← hw225]; exact e_up_ne _ _ (Or.inl (by decide))) u220.out)
            have u237 : Hid (w225 275 88 = w114 275 88) := Hid.mk (Eq.trans (by rw [← hw225]; exact e_up_ne _ _ (Or.inl (by decide))) u222.out)
            have u238 : Hid (w225 275 94 = w114 275 94) := Hid.mk (Eq.trans (by rw [← hw225]; exact e_up_ne _ _ (Or.inl (by decide))) u223.out)
            have c239 := cSt.wr c224 hw225 (Or.inl rfl) (by omega) rfl (fun y => absurd y (by decide))
            refine e_Ok.run (t' := (124, [(4, (0, w114 275 78)), (3, (0, w 275 78)), (2, (0, w 275 82)), (1, (0, w 275 80)), (0, (1, 275))], [(0, 2), (1, 275), (1, 275)], w225)) 3 rfl ?_
            refine e_Ok.callV rfl (Nat.le_trans (by decide) hdq) rfl rfl rfl rfl (c_332 c239.1 (N := N) c239.2.2.2.1) (fun r240 w241 h242 => ?_)
            obtain ⟨z243, rfl, rfl, q244⟩ := h242
            obtain ⟨rfl, q244, q244b⟩ | ⟨rfl, q244n⟩ := q244
            · show e_Ok 20 elay ecode eI (d + 1) 351 (127, [(4, (0, w114 275 78)), (3, (0, w 275 78)), (2, (0, w 275 82)), (1, (0, w 275 80)), (0, (1, 275))], [(0, 1), (1, 275)], w225) _
              rw [u233.out] at q244
              rw [u234.out] at q244b
              refine e_Ok.callV rfl (Nat.le_trans (by decide) hdq) rfl rfl rfl rfl (c_334 (Nat.le_trans (by decide) hdq) c239.1 c239.2.1 c239.2.2.1 hNr c239.2.2.2.1 (by decide)) (fun r245 w246 h247 => ?_)
              obtain ⟨rfl, q248⟩ := h247
              obtain ⟨rfl, q248z⟩ | ⟨q248z, q248b, q248, q248s, q248t⟩ | ⟨q248z, q248b, q248, q248T, q248H, q248r⟩ := q248
              · show e_Ok 20 elay ecode eI (d + 1) 351 (130, [(4, (0, w114 275 78)), (3, (0, w 275 78)), (2, (0, w 275 82)), (1, (0, w 275 80)), (0, (1, 275))], [], w225) _
                rw [u237.out] at q248z
                refine e_Ok.run (t' := (132, [(4, (0, w114 275 78)), (3, (0, w 275 78)), (2, (0, w 275 82)), (1, (0, w 275 80)), (0, (1, 275))], [(1, 275), (1, 275)], w225)) 2 rfl ?_
                refine e_Ok.getf (z := w114 275 83) rfl (el_o rfl) rfl rfl u232.out (by omega) ?_
                refine e_Ok.run (t' := (136, [(4, (0, w114 275 78)), (3, (0, w 275 78)), (2, (0, w 275 82)), (1, (0, w 275 80)), (0, (1, 275))], [(0, 1), (0, w114 275 83), (1, 275)], w225)) 1 rfl ?_
                refine e_Ok.sub' (z := w114 275 83 - 1) rfl (by omega) (by omega) ?_
                refine e_Ok.putf rfl (el_o rfl) rfl rfl ?_
                generalize hw249 : e_up w225 275 83 (w114 275 83 - 1) = w249
                have f250 : e_fr (mStm (w 275 78) (w 275 79) (w 275 80) (w 275 94)) w w249 := e_fr.up f226 hw249 (by unfold mStm; omega)
                have e251 := up83 hw249
                replace e251 := (show Hid _ from e251)
                have u252 : Hid (w249 275 78 = w114 275 78 + 2) := Hid.mk (Eq.trans (e251.out.1 275 78 (by decide)) u227.out)
                have u253 : Hid (w249 275 79 = w 275 79) := Hid.mk (Eq.trans (e251.out.1 275 79 (by decide)) u228.out)
                have u254 : Hid (w249 275 80 = w 275 80 + 1) := Hid.mk (Eq.trans (e251.out.1 275 80 (by decide)) u229.out)
                have u255 : Hid (w249 275 81 = w 275 81) := Hid.mk (Eq.trans (e251.out.1 275 81 (by decide)) u230.out)
                have u256 : Hid (w249 275 82 = w 275 82) := Hid.mk (Eq.trans (e251.out.1 275 82 (by decide)) u231.out)
                have u257 : Hid (w249 275 83 = w114 275 83 - 1) := Hid.mk (e251.out.2)
                have u260 : Hid (w249 275 86 = w114 275 86) := Hid.mk (Eq.trans (e251.out.1 275 86 (by decide)) u235.out)
                have u262 : Hid (w249 275 88 = w114 275 88) := Hid.mk (Eq.trans (e251.out.1 275 88 (by decide)) u237.out)
                have u263 : Hid (w249 275 94 = w114 275 94) := Hid.mk (Eq.trans (e251.out.1 275 94 (by decide)) u238.out)
                have c264 := cSt.up c239 hw249
                refine e_Ok.rets rfl rfl ?_
                exact ⟨rfl, f250, c264, (by unfold stL; rw [u252.out, u253.out, u254.out, u255.out, u256.out, u257.out, u260.out, u262.out, u263.out]; omega), (fun z => by rw [u262.out] at z; exact absurd z (by omega))⟩
              · rw [u237.out] at q248z; exact absurd q248z (by omega)
              · rw [u237.out] at q248z; exact absurd q248z (by omega)
            · show e_Ok 20 elay ecode eI (d + 1) 351 (127, [(4, (0, w114 275 78)), (3, (0, w 275 78)), (2, (0, w 275 82)), (1, (0, w 275 80)), (0, (1, 275))], [(0, 0), (1, 275)], w225) _
              clear q244n
              refine e_Ok.callV rfl (Nat.le_trans (by decide) hdq) rfl rfl rfl rfl (c_334 (Nat.le_trans (by decide) hdq) c239.1 c239.2.1 c239.2.2.1 hNr c239.2.2.2.1 (by decide)) (fun r265 w266 h267 => ?_)
              obtain ⟨rfl, q268⟩ := h267
              obtain ⟨rfl, q268z⟩ | ⟨q268z, q268b, q268, q268s, q268t⟩ | ⟨q268z, q268b, q268, q268T, q268H, q268r⟩ := q268
              · show e_Ok 20 elay ecode eI (d + 1) 351 (130, [(4, (0, w114 275 78)), (3, (0, w 275 78)), (2, (0, w 275 82)), (1, (0, w 275 80)), (0, (1, 275))], [], w225) _
                rw [u237.out] at q268z
                refine e_Ok.run (t' := (132, [(4, (0, w114 275 78)), (3, (0, w 275 78)), (2, (0, w 275 82)), (1, (0, w 275 80)), (0, (1, 275))], [(1, 275), (1, 275)], w225)) 2 rfl ?_
                refine e_Ok.getf (z := w114 275 83) rfl (el_o rfl) rfl rfl u232.out (by omega) ?_
                refine e_Ok.run (t' := (136, [(4, (0, w114 275 78)), (3, (0, w 275 78)), (2, (0, w 275 82)), (1, (0, w 275 80)), (0, (1, 275))], [(0, 1), (0, w114 275 83), (1, 275)], w225)) 1 rfl ?_
                refine e_Ok.sub' (z := w114 275 83 - 1) rfl (by omega) (by omega) ?_
                refine e_Ok.putf rfl (el_o rfl) rfl rfl ?_
                generalize hw269 : e_up w225 275 83 (w114 275 83 - 1) = w269
                have f270 : e_fr (mStm (w 275 78) (w 275 79) (w 275 80) (w 275 94)) w w269 := e_fr.up f226 hw269 (by unfold mStm; omega)
                have e271 := up83 hw269
                replace e271 := (show Hid _ from e271)
                have u272 : Hid (w269 275 78 = w114 275 78 + 2) := Hid.mk (Eq.trans (e271.out.1 275 78 (by decide)) u227.out)
                have u273 : Hid (w269 275 79 = w 275 79) := Hid.mk (Eq.trans (e271.out.1 275 79 (by decide)) u228.out)
                have u274 : Hid (w269 275 80 = w 275 80 + 1) := Hid.mk (Eq.trans (e271.out.1 275 80 (by decide)) u229.out)
                have u275 : Hid (w269 275 81 = w 275 81) := Hid.mk (Eq.trans (e271.out.1 275 81 (by decide)) u230.out)
                have u276 : Hid (w269 275 82 = w 275 82) := Hid.mk (Eq.trans (e271.out.1 275 82 (by decide)) u231.out)
                have u277 : Hid (w269 275 83 = w114 275 83 - 1) := Hid.mk (e271.out.2)
                have u280 : Hid (w269 275 86 = w114 275 86) := Hid.mk (Eq.trans (e271.out.1 275 86 (by decide)) u235.out)
                have u282 : Hid (w269 275 88 = w114 275 88) := Hid.mk (Eq.trans (e271.out.1 275 88 (by decide)) u237.out)
                have u283 : Hid (w269 275 94 = w114 275 94) := Hid.mk (Eq.trans (e271.out.1 275 94 (by decide)) u238.out)
                have c284 := cSt.up c239 hw269
                refine e_Ok.rets rfl rfl ?_
                exact ⟨rfl, f270, c284, (by unfold stL; rw [u272.out, u273.out, u274.out, u275.out, u276.out, u277.out, u280.out, u282.out, u283.out]; omega), (fun z => by rw [u282.out] at z; exact absurd z (by omega))⟩
              · rw [u237.out] at q268z; exact absurd q268z (by omega)
              · rw [u237.out] at q268z; exact absurd q268z (by omega)
          · show e_Ok 20 elay ecode eI (d + 1) 351 (70, [(3, (0, w 275 78)), (2, (0, w 275 82)), (1, (0, w 275 80)), (0, (1, 275))], [], w135) _
            replace q1163 := q1163 (by omega)
            replace q1169 := q1169 (by omega)
            have p285 := tkS.pos q116c.2.2.2.1 (by omega)
            have u286 : Hid (w135 275 78 = w114 275 78) := Hid.mk (q137 275 78 (mTq_fld (by decide)))
            have u287 : Hid (w135 275 79 = w 275 79) := Hid.mk (Eq.trans (q137 275 79 (mTq_fld (by decide))) u117.out)
            have u288 : Hid (w135 275 80 = w 275 80 + 1) := Hid.mk (Eq.trans (q137 275 80 (mTq_fld (by decide))) u118.out)
            have u289 : Hid (w135 275 81 = w 275 81) := Hid.mk (Eq.trans (q137 275 81 (mTq_fld (by decide))) u119.out)
            have u291 : Hid (w135 275 83 = w114 275 83) := Hid.mk (q137 275 83 (mTq_fld (by decide)))
            have u292 : Hid (w135 275 88 = w114 275 88) := Hid.mk (q137 275 88 (mTq_fld (by decide)))
            have u293 : Hid (w135 275 94 = w114 275 94) := Hid.mk (q137 275 94 (mTq_fld (by decide)))
            have c294 := cSt.tk q116c q137 q137s
            have t295 := tkS.lin c294.2.2.2.1
            have f296 : e_fr (mStm (w 275 78) (w 275 79) (w 275 80) (w 275 94)) w w135 := e_fr.trans f123 (e_fr.mono q137 (fun c k g => mTq_St g))
            have g297 : Hid (w114 275 88 = 0 → GS w135 N (w114 275 78) (w114 275 94) (w 275 79) (w 275 80 + 1) P (w 275 81) (fun v => OW v ∨ v = w 275 80) O (0 + 1)) := Hid.mk (fun z => GS.pr (g124.out z) (prE.tk q137))
            have cf298 : Hid (w135 335 (w 275 80 + 3600) = w 275 81) := Hid.mk (Eq.trans (q137 335 (w 275 80 + 3600) (mTq_not (by decide))) cf125.out)
            have cf299 : Hid (w135 328 (w 275 78 + 40000) = 30) := Hid.mk (Eq.trans (q137 328 (w 275 78 + 40000) (mTq_not (by decide))) cf126.out)
            have cf300 : Hid (w135 330 (w 275 78 + 40000) = w 275 81) := Hid.mk (Eq.trans (q137 330 (w 275 78 + 40000) (mTq_not (by decide))) cf127.out)
            have df301 : Hid (dp w135 (w 275 78) = 0) := Hid.mk (Eq.trans (dp_eq (fun k k1 k2 => q137 328 (k + 40000) (mTq_not (by decide)))) df128.out)
            refine e_Ok.run (t' := (74, [(3, (0, w 275 78)), (2, (0, w 275 82)), (1, (0, w 275 80)), (0, (1, 275))], [(0, 0), (0, 47), (1, 275)], w135)) 3 rfl ?_
            refine e_Ok.callV rfl (Nat.le_trans (by decide) hdq) rfl rfl rfl rfl (c_336 c294.1 (n := w114 275 78) u286.out (by omega) (s := w 275 81) u289.out (by omega)) (fun r302 w303 h304 => ?_)
            obtain ⟨rfl, q305⟩ := h304
            replace q305 := (show Hid (EM w135 w303 (w114 275 78) 47 (0) (w 275 81)) from q305)
            have u306 : Hid (w303 275 78 = w114 275 78 + 1) := Hid.mk (Eq.trans q305.out.2.2.2.2 (by omega))
            have u307 : Hid (w303 275 79 = w 275 79) := Hid.mk (Eq.trans (q305.out.fld (by decide)) u287.out)
            have u308 : Hid (w303 275 80 = w 275 80 + 1) := Hid.mk (Eq.trans (q305.out.fld (by decide)) u288.out)
            have u309 : Hid (w303 275 81 = w 275 81) := Hid.mk (Eq.trans (q305.out.fld (by decide)) u289.out)
            have u311 : Hid (w303 275 83 = w114 275 83) := Hid.mk (Eq.trans (q305.out.fld (by decide)) u291.out)
            have u314 : Hid (w303 275 86 = w135 275 86) := Hid.mk (q305.out.fld (by decide))
            have u316 : Hid (w303 275 88 = w114 275 88) := Hid.mk (Eq.trans (q305.out.fld (by decide)) u292.out)
            have u317 : Hid (w303 275 94 = w114 275 94) := Hid.mk (Eq.trans (q305.out.fld (by decide)) u293.out)
            have f318 : e_fr (mStm (w 275 78) (w 275 79) (w 275 80) (w 275 94)) w w303 := e_fr.trans f296 (q305.out.st (by omega))
            have c319 := cSt.em c294 q305.out (by decide) (by omega) (by omega)
            have cf320 : Hid (w303 335 (w 275 80 + 3600) = w 275 81) := Hid.mk (Eq.trans (q305.out.far (by decide)) cf298.out)
            have cf321 : Hid (w303 328 (w 275 78 + 40000) = 30) := Hid.mk (Eq.trans (q305.out.lt (by decide) (by omega)) cf299.out)
            have cf322 : Hid (w303 330 (w 275 78 + 40000) = w 275 81) := Hid.mk (Eq.trans (q305.out.lt (by decide) (by omega)) cf300.out)
            have df323 : Hid (dp w303 (w 275 78) = 0) := Hid.mk (Eq.trans (dp_eq (fun k k1 k2 => q305.out.lt (by decide) (by omega))) df301.out)
            have g324 : Hid (w114 275 88 = 0 → GB w303 N (w114 275 78 + 1) (w114 275 94) (w 275 79) (w 275 80 + 1) (fun p => P p ∨ p = w114 275 78) (w 275 81) (fun v => OW v ∨ v = w 275 80) O) := Hid.mk (fun z => (GS.jn (GS.re (g297.out (by omega)) rfl rfl rfl rfl rfl (show _ = 1 from by omega)) q305.out))
            have cf325 : Hid (w303 328 (w114 275 78 + 40000) = 47) := Hid.mk (q305.out.2.1)
            have cf326 : Hid (w303 330 (w114 275 78 + 40000) = w 275 81) := Hid.mk (q305.out.2.2.2.1)
            show e_Ok 20 elay ecode eI (d + 1) 351 (77, [(3, (0, w 275 78)), (2, (0, w 275 82)), (1, (0, w 275 80)), (0, (1, 275))], [(0, w114 275 78)], w303) _
            refine e_Ok.run (t' := (81, [(4, (0, w114 275 78)), (3, (0, w 275 78)), (2, (0, w 275 82)), (1, (0, w 275 80)), (0, (1, 275))], [(0, w 275 80), (1, 275)], w303)) 3 rfl ?_
            refine e_Ok.putf rfl (el_o rfl) rfl rfl ?_
            generalize hw327 : e_up w303 275 82 (w 275 80) = w327
            have f329 : e_fr (mStm (w 275 78) (w 275 79) (w 275 80) (w 275 94)) w w327 := e_fr.up f318 hw327 (by unfold mStm; omega)
            have u331 : Hid (w327 275 78 = w114 275 78 + 1) := Hid.mk (Eq.trans (by rw [← hw327]; exact e_up_ne _ _ (Or.inr (by decide))) u306.out)
            have u332 : Hid (w327 275 79 = w 275 79) := Hid.mk (Eq.trans (by rw [← hw327]; exact e_up_ne _ _ (Or.inr (by decide))) u307.out)
            have u333 : Hid (w327 275 80 = w 275 80 + 1) := Hid.mk (Eq.trans (by rw [← hw327]; exact e_up_ne _ _ (Or.inr (by decide))) u308.out)
            have u334 : Hid (w327 275 81 = w 275 81) := Hid.mk (Eq.trans (by rw [← hw327]; exact e_up_ne _ _ (Or.inr (by decide))) u309.out)
            have u335 : Hid (w327 275 82 = w 275 80) := Hid.mk (by rw [← hw327]; exact e_up_eq _ _ _ _)
            have u336 : Hid (w327 275 83 = w114 275 83) := Hid.mk (Eq.trans (by rw [← hw327]; exact e_up_ne _ _ (Or.inr (by decide))) u311.out)
            have u340 : Hid (w327 275 86 = w135 275 86) := Hid.mk (Eq.trans (by rw [← hw327]; exact e_up_ne _ _ (Or.inr (by decide))) u314.out)
            have u342 : Hid (w327 275 88 = w114 275 88) := Hid.mk (Eq.trans (by rw [← hw327]; exact e_up_ne _ _ (Or.inr (by decide))) u316.out)
            have u343 : Hid (w327 275 94 = w114 275 94) := Hid.mk (Eq.trans (by rw [← hw327]; exact e_up_ne _ _ (Or.inr (by decide))) u317.out)
            have c344 := cSt.wr c319 hw327 (Or.inr rfl) (by omega) rfl (fun _ => ⟨⟨by decide, by decide⟩, fun y => absurd y (by decide)⟩)
            have cf345 : Hid (w327 335 (w 275 80 + 3600) = w 275 81) := Hid.mk (Eq.trans (by rw [← hw327]; exact e_up_ne _ _ (Or.inl (by decide))) cf320.out)
            have cf346 : Hid (w327 328 (w 275 78 + 40000) = 30) := Hid.mk (Eq.trans (by rw [← hw327]; exact e_up_ne _ _ (Or.inl (by decide))) cf321.out)
            have cf347 : Hid (w327 330 (w 275 78 + 40000) = w 275 81) := Hid.mk (Eq.trans (by rw [← hw327]; exact e_up_ne _ _ (Or.inl (by decide))) cf322.out)
            have cf348 : Hid (w327 328 (w114 275 78 + 40000) = 47) := Hid.mk (Eq.trans (by rw [← hw327]; exact e_up_ne _ _ (Or.inl (by decide))) cf325.out)
            have cf349 : Hid (w327 330 (w114 275 78 + 40000) = w 275 81) := Hid.mk (Eq.trans (by rw [← hw327]; exact e_up_ne _ _ (Or.inl (by decide))) cf326.out)
            have df350 : Hid (dp w327 (w 275 78) = 0) := Hid.mk (Eq.trans (dp_eq (fun k k1 k2 => by rw [← hw327]; exact e_up_ne _ _ (Or.inl (by decide)))) df323.out)
            have g351 : Hid (w114 275 88 = 0 → GB w327 N (w114 275 78 + 1) (w114 275 94) (w 275 79) (w 275 80 + 1) (fun p => P p ∨ p = w114 275 78) (w 275 81) (fun v => OW v ∨ v = w 275 80) O) := Hid.mk (fun z => GB.pr (g324.out z) (fun c k q => by rw [← hw327]; exact e_up_ne _ _ (by omega)))
            refine e_Ok.run (t' := (85, [(4, (0, w114 275 78)), (3, (0, w 275 78)), (2, (0, w 275 82)), (1, (0, w 275 80)), (0, (1, 275))], [(1, 275)], w327)) 1 rfl ?_
            refine e_Ok.callV rfl (Nat.le_trans (by decide) hdq) rfl rfl rfl rfl ((hS (by omega) d rfl) w327 N O (fun p => P p ∨ p = w114 275 78) (fun v => OW v ∨ v = w 275 80) c344 hNr (by rw [u342.out] <;> omega) (Eq.trans u336.out (show _ = o + 1 from by omega)) (Or.inr (Or.inr (by rw [u335.out] <;> omega))) (by unfold stB; rw [u331.out, u340.out, u343.out, u332.out, u333.out]; omega) (by omega) (by rw [u331.out, u343.out, u332.out, u333.out, u334.out] <;> exact (g351.out (by omega)))) (fun r352 w353 h354 => ?_)
            obtain ⟨rfl, q355F, q355c, q355l, q355w⟩ := h354
            unfold stL at q355l
            obtain ⟨q3551, q3552, q3553, q3554, q3555, q3556, q3557, q3558, q3559, q35510, q35511, q35512⟩ := q355l
            replace q3559 := (show Hid _ from q3559)
            replace q35510 := (show Hid _ from q35510)
            replace q355F := (show Hid _ from q355F)
            rw [u340.out] at q3551
            rw [u331.out] at q3552
            rw [u331.out, u340.out, u336.out, u332.out, u333.out] at q3553
            rw [u331.out, u340.out] at q3554
            rw [u343.out] at q3555
            rw [u343.out, u340.out] at q3556
            rw [u336.out] at q3557
            rw [u336.out] at q3558
            rw [u332.out] at q35511
            rw [u333.out] at q35512
            have f356 : Hid (e_fr (mStm (w114 275 78 + 1) (w 275 79) (w 275 80 + 1) (w114 275 94)) w327 w353) := Hid.mk (by have y := q355F.out; rw [u331.out, u332.out, u333.out, u343.out] at y; exact y)
            replace q355w := (show Hid _ from q355w)
            have u357 : Hid (w353 275 81 = w 275 81) := Hid.mk (Eq.trans (q3559.out) u334.out)
            have t359 := tkS.lin q355c.2.2.2.1
            have t360 := e_Has.get q355c.2.1 (c := 275) (k := 88) (lo := 0) (hi := 7) rfl (by decide)
            have f361 : e_fr (mStm (w 275 78) (w 275 79) (w 275 80) (w 275 94)) w w353 := e_fr.trans f329 (e_fr.mono f356.out (fun c k g => mSt_St (by omega) (by omega) (by omega) (by omega) g))
            have g362 : Hid (w353 275 88 = 0 → GB w353 N (w353 275 78) (w353 275 94) (w353 275 79) (w353 275 80) (fun p => P p ∨ p = w114 275 78) (w 275 81) (fun v => OW v ∨ v = w 275 80) O) := Hid.mk (fun z => by have y := q355w.out z; rw [u357.out] at y; exact y)
            have cf363 : Hid (w353 335 (w 275 80 + 3600) = w 275 81) := Hid.mk (Eq.trans (f356.out 335 (w 275 80 + 3600) (by unfold mStm; omega)) cf345.out)
            have cf364 : Hid (w353 328 (w 275 78 + 40000) = 30) := Hid.mk (Eq.trans (f356.out 328 (w 275 78 + 40000) (by unfold mStm; omega)) cf346.out)
            have cf365 : Hid (w353 330 (w 275 78 + 40000) = w 275 81) := Hid.mk (Eq.trans (f356.out 330 (w 275 78 + 40000) (by unfold mStm; omega)) cf347.out)
            have cf366 : Hid (w353 328 (w114 275 78 + 40000) = 47) := Hid.mk (Eq.trans (f356.out 328 (w114 275 78 + 40000) (by unfold mStm; omega)) cf348.out)
            have cf367 : Hid (w353 330 (w114 275 78 + 40000) = w 275 81) := Hid.mk (Eq.trans (f356.out 330 (w114 275 78 + 40000) (by unfold mStm; omega)) cf349.out)
            have df368 : Hid (dp w353 (w 275 78) = 0) := Hid.mk (Eq.trans (dp_eq (fun k k1 k2 => f356.out 328 (k + 40000) (by unfold mStm; omega))) df350.out)
            show e_Ok 20 elay ecode eI (d + 1) 351 (88, [(4, (0, w114 275 78)), (3, (0, w 275 78)), (2, (0, w 275 82)), (1, (0, w 275 80)), (0, (1, 275))], [], w353) _
            refine e_Ok.run (t' := (90, [(4, (0, w114 275 78)), (3, (0, w 275 78)), (2, (0, w 275 82)), (1, (0, w 275 80)), (0, (1, 275))], [(0, w 275 82), (1, 275)], w353)) 2 rfl ?_
            refine e_Ok.putf rfl (el_o rfl) rfl rfl ?_
            generalize hw369 : e_up w353 275 82 (w 275 82) = w369
            have f370 : e_fr (mStm (w 275 78) (w 275 79) (w 275 80) (w 275 94)) w w369 := e_fr.up f361 hw369 (by unfold mStm; omega)
            have u371 : Hid (w369 275 78 = w353 275 78) := Hid.mk (by rw [← hw369]; exact e_up_ne _ _ (Or.inr (by decide)))
            have u372 : Hid (w369 275 79 = w353 275 79) := Hid.mk (by rw [← hw369]; exact e_up_ne _ _ (Or.inr (by decide)))
            have u373 : Hid (w369 275 80 = w353 275 80) := Hid.mk (by rw [← hw369]; exact e_up_ne _ _ (Or.inr (by decide)))
            have u374 : Hid (w369 275 81 = w 275 81) := Hid.mk (Eq.trans (by rw [← hw369]; exact e_up_ne _ _ (Or.inr (by decide))) u357.out)
            have u375 : Hid (w369 275 82 = w 275 82) := Hid.mk (by rw [← hw369]; exact e_up_eq _ _ _ _)
            have u376 : Hid (w369 275 83 = w353 275 83) := Hid.mk (by rw [← hw369]; exact e_up_ne _ _ (Or.inr (by decide)))
            have u377 : Hid (w369 275 84 = w353 275 84) := Hid.mk (by rw [← hw369]; exact e_up_ne _ _ (Or.inr (by decide)))
            have u378 : Hid (w369 275 85 = w353 275 85) := Hid.mk (by rw [← hw369]; exact e_up_ne _ _ (Or.inr (by decide)))
            have u379 : Hid (w369 275 86 = w353 275 86) := Hid.mk (by rw [← hw369]; exact e_up_ne _ _ (Or.inr (by decide)))
            have u380 : Hid (w369 275 87 = w353 275 87) := Hid.mk (by rw [← hw369]; exact e_up_ne _ _ (Or.inr (by decide)))
            have u381 : Hid (w369 275 88 = w353 275 88) := Hid.mk (by rw [← hw369]; exact e_up_ne _ _ (Or.inr (by decide)))
            have u382 : Hid (w369 275 94 = w353 275 94) := Hid.mk (by rw [← hw369]; exact e_up_ne _ _ (Or.inr (by decide)))
            have c383 := cSt.wr q355c hw369 (Or.inr rfl) (by omega) rfl (fun _ => ⟨⟨by decide, by decide⟩, fun y => absurd y (by decide)⟩)
            have cf384 : Hid (w369 335 (w 275 80 + 3600) = w 275 81) := Hid.mk (Eq.trans (by rw [← hw369]; exact e_up_ne _ _ (Or.inl (by decide))) cf363.out)
            have cf385 : Hid (w369 328 (w 275 78 + 40000) = 30) := Hid.mk (Eq.trans (by rw [← hw369]; exact e_up_ne _ _ (Or.inl (by decide))) cf364.out)
            have cf386 : Hid (w369 330 (w 275 78 + 40000) = w 275 81) := Hid.mk (Eq.trans (by rw [← hw369]; exact e_up_ne _ _ (Or.inl (by decide))) cf365.out)
            have cf387 : Hid (w369 328 (w114 275 78 + 40000) = 47) := Hid.mk (Eq.trans (by rw [← hw369]; exact e_up_ne _ _ (Or.inl (by decide))) cf366.out)
            have cf388 : Hid (w369 330 (w114 275 78 + 40000) = w 275 81) := Hid.mk (Eq.trans (by rw [← hw369]; exact e_up_ne _ _ (Or.inl (by decide))) cf367.out)
            have df389 : Hid (dp w369 (w 275 78) = 0) := Hid.mk (Eq.trans (dp_eq (fun k k1 k2 => by rw [← hw369]; exact e_up_ne _ _ (Or.inl (by decide)))) df368.out)
            have g390 : Hid (w353 275 88 = 0 → GB w369 N (w353 275 78) (w353 275 94) (w353 275 79) (w353 275 80) (fun p => P p ∨ p = w114 275 78) (w 275 81) (fun v => OW v ∨ v = w 275 80) O) := Hid.mk (fun z => GB.pr (g362.out z) (fun c k q => by rw [← hw369]; exact e_up_ne _ _ (by omega)))
            refine e_Ok.run (t' := (97, [(4, (0, w114 275 78)), (3, (0, w 275 78)), (2, (0, w 275 82)), (1, (0, w 275 80)), (0, (1, 275))], [(0, w 275 78), (0, 48), (1, 275)], w369)) 3 rfl ?_
            refine e_Ok.callV rfl (Nat.le_trans (by decide) hdq) rfl rfl rfl rfl (c_336 c383.1 (n := w353 275 78) u371.out (by omega) (s := w 275 81) u374.out (by omega)) (fun r391 w392 h393 => ?_)
            obtain ⟨rfl, q394⟩ := h393
            replace q394 := (show Hid (EM w369 w392 (w353 275 78) 48 (w 275 78) (w 275 81)) from q394)
            have u395 : Hid (w392 275 78 = w353 275 78 + 1) := Hid.mk (Eq.trans q394.out.2.2.2.2 (by omega))
            have u396 : Hid (w392 275 79 = w353 275 79) := Hid.mk (Eq.trans (q394.out.fld (by decide)) u372.out)
            have u397 : Hid (w392 275 80 = w353 275 80) := Hid.mk (Eq.trans (q394.out.fld (by decide)) u373.out)
            have u398 : Hid (w392 275 81 = w 275 81) := Hid.mk (Eq.trans (q394.out.fld (by decide)) u374.out)
            have u399 : Hid (w392 275 82 = w 275 82) := Hid.mk (Eq.trans (q394.out.fld (by decide)) u375.out)
            have u400 : Hid (w392 275 83 = w353 275 83) := Hid.mk (Eq.trans (q394.out.fld (by decide)) u376.out)
            have u401 : Hid (w392 275 84 = w353 275 84) := Hid.mk (Eq.trans (q394.out.fld (by decide)) u377.out)
            have u402 : Hid (w392 275 85 = w353 275 85) := Hid.mk (Eq.trans (q394.out.fld (by decide)) u378.out)
            have u403 : Hid (w392 275 86 = w353 275 86) := Hid.mk (Eq.trans (q394.out.fld (by decide)) u379.out)
            have u404 : Hid (w392 275 87 = w353 275 87) := Hid.mk (Eq.trans (q394.out.fld (by decide)) u380.out)
            have u405 : Hid (w392 275 88 = w353 275 88) := Hid.mk (Eq.trans (q394.out.fld (by decide)) u381.out)
            have u406 : Hid (w392 275 94 = w353 275 94) := Hid.mk (Eq.trans (q394.out.fld (by decide)) u382.out)
            have f407 : e_fr (mStm (w 275 78) (w 275 79) (w 275 80) (w 275 94)) w w392 := e_fr.trans f370 (q394.out.st (by omega))
            have c408 := cSt.em c383 q394.out (by decide) (by omega) (by omega)
            have cf409 : Hid (w392 335 (w 275 80 + 3600) = w 275 81) := Hid.mk (Eq.trans (q394.out.far (by decide)) cf384.out)
            have cf412 : Hid (w392 328 (w114 275 78 + 40000) = 47) := Hid.mk (Eq.trans (q394.out.lt (by decide) (by omega)) cf387.out)
            have cf413 : Hid (w392 330 (w114 275 78 + 40000) = w 275 81) := Hid.mk (Eq.trans (q394.out.lt (by decide) (by omega)) cf388.out)
            have g415 : Hid (w353 275 88 = 0 → GZ w392 N (w353 275 78 + 1) (w353 275 94) (w353 275 79) (w353 275 80) (fun p => P p ∨ p = w114 275 78) (w 275 81) (fun v => OW v ∨ v = w 275 80) O) := Hid.mk (fun z => (GI.jb (g390.out (by omega)).1 ((g390.out (by omega)).2.2 48 (sg_no (by omega))) (g390.out (by omega)).2.1 q394.out (by omega) cf385.out cf386.out df389.out))
            show e_Ok 20 elay ecode eI (d + 1) 351 (100, [(4, (0, w114 275 78)), (3, (0, w 275 78)), (2, (0, w 275 82)), (1, (0, w 275 80)), (0, (1, 275))], [(0, w353 275 78)], w392) _
            refine e_Ok.run (t' := (104, [(4, (0, w114 275 78)), (3, (0, w 275 78)), (2, (0, w 275 82)), (1, (0, w 275 80)), (0, (1, 275))], [(0, w114 275 78), (1, 275)], w392)) 3 rfl ?_
            refine e_Ok.callV rfl (Nat.le_trans (by decide) hdq) rfl rfl rfl rfl (c_337 c408.1 (n := w353 275 78 + 1) u395.out (by omega) (by omega)) (fun r417 w418 h419 => ?_)
            obtain ⟨rfl, q420⟩ := h419
            have f421 : e_fr (mStm (w 275 78) (w 275 79) (w 275 80) (w 275 94)) w w418 := e_fr.up f407 q420 (by unfold mStm; omega)
            have u422 : Hid (w418 275 78 = w353 275 78 + 1) := Hid.mk (Eq.trans (by rw [← q420]; exact e_up_ne _ _ (Or.inl (by decide))) u395.out)
            have u423 : Hid (w418 275 79 = w353 275 79) := Hid.mk (Eq.trans (by rw [← q420]; exact e_up_ne _ _ (Or.inl (by decide))) u396.out)
            have u424 : Hid (w418 275 80 = w353 275 80) := Hid.mk (Eq.trans (by rw [← q420]; exact e_up_ne _ _ (Or.inl (by decide))) u397.out)
            have u425 : Hid (w418 275 81 = w 275 81) := Hid.mk (Eq.trans (by rw [← q420]; exact e_up_ne _ _ (Or.inl (by decide))) u398.out)
            have u426 : Hid (w418 275 82 = w 275 82) := Hid.mk (Eq.trans (by rw [← q420]; exact e_up_ne _ _ (Or.inl (by decide))) u399.out)
            have u427 : Hid (w418 275 83 = w353 275 83) := Hid.mk (Eq.trans (by rw [← q420]; exact e_up_ne _ _ (Or.inl (by decide))) u400.out)
            have u428 : Hid (w418 275 84 = w353 275 84) := Hid.mk (Eq.trans (by rw [← q420]; exact e_up_ne _ _ (Or.inl (by decide))) u401.out)
            have u429 : Hid (w418 275 85 = w353 275 85) := Hid.mk (Eq.trans (by rw [← q420]; exact e_up_ne _ _ (Or.inl (by decide))) u402.out)
            have u430 : Hid (w418 275 86 = w353 275 86) := Hid.mk (Eq.trans (by rw [← q420]; exact e_up_ne _ _ (Or.inl (by decide))) u403.out)
            have u431 : Hid (w418 275 87 = w353 275 87) := Hid.mk (Eq.trans (by rw [← q420]; exact e_up_ne _ _ (Or.inl (by decide))) u404.out)
            have u432 : Hid (w418 275 88 = w353 275 88) := Hid.mk (Eq.trans (by rw [← q420]; exact e_up_ne _ _ (Or.inl (by decide))) u405.out)
            have u433 : Hid (w418 275 94 = w353 275 94) := Hid.mk (Eq.trans (by rw [← q420]; exact e_up_ne _ _ (Or.inl (by decide))) u406.out)
            have c434 := cSt.wr c408 q420 (Or.inl rfl) (by omega) rfl (fun y => absurd y (by decide))
            have g435 : Hid (w353 275 88 = 0 → GB w418 N (w353 275 78 + 1) (w353 275 94) (w353 275 79) (w353 275 80) P (w 275 81) (fun v => OW v ∨ v = w 275 80) O) := Hid.mk (fun z => GB.patch (GZ.gb (g415.out (by omega))) q420 (by omega) (Or.inl cf412.out) cf413.out)
            have cf436 : Hid (w418 335 (w 275 80 + 3600) = w 275 81) := Hid.mk (Eq.trans (by rw [← q420]; exact e_up_ne _ _ (Or.inl (by decide))) cf409.out)
            show e_Ok 20 elay ecode eI (d + 1) 351 (107, [(4, (0, w114 275 78)), (3, (0, w 275 78)), (2, (0, w 275 82)), (1, (0, w 275 80)), (0, (1, 275))], [], w418) _
            refine e_Ok.run (t' := (108, [(4, (0, w114 275 78)), (3, (0, w 275 78)), (2, (0, w 275 82)), (1, (0, w 275 80)), (0, (1, 275))], [(1, 275)], w418)) 1 rfl ?_
            refine e_Ok.getr (z := 336) rfl (el_o rfl) rfl rfl ((f421 275 73 (by unfold mStm; omega)).trans (e_Has.eq hc.1 rfl)) (by omega) ?_
            refine e_Ok.run (t' := (115, [(4, (0, w114 275 78)), (3, (0, w 275 78)), (2, (0, w 275 82)), (1, (0, w 275 80)), (0, (1, 275))], [(0, w 275 80), (0, 3600), (1, 336)], w418)) 2 rfl ?_
            refine e_Ok.add (z := w 275 80 + 3600) rfl (by omega) (by omega) ?_
            refine e_Ok.run (t' := (117, [(4, (0, w114 275 78)), (3, (0, w 275 78)), (2, (0, w 275 82)), (1, (0, w 275 80)), (0, (1, 275))], [(1, 275), (0, w 275 80 + 3600), (1, 336)], w418)) 1 rfl ?_
            refine e_Ok.getf (z := w353 275 78 + 1) rfl (el_o rfl) rfl rfl u422.out (by omega) ?_
            refine e_Ok.ast rfl (el_o rfl) rfl rfl (by omega) ?_
            generalize hw442 : e_up w418 336 (w 275 80 + 3600) (w353 275 78 + 1) = w442
            have f443 : e_fr (mStm (w 275 78) (w 275 79) (w 275 80) (w 275 94)) w w442 := e_fr.up f421 hw442 (by unfold mStm; omega)
            have u444 : Hid (w442 275 78 = w353 275 78 + 1) := Hid.mk (Eq.trans (by rw [← hw442]; exact e_up_ne _ _ (Or.inl (by decide))) u422.out)
            have u445 : Hid (w442 275 79 = w353 275 79) := Hid.mk (Eq.trans (by rw [← hw442]; exact e_up_ne _ _ (Or.inl (by decide))) u423.out)
            have u446 : Hid (w442 275 80 = w353 275 80) := Hid.mk (Eq.trans (by rw [← hw442]; exact e_up_ne _ _ (Or.inl (by decide))) u424.out)
            have u447 : Hid (w442 275 81 = w 275 81) := Hid.mk (Eq.trans (by rw [← hw442]; exact e_up_ne _ _ (Or.inl (by decide))) u425.out)
            have u448 : Hid (w442 275 82 = w 275 82) := Hid.mk (Eq.trans (by rw [← hw442]; exact e_up_ne _ _ (Or.inl (by decide))) u426.out)
            have u449 : Hid (w442 275 83 = w353 275 83) := Hid.mk (Eq.trans (by rw [← hw442]; exact e_up_ne _ _ (Or.inl (by decide))) u427.out)
            have u450 : Hid (w442 275 84 = w353 275 84) := Hid.mk (Eq.trans (by rw [← hw442]; exact e_up_ne _ _ (Or.inl (by decide))) u428.out)
            have u451 : Hid (w442 275 85 = w353 275 85) := Hid.mk (Eq.trans (by rw [← hw442]; exact e_up_ne _ _ (Or.inl (by decide))) u429.out)
            have u452 : Hid (w442 275 86 = w353 275 86) := Hid.mk (Eq.trans (by rw [← hw442]; exact e_up_ne _ _ (Or.inl (by decide))) u430.out)
            have u453 : Hid (w442 275 87 = w353 275 87) := Hid.mk (Eq.trans (by rw [← hw442]; exact e_up_ne _ _ (Or.inl (by decide))) u431.out)
            have u454 : Hid (w442 275 88 = w353 275 88) := Hid.mk (Eq.trans (by rw [← hw442]; exact e_up_ne _ _ (Or.inl (by decide))) u432.out)
            have u455 : Hid (w442 275 94 = w353 275 94) := Hid.mk (Eq.trans (by rw [← hw442]; exact e_up_ne _ _ (Or.inl (by decide))) u433.out)
            have c456 := cSt.wr c434 hw442 (Or.inl rfl) (by omega) rfl (fun y => absurd y (by decide))
            have ev463 : Hid (w442 336 (w 275 80 + 3600) = w353 275 78 + 1) := Hid.mk (by rw [← hw442]; exact e_up_eq _ _ _ _)
            have g464 : Hid (w353 275 88 = 0 → GB w442 N (w353 275 78 + 1) (w353 275 94) (w353 275 79) (w353 275 80) P (w 275 81) OW O) := Hid.mk (fun z => GB.we (g435.out (by omega)) (Eq.trans cf436.out (show _ = w 275 81 from by omega)) (fun y => by have := hG.1.2.2.2.2.2.2.2.1 _ y; omega) (Eq.trans ev463.out (show _ = w353 275 78 + 1 from by omega)) (fun c k y1 y2 => by rw [← hw442]; exact e_up_ne _ _ (by omega)))
            refine e_Ok.run (t' := (124, [(4, (0, w114 275 78)), (3, (0, w 275 78)), (2, (0, w 275 82)), (1, (0, w 275 80)), (0, (1, 275))], [(0, 2), (1, 275), (1, 275)], w442)) 3 rfl ?_
            refine e_Ok.callV rfl (Nat.le_trans (by decide) hdq) rfl rfl rfl rfl (c_332 c456.1 (N := N) c456.2.2.2.1) (fun r465 w466 h467 => ?_)
            obtain ⟨z468, rfl, rfl, q469⟩ := h467
            obtain ⟨rfl, q469, q469b⟩ | ⟨rfl, q469n⟩ := q469
            · show e_Ok 20 elay ecode eI (d + 1) 351 (127, [(4, (0, w114 275 78)), (3, (0, w 275 78)), (2, (0, w 275 82)), (1, (0, w 275 80)), (0, (1, 275))], [(0, 1), (1, 275)], w442) _
              rw [u450.out] at q469
              rw [u451.out] at q469b
              refine e_Ok.callV rfl (Nat.le_trans (by decide) hdq) rfl rfl rfl rfl (c_334 (Nat.le_trans (by decide) hdq) c456.1 c456.2.1 c456.2.2.1 hNr c456.2.2.2.1 (by decide)) (fun r470 w471 h472 => ?_)
              obtain ⟨rfl, q473⟩ := h472
              obtain ⟨rfl, q473z⟩ | ⟨q473z, q473b, q473, q473s, q473t⟩ | ⟨q473z, q473b, q473, q473T, q473H, q473r⟩ := q473
              · show e_Ok 20 elay ecode eI (d + 1) 351 (130, [(4, (0, w114 275 78)), (3, (0, w 275 78)), (2, (0, w 275 82)), (1, (0, w 275 80)), (0, (1, 275))], [], w442) _
                rw [u454.out] at q473z
                clear q3553
                refine e_Ok.run (t' := (132, [(4, (0, w114 275 78)), (3, (0, w 275 78)), (2, (0, w 275 82)), (1, (0, w 275 80)), (0, (1, 275))], [(1, 275), (1, 275)], w442)) 2 rfl ?_
                refine e_Ok.getf (z := w353 275 83) rfl (el_o rfl) rfl rfl u449.out (by omega) ?_
                refine e_Ok.run (t' := (136, [(4, (0, w114 275 78)), (3, (0, w 275 78)), (2, (0, w 275 82)), (1, (0, w 275 80)), (0, (1, 275))], [(0, 1), (0, w353 275 83), (1, 275)], w442)) 1 rfl ?_
                refine e_Ok.sub' (z := w353 275 83 - 1) rfl (by omega) (by omega) ?_
                refine e_Ok.putf rfl (el_o rfl) rfl rfl ?_
                generalize hw474 : e_up w442 275 83 (w353 275 83 - 1) = w474
                have f475 : e_fr (mStm (w 275 78) (w 275 79) (w 275 80) (w 275 94)) w w474 := e_fr.up f443 hw474 (by unfold mStm; omega)
                have e476 := up83 hw474
                replace e476 := (show Hid _ from e476)
                have u477 : Hid (w474 275 78 = w353 275 78 + 1) := Hid.mk (Eq.trans (e476.out.1 275 78 (by decide)) u444.out)
                have u478 : Hid (w474 275 79 = w353 275 79) := Hid.mk (Eq.trans (e476.out.1 275 79 (by decide)) u445.out)
                have u479 : Hid (w474 275 80 = w353 275 80) := Hid.mk (Eq.trans (e476.out.1 275 80 (by decide)) u446.out)
                have u480 : Hid (w474 275 81 = w 275 81) := Hid.mk (Eq.trans (e476.out.1 275 81 (by decide)) u447.out)
                have u481 : Hid (w474 275 82 = w 275 82) := Hid.mk (Eq.trans (e476.out.1 275 82 (by decide)) u448.out)
                have u482 : Hid (w474 275 83 = w353 275 83 - 1) := Hid.mk (e476.out.2)
                have u485 : Hid (w474 275 86 = w353 275 86) := Hid.mk (Eq.trans (e476.out.1 275 86 (by decide)) u452.out)
                have u487 : Hid (w474 275 88 = w353 275 88) := Hid.mk (Eq.trans (e476.out.1 275 88 (by decide)) u454.out)
                have u488 : Hid (w474 275 94 = w353 275 94) := Hid.mk (Eq.trans (e476.out.1 275 94 (by decide)) u455.out)
                have c489 := cSt.up c456 hw474
                refine e_Ok.rets rfl rfl ?_
                exact ⟨rfl, f475, c489, (by unfold stL; rw [u477.out, u478.out, u479.out, u480.out, u481.out, u482.out, u485.out, u487.out, u488.out]; omega), (fun z => by rw [u487.out] at z; exact absurd z (by omega))⟩
              · show e_Ok 20 elay ecode eI (d + 1) 351 (130, [(4, (0, w114 275 78)), (3, (0, w 275 78)), (2, (0, w 275 82)), (1, (0, w 275 80)), (0, (1, 275))], [], w471) _
                rw [u454.out] at q473z
                rw [u453.out] at q473t
                replace q3553 := q3553 (by omega)
                have p490 := tkS.pos c456.2.2.2.1 (by rw [u450.out] <;> omega)
                rw [u452.out, u453.out] at p490
                have p491 := tkS.key c456.2.2.2.1 (by rw [u450.out] <;> omega)
                rw [u452.out, u453.out, u451.out] at p491
                have u492 : Hid (w471 275 78 = w353 275 78 + 1) := Hid.mk (Eq.trans (q473 275 78 (mTq_fld (by decide))) u444.out)
                have u493 : Hid (w471 275 79 = w353 275 79) := Hid.mk (Eq.trans (q473 275 79 (mTq_fld (by decide))) u445.out)
                have u494 : Hid (w471 275 80 = w353 275 80) := Hid.mk (Eq.trans (q473 275 80 (mTq_fld (by decide))) u446.out)
                have u495 : Hid (w471 275 81 = w 275 81) := Hid.mk (Eq.trans (q473 275 81 (mTq_fld (by decide))) u447.out)
                have u496 : Hid (w471 275 82 = w 275 82) := Hid.mk (Eq.trans (q473 275 82 (mTq_fld (by decide))) u448.out)
                have u497 : Hid (w471 275 83 = w353 275 83) := Hid.mk (Eq.trans (q473 275 83 (mTq_fld (by decide))) u449.out)
                have u498 : Hid (w471 275 88 = w353 275 88) := Hid.mk (Eq.trans (q473 275 88 (mTq_fld (by decide))) u454.out)
                have u499 : Hid (w471 275 94 = w353 275 94) := Hid.mk (Eq.trans (q473 275 94 (mTq_fld (by decide))) u455.out)
                have c500 := cSt.tk c456 q473 q473s
                have t501 := tkS.lin c500.2.2.2.1
                have f502 : e_fr (mStm (w 275 78) (w 275 79) (w 275 80) (w 275 94)) w w471 := e_fr.trans f443 (e_fr.mono q473 (fun c k g => mTq_St g))
                have g503 : Hid (w353 275 88 = 0 → GB w471 N (w353 275 78 + 1) (w353 275 94) (w353 275 79) (w353 275 80) P (w 275 81) OW O) := Hid.mk (fun z => GB.pr (g464.out z) (prE.tk q473))
                refine e_Ok.run (t' := (132, [(4, (0, w114 275 78)), (3, (0, w 275 78)), (2, (0, w 275 82)), (1, (0, w 275 80)), (0, (1, 275))], [(1, 275), (1, 275)], w471)) 2 rfl ?_
                refine e_Ok.getf (z := w353 275 83) rfl (el_o rfl) rfl rfl u497.out (by omega) ?_
                refine e_Ok.run (t' := (136, [(4, (0, w114 275 78)), (3, (0, w 275 78)), (2, (0, w 275 82)), (1, (0, w 275 80)), (0, (1, 275))], [(0, 1), (0, w353 275 83), (1, 275)], w471)) 1 rfl ?_
                refine e_Ok.sub' (z := w353 275 83 - 1) rfl (by omega) (by omega) ?_
                refine e_Ok.putf rfl (el_o rfl) rfl rfl ?_
                generalize hw510 : e_up w471 275 83 (w353 275 83 - 1) = w510
                have f511 : e_fr (mStm (w 275 78) (w 275 79) (w 275 80) (w 275 94)) w w510 := e_fr.up f502 hw510 (by unfold mStm; omega)
                have e512 := up83 hw510
                replace e512 := (show Hid _ from e512)
                have u513 : Hid (w510 275 78 = w353 275 78 + 1) := Hid.mk (Eq.trans (e512.out.1 275 78 (by decide)) u492.out)
                have u514 : Hid (w510 275 79 = w353 275 79) := Hid.mk (Eq.trans (e512.out.1 275 79 (by decide)) u493.out)
                have u515 : Hid (w510 275 80 = w353 275 80) := Hid.mk (Eq.trans (e512.out.1 275 80 (by decide)) u494.out)
                have u516 : Hid (w510 275 81 = w 275 81) := Hid.mk (Eq.trans (e512.out.1 275 81 (by decide)) u495.out)
                have u517 : Hid (w510 275 82 = w 275 82) := Hid.mk (Eq.trans (e512.out.1 275 82 (by decide)) u496.out)
                have u518 : Hid (w510 275 83 = w353 275 83 - 1) := Hid.mk (e512.out.2)
                have u521 : Hid (w510 275 86 = w471 275 86) := Hid.mk (e512.out.1 275 86 (by decide))
                have u523 : Hid (w510 275 88 = w353 275 88) := Hid.mk (Eq.trans (e512.out.1 275 88 (by decide)) u498.out)
                have u524 : Hid (w510 275 94 = w353 275 94) := Hid.mk (Eq.trans (e512.out.1 275 94 (by decide)) u499.out)
                have c525 := cSt.up c500 hw510
                have g526 : Hid (w353 275 88 = 0 → GB w510 N (w353 275 78 + 1) (w353 275 94) (w353 275 79) (w353 275 80) P (w 275 81) OW O) := Hid.mk (fun z => GB.pr (g503.out z) (prE.up hw510))
                refine e_Ok.rets rfl rfl ?_
                exact ⟨rfl, f511, c525, (by unfold stL; rw [u513.out, u514.out, u515.out, u516.out, u517.out, u518.out, u521.out, u523.out, u524.out]; omega), (fun z => by rw [u523.out] at z; rw [u513.out, u524.out, u514.out, u515.out, u516.out]; exact (g526.out (by omega)))⟩
              · exact absurd q473b (by decide)
            · show e_Ok 20 elay ecode eI (d + 1) 351 (127, [(4, (0, w114 275 78)), (3, (0, w 275 78)), (2, (0, w 275 82)), (1, (0, w 275 80)), (0, (1, 275))], [(0, 0), (1, 275)], w442) _
              clear q469n
              refine e_Ok.callV rfl (Nat.le_trans (by decide) hdq) rfl rfl rfl rfl (c_334 (Nat.le_trans (by decide) hdq) c456.1 c456.2.1 c456.2.2.1 hNr c456.2.2.2.1 (by decide)) (fun r533 w534 h535 => ?_)
              obtain ⟨rfl, q536⟩ := h535
              obtain ⟨rfl, q536z⟩ | ⟨q536z, q536b, q536, q536s, q536t⟩ | ⟨q536z, q536b, q536, q536T, q536H, q536r⟩ := q536
              · show e_Ok 20 elay ecode eI (d + 1) 351 (130, [(4, (0, w114 275 78)), (3, (0, w 275 78)), (2, (0, w 275 82)), (1, (0, w 275 80)), (0, (1, 275))], [], w442) _
                rw [u454.out] at q536z
                clear q3553
                refine e_Ok.run (t' := (132, [(4, (0, w114 275 78)), (3, (0, w 275 78)), (2, (0, w 275 82)), (1, (0, w 275 80)), (0, (1, 275))], [(1, 275), (1, 275)], w442)) 2 rfl ?_
                refine e_Ok.getf (z := w353 275 83) rfl (el_o rfl) rfl rfl u449.out (by omega) ?_
                refine e_Ok.run (t' := (136, [(4, (0, w114 275 78)), (3, (0, w 275 78)), (2, (0, w 275 82)), (1, (0, w 275 80)), (0, (1, 275))], [(0, 1), (0, w353 275 83), (1, 275)], w442)) 1 rfl ?_
                refine e_Ok.sub' (z := w353 275 83 - 1) rfl (by omega) (by omega) ?_
                refine e_Ok.putf rfl (el_o rfl) rfl rfl ?_
                generalize hw537 : e_up w442 275 83 (w353 275 83 - 1) = w537
                have f538 : e_fr (mStm (w 275 78) (w 275 79) (w 275 80) (w 275 94)) w w537 := e_fr.up f443 hw537 (by unfold mStm; omega)
                have e539 := up83 hw537
                replace e539 := (show Hid _ from e539)
                have u540 : Hid (w537 275 78 = w353 275 78 + 1) := Hid.mk (Eq.trans (e539.out.1 275 78 (by decide)) u444.out)
                have u541 : Hid (w537 275 79 = w353 275 79) := Hid.mk (Eq.trans (e539.out.1 275 79 (by decide)) u445.out)
                have u542 : Hid (w537 275 80 = w353 275 80) := Hid.mk (Eq.trans (e539.out.1 275 80 (by decide)) u446.out)
                have u543 : Hid (w537 275 81 = w 275 81) := Hid.mk (Eq.trans (e539.out.1 275 81 (by decide)) u447.out)
                have u544 : Hid (w537 275 82 = w 275 82) := Hid.mk (Eq.trans (e539.out.1 275 82 (by decide)) u448.out)
                have u545 : Hid (w537 275 83 = w353 275 83 - 1) := Hid.mk (e539.out.2)
                have u548 : Hid (w537 275 86 = w353 275 86) := Hid.mk (Eq.trans (e539.out.1 275 86 (by decide)) u452.out)
                have u550 : Hid (w537 275 88 = w353 275 88) := Hid.mk (Eq.trans (e539.out.1 275 88 (by decide)) u454.out)
                have u551 : Hid (w537 275 94 = w353 275 94) := Hid.mk (Eq.trans (e539.out.1 275 94 (by decide)) u455.out)
                have c552 := cSt.up c456 hw537
                refine e_Ok.rets rfl rfl ?_
                exact ⟨rfl, f538, c552, (by unfold stL; rw [u540.out, u541.out, u542.out, u543.out, u544.out, u545.out, u548.out, u550.out, u551.out]; omega), (fun z => by rw [u550.out] at z; exact absurd z (by omega))⟩
              · exact absurd q536b (by decide)
              · show e_Ok 20 elay ecode eI (d + 1) 351 (130, [(4, (0, w114 275 78)), (3, (0, w 275 78)), (2, (0, w 275 82)), (1, (0, w 275 80)), (0, (1, 275))], [], w534) _
                rw [u454.out] at q536z
                replace q3553 := q3553 (by omega)
                have u553 : Hid (w534 275 78 = w353 275 78 + 1) := Hid.mk (Eq.trans (q536 275 78 (mRf_fld (by decide))) u444.out)
                have u554 : Hid (w534 275 79 = w353 275 79) := Hid.mk (Eq.trans (q536 275 79 (mRf_fld (by decide))) u445.out)
                have u555 : Hid (w534 275 80 = w353 275 80) := Hid.mk (Eq.trans (q536 275 80 (mRf_fld (by decide))) u446.out)
                have u556 : Hid (w534 275 81 = w 275 81) := Hid.mk (Eq.trans (q536 275 81 (mRf_fld (by decide))) u447.out)
                have u557 : Hid (w534 275 82 = w 275 82) := Hid.mk (Eq.trans (q536 275 82 (mRf_fld (by decide))) u448.out)
                have u558 : Hid (w534 275 83 = w353 275 83) := Hid.mk (Eq.trans (q536 275 83 (mRf_fld (by decide))) u449.out)
                have u561 : Hid (w534 275 86 = w353 275 86) := Hid.mk (Eq.trans (q536 275 86 (mRf_fld (by decide))) u452.out)
                have u563 : Hid (w534 275 94 = w353 275 94) := Hid.mk (Eq.trans (q536 275 94 (mRf_fld (by decide))) u455.out)
                have c564 := cSt.rf c456 q536 q536T q536H
                have f565 : e_fr (mStm (w 275 78) (w 275 79) (w 275 80) (w 275 94)) w w534 := e_fr.trans f443 (e_fr.mono q536 (fun c k g => mRf_St g))
                refine e_Ok.run (t' := (132, [(4, (0, w114 275 78)), (3, (0, w 275 78)), (2, (0, w 275 82)), (1, (0, w 275 80)), (0, (1, 275))], [(1, 275), (1, 275)], w534)) 2 rfl ?_
                refine e_Ok.getf (z := w353 275 83) rfl (el_o rfl) rfl rfl u558.out (by omega) ?_
                refine e_Ok.run (t' := (136, [(4, (0, w114 275 78)), (3, (0, w 275 78)), (2, (0, w 275 82)), (1, (0, w 275 80)), (0, (1, 275))], [(0, 1), (0, w353 275 83), (1, 275)], w534)) 1 rfl ?_
                refine e_Ok.sub' (z := w353 275 83 - 1) rfl (by omega) (by omega) ?_
                refine e_Ok.putf rfl (el_o rfl) rfl rfl ?_
                generalize hw566 : e_up w534 275 83 (w353 275 83 - 1) = w566
                have f567 : e_fr (mStm (w 275 78) (w 275 79) (w 275 80) (w 275 94)) w w566 := e_fr.up f565 hw566 (by unfold mStm; omega)
                have e568 := up83 hw566
                replace e568 := (show Hid _ from e568)
                have u569 : Hid (w566 275 78 = w353 275 78 + 1) := Hid.mk (Eq.trans (e568.out.1 275 78 (by decide)) u553.out)
                have u570 : Hid (w566 275 79 = w353 275 79) := Hid.mk (Eq.trans (e568.out.1 275 79 (by decide)) u554.out)
                have u571 : Hid (w566 275 80 = w353 275 80) := Hid.mk (Eq.trans (e568.out.1 275 80 (by decide)) u555.out)
                have u572 : Hid (w566 275 81 = w 275 81) := Hid.mk (Eq.trans (e568.out.1 275 81 (by decide)) u556.out)
                have u573 : Hid (w566 275 82 = w 275 82) := Hid.mk (Eq.trans (e568.out.1 275 82 (by decide)) u557.out)
                have u574 : Hid (w566 275 83 = w353 275 83 - 1) := Hid.mk (e568.out.2)
                have u577 : Hid (w566 275 86 = w353 275 86) := Hid.mk (Eq.trans (e568.out.1 275 86 (by decide)) u561.out)
                have u579 : Hid (w566 275 88 = w534 275 88) := Hid.mk (e568.out.1 275 88 (by decide))
                have u580 : Hid (w566 275 94 = w353 275 94) := Hid.mk (Eq.trans (e568.out.1 275 94 (by decide)) u563.out)
                have c581 := cSt.up c564 hw566
                refine e_Ok.rets rfl rfl ?_
                exact ⟨rfl, f567, c581, (by unfold stL; rw [u569.out, u570.out, u571.out, u572.out, u573.out, u574.out, u577.out, u579.out, u580.out]; omega), (fun z => by rw [u579.out] at z; exact absurd z (by omega))⟩
          · exact absurd q137b (by decide)
        · show e_Ok 20 elay ecode eI (d + 1) 351 (67, [(3, (0, w 275 78)), (2, (0, w 275 82)), (1, (0, w 275 80)), (0, (1, 275))], [(0, 0), (1, 275)], w114) _
          clear q133n
          refine e_Ok.callV rfl (Nat.le_trans (by decide) hdq) rfl rfl rfl rfl (c_334 (Nat.le_trans (by decide) hdq) q116c.1 q116c.2.1 q116c.2.2.1 hNr q116c.2.2.2.1 (by decide)) (fun r582 w583 h584 => ?_)
          obtain ⟨rfl, q585⟩ := h584
          obtain ⟨rfl, q585z⟩ | ⟨q585z, q585b, q585, q585s, q585t⟩ | ⟨q585z, q585b, q585, q585T, q585H, q585r⟩ := q585
          · show e_Ok 20 elay ecode eI (d + 1) 351 (70, [(3, (0, w 275 78)), (2, (0, w 275 82)), (1, (0, w 275 80)), (0, (1, 275))], [], w114) _
            clear q1163
            clear q1169
            refine e_Ok.run (t' := (74, [(3, (0, w 275 78)), (2, (0, w 275 82)), (1, (0, w 275 80)), (0, (1, 275))], [(0, 0), (0, 47), (1, 275)], w114)) 3 rfl ?_
            refine e_Ok.callV rfl (Nat.le_trans (by decide) hdq) rfl rfl rfl rfl (c_336 q116c.1 (n := w114 275 78) rfl (by omega) (s := w 275 81) u119.out (by omega)) (fun r586 w587 h588 => ?_)
            obtain ⟨rfl, q589⟩ := h588
            replace q589 := (show Hid (EM w114 w587 (w114 275 78) 47 (0) (w 275 81)) from q589)
            have u590 : Hid (w587 275 78 = w114 275 78 + 1) := Hid.mk (Eq.trans q589.out.2.2.2.2 (by omega))
            have u591 : Hid (w587 275 79 = w 275 79) := Hid.mk (Eq.trans (q589.out.fld (by decide)) u117.out)
            have u592 : Hid (w587 275 80 = w 275 80 + 1) := Hid.mk (Eq.trans (q589.out.fld (by decide)) u118.out)
            have u593 : Hid (w587 275 81 = w 275 81) := Hid.mk (Eq.trans (q589.out.fld (by decide)) u119.out)
            have u595 : Hid (w587 275 83 = w114 275 83) := Hid.mk (q589.out.fld (by decide))
            have u596 : Hid (w587 275 84 = w114 275 84) := Hid.mk (q589.out.fld (by decide))
            have u597 : Hid (w587 275 85 = w114 275 85) := Hid.mk (q589.out.fld (by decide))
            have u598 : Hid (w587 275 86 = w114 275 86) := Hid.mk (q589.out.fld (by decide))
            have u600 : Hid (w587 275 88 = w114 275 88) := Hid.mk (q589.out.fld (by decide))
            have u601 : Hid (w587 275 94 = w114 275 94) := Hid.mk (q589.out.fld (by decide))
            have f602 : e_fr (mStm (w 275 78) (w 275 79) (w 275 80) (w 275 94)) w w587 := e_fr.trans f123 (q589.out.st (by omega))
            have c603 := cSt.em q116c q589.out (by decide) (by omega) (by omega)
            show e_Ok 20 elay ecode eI (d + 1) 351 (77, [(3, (0, w 275 78)), (2, (0, w 275 82)), (1, (0, w 275 80)), (0, (1, 275))], [(0, w114 275 78)], w587) _
            refine e_Ok.run (t' := (81, [(4, (0, w114 275 78)), (3, (0, w 275 78)), (2, (0, w 275 82)), (1, (0, w 275 80)), (0, (1, 275))], [(0, w 275 80), (1, 275)], w587)) 3 rfl ?_
            refine e_Ok.putf rfl (el_o rfl) rfl rfl ?_
            generalize hw604 : e_up w587 275 82 (w 275 80) = w604
            have f605 : e_fr (mStm (w 275 78) (w 275 79) (w 275 80) (w 275 94)) w w604 := e_fr.up f602 hw604 (by unfold mStm; omega)
            have u606 : Hid (w604 275 78 = w114 275 78 + 1) := Hid.mk (Eq.trans (by rw [← hw604]; exact e_up_ne _ _ (Or.inr (by decide))) u590.out)
            have u607 : Hid (w604 275 79 = w 275 79) := Hid.mk (Eq.trans (by rw [← hw604]; exact e_up_ne _ _ (Or.inr (by decide))) u591.out)
            have u608 : Hid (w604 275 80 = w 275 80 + 1) := Hid.mk (Eq.trans (by rw [← hw604]; exact e_up_ne _ _ (Or.inr (by decide))) u592.out)
            have u609 : Hid (w604 275 81 = w 275 81) := Hid.mk (Eq.trans (by rw [← hw604]; exact e_up_ne _ _ (Or.inr (by decide))) u593.out)
            have u611 : Hid (w604 275 83 = w114 275 83) := Hid.mk (Eq.trans (by rw [← hw604]; exact e_up_ne _ _ (Or.inr (by decide))) u595.out)
            have u612 : Hid (w604 275 84 = w114 275 84) := Hid.mk (Eq.trans (by rw [← hw604]; exact e_up_ne _ _ (Or.inr (by decide))) u596.out)
            have u613 : Hid (w604 275 85 = w114 275 85) := Hid.mk (Eq.trans (by rw [← hw604]; exact e_up_ne _ _ (Or.inr (by decide))) u597.out)
            have u614 : Hid (w604 275 86 = w114 275 86) := Hid.mk (Eq.trans (by rw [← hw604]; exact e_up_ne _ _ (Or.inr (by decide))) u598.out)
            have u616 : Hid (w604 275 88 = w114 275 88) := Hid.mk (Eq.trans (by rw [← hw604]; exact e_up_ne _ _ (Or.inr (by decide))) u600.out)
            have u617 : Hid (w604 275 94 = w114 275 94) := Hid.mk (Eq.trans (by rw [← hw604]; exact e_up_ne _ _ (Or.inr (by decide))) u601.out)
            have c618 := cSt.wr c603 hw604 (Or.inr rfl) (by omega) rfl (fun _ => ⟨⟨by decide, by decide⟩, fun y => absurd y (by decide)⟩)
            refine e_Ok.run (t' := (85, [(4, (0, w114 275 78)), (3, (0, w 275 78)), (2, (0, w 275 82)), (1, (0, w 275 80)), (0, (1, 275))], [(1, 275)], w604)) 1 rfl ?_
            refine e_Ok.callV rfl (Nat.le_trans (by decide) hdq) rfl rfl rfl rfl (c_348_0 (Nat.le_trans (by decide) hdq) c618 (by rw [u616.out] <;> omega)) (fun r619 w620 h621 => ?_)
            obtain ⟨rfl, rfl⟩ := h621
            show e_Ok 20 elay ecode eI (d + 1) 351 (88, [(4, (0, w114 275 78)), (3, (0, w 275 78)), (2, (0, w 275 82)), (1, (0, w 275 80)), (0, (1, 275))], [], w604) _
            refine e_Ok.run (t' := (90, [(4, (0, w114 275 78)), (3, (0, w 275 78)), (2, (0, w 275 82)), (1, (0, w 275 80)), (0, (1, 275))], [(0, w 275 82), (1, 275)], w604)) 2 rfl ?_
            refine e_Ok.putf rfl (el_o rfl) rfl rfl ?_
            generalize hw622 : e_up w604 275 82 (w 275 82) = w622
            have f623 : e_fr (mStm (w 275 78) (w 275 79) (w 275 80) (w 275 94)) w w622 := e_fr.up f605 hw622 (by unfold mStm; omega)
            have u624 : Hid (w622 275 78 = w114 275 78 + 1) := Hid.mk (Eq.trans (by rw [← hw622]; exact e_up_ne _ _ (Or.inr (by decide))) u606.out)
            have u625 : Hid (w622 275 79 = w 275 79) := Hid.mk (Eq.trans (by rw [← hw622]; exact e_up_ne _ _ (Or.inr (by decide))) u607.out)
            have u626 : Hid (w622 275 80 = w 275 80 + 1) := Hid.mk (Eq.trans (by rw [← hw622]; exact e_up_ne _ _ (Or.inr (by decide))) u608.out)
            have u627 : Hid (w622 275 81 = w 275 81) := Hid.mk (Eq.trans (by rw [← hw622]; exact e_up_ne _ _ (Or.inr (by decide))) u609.out)
            have u628 : Hid (w622 275 82 = w 275 82) := Hid.mk (by rw [← hw622]; exact e_up_eq _ _ _ _)
            have u629 : Hid (w622 275 83 = w114 275 83) := Hid.mk (Eq.trans (by rw [← hw622]; exact e_up_ne _ _ (Or.inr (by decide))) u611.out)
            have u630 : Hid (w622 275 84 = w114 275 84) := Hid.mk (Eq.trans (by rw [← hw622]; exact e_up_ne _ _ (Or.inr (by decide))) u612.out)
            have u631 : Hid (w622 275 85 = w114 275 85) := Hid.mk (Eq.trans (by rw [← hw622]; exact e_up_ne _ _ (Or.inr (by decide))) u613.out)
            have u632 : Hid (w622 275 86 = w114 275 86) := Hid.mk (Eq.trans (by rw [← hw622]; exact e_up_ne _ _ (Or.inr (by decide))) u614.out)
            have u634 : Hid (w622 275 88 = w114 275 88) := Hid.mk (Eq.trans (by rw [← hw622]; exact e_up_ne _ _ (Or.inr (by decide))) u616.out)
            have u635 : Hid (w622 275 94 = w114 275 94) := Hid.mk (Eq.trans (by rw [← hw622]; exact e_up_ne _ _ (Or.inr (by decide))) u617.out)
            have c636 := cSt.wr c618 hw622 (Or.inr rfl) (by omega) rfl (fun _ => ⟨⟨by decide, by decide⟩, fun y => absurd y (by decide)⟩)
            refine e_Ok.run (t' := (97, [(4, (0, w114 275 78)), (3, (0, w 275 78)), (2, (0, w 275 82)), (1, (0, w 275 80)), (0, (1, 275))], [(0, w 275 78), (0, 48), (1, 275)], w622)) 3 rfl ?_
            refine e_Ok.callV rfl (Nat.le_trans (by decide) hdq) rfl rfl rfl rfl (c_336 c636.1 (n := w114 275 78 + 1) u624.out (by omega) (s := w 275 81) u627.out (by omega)) (fun r637 w638 h639 => ?_)
            obtain ⟨rfl, q640⟩ := h639
            replace q640 := (show Hid (EM w622 w638 (w114 275 78 + 1) 48 (w 275 78) (w 275 81)) from q640)
            have u641 : Hid (w638 275 78 = w114 275 78 + 2) := Hid.mk (Eq.trans q640.out.2.2.2.2 (by omega))
            have u642 : Hid (w638 275 79 = w 275 79) := Hid.mk (Eq.trans (q640.out.fld (by decide)) u625.out)
            have u643 : Hid (w638 275 80 = w 275 80 + 1) := Hid.mk (Eq.trans (q640.out.fld (by decide)) u626.out)
            have u644 : Hid (w638 275 81 = w 275 81) := Hid.mk (Eq.trans (q640.out.fld (by decide)) u627.out)
            have u645 : Hid (w638 275 82 = w 275 82) := Hid.mk (Eq.trans (q640.out.fld (by decide)) u628.out)
            have u646 : Hid (w638 275 83 = w114 275 83) := Hid.mk (Eq.trans (q640.out.fld (by decide)) u629.out)
            have u647 : Hid (w638 275 84 = w114 275 84) := Hid.mk (Eq.trans (q640.out.fld (by decide)) u630.out)
            have u648 : Hid (w638 275 85 = w114 275 85) := Hid.mk (Eq.trans (q640.out.fld (by decide)) u631.out)
            have u649 : Hid (w638 275 86 = w114 275 86) := Hid.mk (Eq.trans (q640.out.fld (by decide)) u632.out)
            have u651 : Hid (w638 275 88 = w114 275 88) := Hid.mk (Eq.trans (q640.out.fld (by decide)) u634.out)
            have u652 : Hid (w638 275 94 = w114 275 94) := Hid.mk (Eq.trans (q640.out.fld (by decide)) u635.out)
            have f653 : e_fr (mStm (w 275 78) (w 275 79) (w 275 80) (w 275 94)) w w638 := e_fr.trans f623 (q640.out.st (by omega))
            have c654 := cSt.em c636 q640.out (by decide) (by omega) (by omega)
            show e_Ok 20 elay ecode eI (d + 1) 351 (100, [(4, (0, w114 275 78)), (3, (0, w 275 78)), (2, (0, w 275 82)), (1, (0, w 275 80)), (0, (1, 275))], [(0, w114 275 78 + 1)], w638) _
            refine e_Ok.run (t' := (104, [(4, (0, w114 275 78)), (3, (0, w 275 78)), (2, (0, w 275 82)), (1, (0, w 275 80)), (0, (1, 275))], [(0, w114 275 78), (1, 275)], w638)) 3 rfl ?_
            refine e_Ok.callV rfl (Nat.le_trans (by decide) hdq) rfl rfl rfl rfl (c_337 c654.1 (n := w114 275 78 + 2) u641.out (by omega) (by omega)) (fun r655 w656 h657 => ?_)
            obtain ⟨rfl, q658⟩ := h657
            have f659 : e_fr (mStm (w 275 78) (w 275 79) (w 275 80) (w 275 94)) w w656 := e_fr.up f653 q658 (by unfold mStm; omega)
            have u660 : Hid (w656 275 78 = w114 275 78 + 2) := Hid.mk (Eq.trans (by rw [← q658]; exact e_up_ne _ _ (Or.inl (by decide))) u641.out)
            have u661 : Hid (w656 275 79 = w 275 79) := Hid.mk (Eq.trans (by rw [← q658]; exact e_up_ne _ _ (Or.inl (by decide))) u642.out)
            have u662 : Hid (w656 275 80 = w 275 80 + 1) := Hid.mk (Eq.trans (by rw [← q658]; exact e_up_ne _ _ (Or.inl (by decide))) u643.out)
            have u663 : Hid (w656 275 81 = w 275 81) := Hid.mk (Eq.trans (by rw [← q658]; exact e_up_ne _ _ (Or.inl (by decide))) u644.out)
            have u664 : Hid (w656 275 82 = w 275 82) := Hid.mk (Eq.trans (by rw [← q658]; exact e_up_ne _ _ (Or.inl (by decide))) u645.out)
            have u665 : Hid (w656 275 83 = w114 275 83) := Hid.mk (Eq.trans (by rw [← q658]; exact e_up_ne _ _ (Or.inl (by decide))) u646.out)
            have u666 : Hid (w656 275 84 = w114 275 84) := Hid.mk (Eq.trans (by rw [← q658]; exact e_up_ne _ _ (Or.inl (by decide))) u647.out)
            have u667 : Hid (w656 275 85 = w114 275 85) := Hid.mk (Eq.trans (by rw [← q658]; exact e_up_ne _ _ (Or.inl (by decide))) u648.out)
            have u668 : Hid (w656 275 86 = w114 275 86) := Hid.mk (Eq.trans (by rw [← q658]; exact e_up_ne _ _ (Or.inl (by decide))) u649.out)
            have u670 : Hid (w656 275 88 = w114 275 88) := Hid.mk (Eq.trans (by rw [← q658]; exact e_up_ne _ _ (Or.inl (by decide))) u651.out)
            have u671 : Hid (w656 275 94 = w114 275 94) := Hid.mk (Eq.trans (by rw [← q658]; exact e_up_ne _ _ (Or.inl (by decide))) u652.out)
            have c672 := cSt.wr c654 q658 (Or.inl rfl) (by omega) rfl (fun y => absurd y (by decide))
            show e_Ok 20 elay ecode eI (d + 1) 351 (107, [(4, (0, w114 275 78)), (3, (0, w 275 78)), (2, (0, w 275 82)), (1, (0, w 275 80)), (0, (1, 275))], [], w656) _
            refine e_Ok.run (t' := (108, [(4, (0, w114 275 78)), (3, (0, w 275 78)), (2, (0, w 275 82)), (1, (0, w 275 80)), (0, (1, 275))], [(1, 275)], w656)) 1 rfl ?_
            refine e_Ok.getr (z := 336) rfl (el_o rfl) rfl rfl ((f659 275 73 (by unfold mStm; omega)).trans (e_Has.eq hc.1 rfl)) (by omega) ?_
            refine e_Ok.run (t' := (115, [(4, (0, w114 275 78)), (3, (0, w 275 78)), (2, (0, w 275 82)), (1, (0, w 275 80)), (0, (1, 275))], [(0, w 275 80), (0, 3600), (1, 336)], w656)) 2 rfl ?_
            refine e_Ok.add (z := w 275 80 + 3600) rfl (by omega) (by omega) ?_
            refine e_Ok.run (t' := (117, [(4, (0, w114 275 78)), (3, (0, w 275 78)), (2, (0, w 275 82)), (1, (0, w 275 80)), (0, (1, 275))], [(1, 275), (0, w 275 80 + 3600), (1, 336)], w656)) 1 rfl ?_
            refine e_Ok.getf (z := w114 275 78 + 2) rfl (el_o rfl) rfl rfl u660.out (by omega) ?_
            refine e_Ok.ast rfl (el_o rfl) rfl rfl (by omega) ?_
            generalize hw673 : e_up w656 336 (w 275 80 + 3600) (w114 275 78 + 2) = w673
            have f674 : e_fr (mStm (w 275 78) (w 275 79) (w 275 80) (w 275 94)) w w673 := e_fr.up f659 hw673 (by unfold mStm; omega)
            have u675 : Hid (w673 275 78 = w114 275 78 + 2) := Hid.mk (Eq.trans (by rw [← hw673]; exact e_up_ne _ _ (Or.inl (by decide))) u660.out)
            have u676 : Hid (w673 275 79 = w 275 79) := Hid.mk (Eq.trans (by rw [← hw673]; exact e_up_ne _ _ (Or.inl (by decide))) u661.out)
            have u677 : Hid (w673 275 80 = w 275 80 + 1) := Hid.mk (Eq.trans (by rw [← hw673]; exact e_up_ne _ _ (Or.inl (by decide))) u662.out)
            have u678 : Hid (w673 275 81 = w 275 81) := Hid.mk (Eq.trans (by rw [← hw673]; exact e_up_ne _ _ (Or.inl (by decide))) u663.out)
            have u679 : Hid (w673 275 82 = w 275 82) := Hid.mk (Eq.trans (by rw [← hw673]; exact e_up_ne _ _ (Or.inl (by decide))) u664.out)
            have u680 : Hid (w673 275 83 = w114 275 83) := Hid.mk (Eq.trans (by rw [← hw673]; exact e_up_ne _ _ (Or.inl (by decide))) u665.out)
            have u681 : Hid (w673 275 84 = w114 275 84) := Hid.mk (Eq.trans (by rw [← hw673]; exact e_up_ne _ _ (Or.inl (by decide))) u666.out)
            have u682 : Hid (w673 275 85 = w114 275 85) := Hid.mk (Eq.trans (by rw [← hw673]; exact e_up_ne _ _ (Or.inl (by decide))) u667.out)
            have u683 : Hid (w673 275 86 = w114 275 86) := Hid.mk (Eq.trans (by rw [← hw673]; exact e_up_ne _ _ (Or.inl (by decide))) u668.out)
            have u685 : Hid (w673 275 88 = w114 275 88) := Hid.mk (Eq.trans (by rw [← hw673]; exact e_up_ne _ _ (Or.inl (by decide))) u670.out)
            have u686 : Hid (w673 275 94 = w114 275 94) := Hid.mk (Eq.trans (by rw [← hw673]; exact e_up_ne _ _ (Or.inl (by decide))) u671.out)
            have c687 := cSt.wr c672 hw673 (Or.inl rfl) (by omega) rfl (fun y => absurd y (by decide))
            refine e_Ok.run (t' := (124, [(4, (0, w114 275 78)), (3, (0, w 275 78)), (2, (0, w 275 82)), (1, (0, w 275 80)), (0, (1, 275))], [(0, 2), (1, 275), (1, 275)], w673)) 3 rfl ?_
            refine e_Ok.callV rfl (Nat.le_trans (by decide) hdq) rfl rfl rfl rfl (c_332 c687.1 (N := N) c687.2.2.2.1) (fun r688 w689 h690 => ?_)
            obtain ⟨z691, rfl, rfl, q692⟩ := h690
            obtain ⟨rfl, q692, q692b⟩ | ⟨rfl, q692n⟩ := q692
            · show e_Ok 20 elay ecode eI (d + 1) 351 (127, [(4, (0, w114 275 78)), (3, (0, w 275 78)), (2, (0, w 275 82)), (1, (0, w 275 80)), (0, (1, 275))], [(0, 1), (1, 275)], w673) _
              rw [u681.out] at q692
              rw [u682.out] at q692b
              refine e_Ok.callV rfl (Nat.le_trans (by decide) hdq) rfl rfl rfl rfl (c_334 (Nat.le_trans (by decide) hdq) c687.1 c687.2.1 c687.2.2.1 hNr c687.2.2.2.1 (by decide)) (fun r693 w694 h695 => ?_)
              obtain ⟨rfl, q696⟩ := h695
              obtain ⟨rfl, q696z⟩ | ⟨q696z, q696b, q696, q696s, q696t⟩ | ⟨q696z, q696b, q696, q696T, q696H, q696r⟩ := q696
              · show e_Ok 20 elay ecode eI (d + 1) 351 (130, [(4, (0, w114 275 78)), (3, (0, w 275 78)), (2, (0, w 275 82)), (1, (0, w 275 80)), (0, (1, 275))], [], w673) _
                rw [u685.out] at q696z
                refine e_Ok.run (t' := (132, [(4, (0, w114 275 78)), (3, (0, w 275 78)), (2, (0, w 275 82)), (1, (0, w 275 80)), (0, (1, 275))], [(1, 275), (1, 275)], w673)) 2 rfl ?_
                refine e_Ok.getf (z := w114 275 83) rfl (el_o rfl) rfl rfl u680.out (by omega) ?_
                refine e_Ok.run (t' := (136, [(4, (0, w114 275 78)), (3, (0, w 275 78)), (2, (0, w 275 82)), (1, (0, w 275 80)), (0, (1, 275))], [(0, 1), (0, w114 275 83), (1, 275)], w673)) 1 rfl ?_
                refine e_Ok.sub' (z := w114 275 83 - 1) rfl (by omega) (by omega) ?_
                refine e_Ok.putf rfl (el_o rfl) rfl rfl ?_
                generalize hw697 : e_up w673 275 83 (w114 275 83 - 1) = w697
                have f698 : e_fr (mStm (w 275 78) (w 275 79) (w 275 80) (w 275 94)) w w697 := e_fr.up f674 hw697 (by unfold mStm; omega)
                have e699 := up83 hw697
                replace e699 := (show Hid _ from e699)
                have u700 : Hid (w697 275 78 = w114 275 78 + 2) := Hid.mk (Eq.trans (e699.out.1 275 78 (by decide)) u675.out)
                have u701 : Hid (w697 275 79 = w 275 79) := Hid.mk (Eq.trans (e699.out.1 275 79 (by decide)) u676.out)
                have u702 : Hid (w697 275 80 = w 275 80 + 1) := Hid.mk (Eq.trans (e699.out.1 275 80 (by decide)) u677.out)
                have u703 : Hid (w697 275 81 = w 275 81) := Hid.mk (Eq.trans (e699.out.1 275 81 (by decide)) u678.out)
                have u704 : Hid (w697 275 82 = w 275 82) := Hid.mk (Eq.trans (e699.out.1 275 82 (by decide)) u679.out)
                have u705 : Hid (w697 275 83 = w114 275 83 - 1) := Hid.mk (e699.out.2)
                have u708 : Hid (w697 275 86 = w114 275 86) := Hid.mk (Eq.trans (e699.out.1 275 86 (by decide)) u683.out)
                have u710 : Hid (w697 275 88 = w114 275 88) := Hid.mk (Eq.trans (e699.out.1 275 88 (by decide)) u685.out)
                have u711 : Hid (w697 275 94 = w114 275 94) := Hid.mk (Eq.trans (e699.out.1 275 94 (by decide)) u686.out)
                have c712 := cSt.up c687 hw697
                refine e_Ok.rets rfl rfl ?_
                exact ⟨rfl, f698, c712, (by unfold stL; rw [u700.out, u701.out, u702.out, u703.out, u704.out, u705.out, u708.out, u710.out, u711.out]; omega), (fun z => by rw [u710.out] at z; exact absurd z (by omega))⟩
              · rw [u685.out] at q696z; exact absurd q696z (by omega)
              · rw [u685.out] at q696z; exact absurd q696z (by omega)
            · show e_Ok 20 elay ecode eI (d + 1) 351 (127, [(4, (0, w114 275 78)), (3, (0, w 275 78)), (2, (0, w 275 82)), (1, (0, w 275 80)), (0, (1, 275))], [(0, 0), (1, 275)], w673) _
              clear q692n
              refine e_Ok.callV rfl (Nat.le_trans (by decide) hdq) rfl rfl rfl rfl (c_334 (Nat.le_trans (by decide) hdq) c687.1 c687.2.1 c687.2.2.1 hNr c687.2.2.2.1 (by decide)) (fun r713 w714 h715 => ?_)
              obtain ⟨rfl, q716⟩ := h715
              obtain ⟨rfl, q716z⟩ | ⟨q716z, q716b, q716, q716s, q716t⟩ | ⟨q716z, q716b, q716, q716T, q716H, q716r⟩ := q716
              · show e_Ok 20 elay ecode eI (d + 1) 351 (130, [(4, (0, w114 275 78)), (3, (0, w 275 78)), (2, (0, w 275 82)), (1, (0, w 275 80)), (0, (1, 275))], [], w673) _
                rw [u685.out] at q716z
                refine e_Ok.run (t' := (132, [(4, (0, w114 275 78)), (3, (0, w 275 78)), (2, (0, w 275 82)), (1, (0, w 275 80)), (0, (1, 275))], [(1, 275), (1, 275)], w673)) 2 rfl ?_
                refine e_Ok.getf (z := w114 275 83) rfl (el_o rfl) rfl rfl u680.out (by omega) ?_
                refine e_Ok.run (t' := (136, [(4, (0, w114 275 78)), (3, (0, w 275 78)), (2, (0, w 275 82)), (1, (0, w 275 80)), (0, (1, 275))], [(0, 1), (0, w114 275 83), (1, 275)], w673)) 1 rfl ?_
                refine e_Ok.sub' (z := w114 275 83 - 1) rfl (by omega) (by omega) ?_
                refine e_Ok.putf rfl (el_o rfl) rfl rfl ?_
                generalize hw717 : e_up w673 275 83 (w114 275 83 - 1) = w717
                have f718 : e_fr (mStm (w 275 78) (w 275 79) (w 275 80) (w 275 94)) w w717 := e_fr.up f674 hw717 (by unfold mStm; omega)
                have e719 := up83 hw717
                replace e719 := (show Hid _ from e719)
                have u720 : Hid (w717 275 78 = w114 275 78 + 2) := Hid.mk (Eq.trans (e719.out.1 275 78 (by decide)) u675.out)
                have u721 : Hid (w717 275 79 = w 275 79) := Hid.mk (Eq.trans (e719.out.1 275 79 (by decide)) u676.out)
                have u722 : Hid (w717 275 80 = w 275 80 + 1) := Hid.mk (Eq.trans (e719.out.1 275 80 (by decide)) u677.out)
                have u723 : Hid (w717 275 81 = w 275 81) := Hid.mk (Eq.trans (e719.out.1 275 81 (by decide)) u678.out)
                have u724 : Hid (w717 275 82 = w 275 82) := Hid.mk (Eq.trans (e719.out.1 275 82 (by decide)) u679.out)
                have u725 : Hid (w717 275 83 = w114 275 83 - 1) := Hid.mk (e719.out.2)
                have u728 : Hid (w717 275 86 = w114 275 86) := Hid.mk (Eq.trans (e719.out.1 275 86 (by decide)) u683.out)
                have u730 : Hid (w717 275 88 = w114 275 88) := Hid.mk (Eq.trans (e719.out.1 275 88 (by decide)) u685.out)
                have u731 : Hid (w717 275 94 = w114 275 94) := Hid.mk (Eq.trans (e719.out.1 275 94 (by decide)) u686.out)
                have c732 := cSt.up c687 hw717
                refine e_Ok.rets rfl rfl ?_
                exact ⟨rfl, f718, c732, (by unfold stL; rw [u720.out, u721.out, u722.out, u723.out, u724.out, u725.out, u728.out, u730.out, u731.out]; omega), (fun z => by rw [u730.out] at z; exact absurd z (by omega))⟩
              · rw [u685.out] at q716z; exact absurd q716z (by omega)
              · rw [u685.out] at q716z; exact absurd q716z (by omega)
          · exact absurd q585b (by decide)
          · show e_Ok 20 elay ecode eI (d + 1) 351 (70, [(3, (0, w 275 78)), (2, (0, w 275 82)), (1, (0, w 275 80)), (0, (1, 275))], [], w583) _
            replace q1163 := q1163 (by omega)
            replace q1169 := q1169 (by omega)
            have u733 : Hid (w583 275 78 = w114 275 78) := Hid.mk (q585 275 78 (mRf_fld (by decide)))
            have u734 : Hid (w583 275 79 = w 275 79) := Hid.mk (Eq.trans (q585 275 79 (mRf_fld (by decide))) u117.out)
            have u735 : Hid (w583 275 80 = w 275 80 + 1) := Hid.mk (Eq.trans (q585 275 80 (mRf_fld (by decide))) u118.out)
            have u736 : Hid (w583 275 81 = w 275 81) := Hid.mk (Eq.trans (q585 275 81 (mRf_fld (by decide))) u119.out)
            have u738 : Hid (w583 275 83 = w114 275 83) := Hid.mk (q585 275 83 (mRf_fld (by decide)))
            have u739 : Hid (w583 275 84 = w114 275 84) := Hid.mk (q585 275 84 (mRf_fld (by decide)))
            have u740 : Hid (w583 275 85 = w114 275 85) := Hid.mk (q585 275 85 (mRf_fld (by decide)))
            have u741 : Hid (w583 275 86 = w114 275 86) := Hid.mk (q585 275 86 (mRf_fld (by decide)))
            have u743 : Hid (w583 275 94 = w114 275 94) := Hid.mk (q585 275 94 (mRf_fld (by decide)))
            have c744 := cSt.rf q116c q585 q585T q585H
            have f745 : e_fr (mStm (w 275 78) (w 275 79) (w 275 80) (w 275 94)) w w583 := e_fr.trans f123 (e_fr.mono q585 (fun c k g => mRf_St g))
            refine e_Ok.run (t' := (74, [(3, (0, w 275 78)), (2, (0, w 275 82)), (1, (0, w 275 80)), (0, (1, 275))], [(0, 0), (0, 47), (1, 275)], w583)) 3 rfl ?_
            refine e_Ok.callV rfl (Nat.le_trans (by decide) hdq) rfl rfl rfl rfl (c_336 c744.1 (n := w114 275 78) u733.out (by omega) (s := w 275 81) u736.out (by omega)) (fun r746 w747 h748 => ?_)
            obtain ⟨rfl, q749⟩ := h748
            replace q749 := (show Hid (EM w583 w747 (w114 275 78) 47 (0) (w 275 81)) from q749)
            have u750 : Hid (w747 275 78 = w114 275 78 + 1) := Hid.mk (Eq.trans q749.out.2.2.2.2 (by omega))
            have u751 : Hid (w747 275 79 = w 275 79) := Hid.mk (Eq.trans (q749.out.fld (by decide)) u734.out)
            have u752 : Hid (w747 275 80 = w 275 80 + 1) := Hid.mk (Eq.trans (q749.out.fld (by decide)) u735.out)
            have u753 : Hid (w747 275 81 = w 275 81) := Hid.mk (Eq.trans (q749.out.fld (by decide)) u736.out)
            have u755 : Hid (w747 275 83 = w114 275 83) := Hid.mk (Eq.trans (q749.out.fld (by decide)) u738.out)
            have u756 : Hid (w747 275 84 = w114 275 84) := Hid.mk (Eq.trans (q749.out.fld (by decide)) u739.out)
            have u757 : Hid (w747 275 85 = w114 275 85) := Hid.mk (Eq.trans (q749.out.fld (by decide)) u740.out)
            have u758 : Hid (w747 275 86 = w114 275 86) := Hid.mk (Eq.trans (q749.out.fld (by decide)) u741.out)
            have u760 : Hid (w747 275 88 = w583 275 88) := Hid.mk (q749.out.fld (by decide))
            have u761 : Hid (w747 275 94 = w114 275 94) := Hid.mk (Eq.trans (q749.out.fld (by decide)) u743.out)
            have f762 : e_fr (mStm (w 275 78) (w 275 79) (w 275 80) (w 275 94)) w w747 := e_fr.trans f745 (q749.out.st (by omega))
            have c763 := cSt.em c744 q749.out (by decide) (by omega) (by omega)
            show e_Ok 20 elay ecode eI (d + 1) 351 (77, [(3, (0, w 275 78)), (2, (0, w 275 82)), (1, (0, w 275 80)), (0, (1, 275))], [(0, w114 275 78)], w747) _
            refine e_Ok.run (t' := (81, [(4, (0, w114 275 78)), (3, (0, w 275 78)), (2, (0, w 275 82)), (1, (0, w 275 80)), (0, (1, 275))], [(0, w 275 80), (1, 275)], w747)) 3 rfl ?_
            refine e_Ok.putf rfl (el_o rfl) rfl rfl ?_
            generalize hw764 : e_up w747 275 82 (w 275 80) = w764
            have f765 : e_fr (mStm (w 275 78) (w 275 79) (w 275 80) (w 275 94)) w w764 := e_fr.up f762 hw764 (by unfold mStm; omega)
            have u766 : Hid (w764 275 78 = w114 275 78 + 1) := Hid.mk (Eq.trans (by rw [← hw764]; exact e_up_ne _ _ (Or.inr (by decide))) u750.out)
            have u767 : Hid (w764 275 79 = w 275 79) := Hid.mk (Eq.trans (by rw [← hw764]; exact e_up_ne _ _ (Or.inr (by decide))) u751.out)
            have u768 : Hid (w764 275 80 = w 275 80 + 1) := Hid.mk (Eq.trans (by rw [← hw764]; exact e_up_ne _ _ (Or.inr (by decide))) u752.out)
            have u769 : Hid (w764 275 81 = w 275 81) := Hid.mk (Eq.trans (by rw [← hw764]; exact e_up_ne _ _ (Or.inr (by decide))) u753.out)
            have u771 : Hid (w764 275 83 = w114 275 83) := Hid.mk (Eq.trans (by rw [← hw764]; exact e_up_ne _ _ (Or.inr (by decide))) u755.out)
            have u772 : Hid (w764 275 84 = w114 275 84) := Hid.mk (Eq.trans (by rw [← hw764]; exact e_up_ne _ _ (Or.inr (by decide))) u756.out)
            have u773 : Hid (w764 275 85 = w114 275 85) := Hid.mk (Eq.trans (by rw [← hw764]; exact e_up_ne _ _ (Or.inr (by decide))) u757.out)
            have u774 : Hid (w764 275 86 = w114 275 86) := Hid.mk (Eq.trans (by rw [← hw764]; exact e_up_ne _ _ (Or.inr (by decide))) u758.out)
            have u776 : Hid (w764 275 88 = w583 275 88) := Hid.mk (Eq.trans (by rw [← hw764]; exact e_up_ne _ _ (Or.inr (by decide))) u760.out)
            have u777 : Hid (w764 275 94 = w114 275 94) := Hid.mk (Eq.trans (by rw [← hw764]; exact e_up_ne _ _ (Or.inr (by decide))) u761.out)
            have c778 := cSt.wr c763 hw764 (Or.inr rfl) (by omega) rfl (fun _ => ⟨⟨by decide, by decide⟩, fun y => absurd y (by decide)⟩)
            refine e_Ok.run (t' := (85, [(4, (0, w114 275 78)), (3, (0, w 275 78)), (2, (0, w 275 82)), (1, (0, w 275 80)), (0, (1, 275))], [(1, 275)], w764)) 1 rfl ?_
            refine e_Ok.callV rfl (Nat.le_trans (by decide) hdq) rfl rfl rfl rfl (c_348_0 (Nat.le_trans (by decide) hdq) c778 (by rw [u776.out] <;> omega)) (fun r779 w780 h781 => ?_)
            obtain ⟨rfl, rfl⟩ := h781
            show e_Ok 20 elay ecode eI (d + 1) 351 (88, [(4, (0, w114 275 78)), (3, (0, w 275 78)), (2, (0, w 275 82)), (1, (0, w 275 80)), (0, (1, 275))], [], w764) _
            refine e_Ok.run (t' := (90, [(4, (0, w114 275 78)), (3, (0, w 275 78)), (2, (0, w 275 82)), (1, (0, w 275 80)), (0, (1, 275))], [(0, w 275 82), (1, 275)], w764)) 2 rfl ?_
            refine e_Ok.putf rfl (el_o rfl) rfl rfl ?_
            generalize hw782 : e_up w764 275 82 (w 275 82) = w782
            have f783 : e_fr (mStm (w 275 78) (w 275 79) (w 275 80) (w 275 94)) w w782 := e_fr.up f765 hw782 (by unfold mStm; omega)
            have u784 : Hid (w782 275 78 = w114 275 78 + 1) := Hid.mk (Eq.trans (by rw [← hw782]; exact e_up_ne _ _ (Or.inr (by decide))) u766.out)
            have u785 : Hid (w782 275 79 = w 275 79) := Hid.mk (Eq.trans (by rw [← hw782]; exact e_up_ne _ _ (Or.inr (by decide))) u767.out)
            have u786 : Hid (w782 275 80 = w 275 80 + 1) := Hid.mk (Eq.trans (by rw [← hw782]; exact e_up_ne _ _ (Or.inr (by decide))) u768.out)
            have u787 : Hid (w782 275 81 = w 275 81) := Hid.mk (Eq.trans (by rw [← hw782]; exact e_up_ne _ _ (Or.inr (by decide))) u769.out)
            have u788 : Hid (w782 275 82 = w 275 82) := Hid.mk (by rw [← hw782]; exact e_up_eq _ _ _ _)
            have u789 : Hid (w782 275 83 = w114 275 83) := Hid.mk (Eq.trans (by rw [← hw782]; exact e_up_ne _ _ (Or.inr (by decide))) u771.out)
            have u790 : Hid (w782 275 84 = w114 275 84) := Hid.mk (Eq.trans (by rw [← hw782]; exact e_up_ne _ _ (Or.inr (by decide))) u772.out)
            have u791 : Hid (w782 275 85 = w114 275 85) := Hid.mk (Eq.trans (by rw [← hw782]; exact e_up_ne _ _ (Or.inr (by decide))) u773.out)
            have u792 : Hid (w782 275 86 = w114 275 86) := Hid.mk (Eq.trans (by rw [← hw782]; exact e_up_ne _ _ (Or.inr (by decide))) u774.out)
            have u794 : Hid (w782 275 88 = w583 275 88) := Hid.mk (Eq.trans (by rw [← hw782]; exact e_up_ne _ _ (Or.inr (by decide))) u776.out)
            have u795 : Hid (w782 275 94 = w114 275 94) := Hid.mk (Eq.trans (by rw [← hw782]; exact e_up_ne _ _ (Or.inr (by decide))) u777.out)
            have c796 := cSt.wr c778 hw782 (Or.inr rfl) (by omega) rfl (fun _ => ⟨⟨by decide, by decide⟩, fun y => absurd y (by decide)⟩)
            refine e_Ok.run (t' := (97, [(4, (0, w114 275 78)), (3, (0, w 275 78)), (2, (0, w 275 82)), (1, (0, w 275 80)), (0, (1, 275))], [(0, w 275 78), (0, 48), (1, 275)], w782)) 3 rfl ?_
            refine e_Ok.callV rfl (Nat.le_trans (by decide) hdq) rfl rfl rfl rfl (c_336 c796.1 (n := w114 275 78 + 1) u784.out (by omega) (s := w 275 81) u787.out (by omega)) (fun r797 w798 h799 => ?_)
            obtain ⟨rfl, q800⟩ := h799
            replace q800 := (show Hid (EM w782 w798 (w114 275 78 + 1) 48 (w 275 78) (w 275 81)) from q800)
            have u801 : Hid (w798 275 78 = w114 275 78 + 2) := Hid.mk (Eq.trans q800.out.2.2.2.2 (by omega))
            have u802 : Hid (w798 275 79 = w 275 79) := Hid.mk (Eq.trans (q800.out.fld (by decide)) u785.out)
            have u803 : Hid (w798 275 80 = w 275 80 + 1) := Hid.mk (Eq.trans (q800.out.fld (by decide)) u786.out)
            have u804 : Hid (w798 275 81 = w 275 81) := Hid.mk (Eq.trans (q800.out.fld (by decide)) u787.out)
            have u805 : Hid (w798 275 82 = w 275 82) := Hid.mk (Eq.trans (q800.out.fld (by decide)) u788.out)
            have u806 : Hid (w798 275 83 = w114 275 83) := Hid.mk (Eq.trans (q800.out.fld (by decide)) u789.out)
            have u807 : Hid (w798 275 84 = w114 275 84) := Hid.mk (Eq.trans (q800.out.fld (by decide)) u790.out)
            have u808 : Hid (w798 275 85 = w114 275 85) := Hid.mk (Eq.trans (q800.out.fld (by decide)) u791.out)
            have u809 : Hid (w798 275 86 = w114 275 86) := Hid.mk (Eq.trans (q800.out.fld (by decide)) u792.out)
            have u811 : Hid (w798 275 88 = w583 275 88) := Hid.mk (Eq.trans (q800.out.fld (by decide)) u794.out)
            have u812 : Hid (w798 275 94 = w114 275 94) := Hid.mk (Eq.trans (q800.out.fld (by decide)) u795.out)
            have f813 : e_fr (mStm (w 275 78) (w 275 79) (w 275 80) (w 275 94)) w w798 := e_fr.trans f783 (q800.out.st (by omega))
            have c814 := cSt.em c796 q800.out (by decide) (by omega) (by omega)
            show e_Ok 20 elay ecode eI (d + 1) 351 (100, [(4, (0, w114 275 78)), (3, (0, w 275 78)), (2, (0, w 275 82)), (1, (0, w 275 80)), (0, (1, 275))], [(0, w114 275 78 + 1)], w798) _
            refine e_Ok.run (t' := (104, [(4, (0, w114 275 78)), (3, (0, w 275 78)), (2, (0, w 275 82)), (1, (0, w 275 80)), (0, (1, 275))], [(0, w114 275 78), (1, 275)], w798)) 3 rfl ?_
            refine e_Ok.callV rfl (Nat.le_trans (by decide) hdq) rfl rfl rfl rfl (c_337 c814.1 (n := w114 275 78 + 2) u801.out (by omega) (by omega)) (fun r815 w816 h817 => ?_)
            obtain ⟨rfl, q818⟩ := h817
            have f819 : e_fr (mStm (w 275 78) (w 275 79) (w 275 80) (w 275 94)) w w816 := e_fr.up f813 q818 (by unfold mStm; omega)
            have u820 : Hid (w816 275 78 = w114 275 78 + 2) := Hid.mk (Eq.trans (by rw [← q818]; exact e_up_ne _ _ (Or.inl (by decide))) u801.out)
            have u821 : Hid (w816 275 79 = w 275 79) := Hid.mk (Eq.trans (by rw [← q818]; exact e_up_ne _ _ (Or.inl (by decide))) u802.out)
            have u822 : Hid (w816 275 80 = w 275 80 + 1) := Hid.mk (Eq.trans (by rw [← q818]; exact e_up_ne _ _ (Or.inl (by decide))) u803.out)
            have u823 : Hid (w816 275 81 = w 275 81) := Hid.mk (Eq.trans (by rw [← q818]; exact e_up_ne _ _ (Or.inl (by decide))) u804.out)
            have u824 : Hid (w816 275 82 = w 275 82) := Hid.mk (Eq.trans (by rw [← q818]; exact e_up_ne _ _ (Or.inl (by decide))) u805.out)
            have u825 : Hid (w816 275 83 = w114 275 83) := Hid.mk (Eq.trans (by rw [← q818]; exact e_up_ne _ _ (Or.inl (by decide))) u806.out)
            have u826 : Hid (w816 275 84 = w114 275 84) := Hid.mk (Eq.trans (by rw [← q818]; exact e_up_ne _ _ (Or.inl (by decide))) u807.out)
            have u827 : Hid (w816 275 85 = w114 275 85) := Hid.mk (Eq.trans (by rw [← q818]; exact e_up_ne _ _ (Or.inl (by decide))) u808.out)
            have u828 : Hid (w816 275 86 = w114 275 86) := Hid.mk (Eq.trans (by rw [← q818]; exact e_up_ne _ _ (Or.inl (by decide))) u809.out)
            have u830 : Hid (w816 275 88 = w583 275 88) := Hid.mk (Eq.trans (by rw [← q818]; exact e_up_ne _ _ (Or.inl (by decide))) u811.out)
            have u831 : Hid (w816 275 94 = w114 275 94) := Hid.mk (Eq.trans (by rw [← q818]; exact e_up_ne _ _ (Or.inl (by decide))) u812.out)
            have c832 := cSt.wr c814 q818 (Or.inl rfl) (by omega) rfl (fun y => absurd y (by decide))
            show e_Ok 20 elay ecode eI (d + 1) 351 (107, [(4, (0, w114 275 78)), (3, (0, w 275 78)), (2, (0, w 275 82)), (1, (0, w 275 80)), (0, (1, 275))], [], w816) _
            refine e_Ok.run (t' := (108, [(4, (0, w114 275 78)), (3, (0, w 275 78)), (2, (0, w 275 82)), (1, (0, w 275 80)), (0, (1, 275))], [(1, 275)], w816)) 1 rfl ?_
            refine e_Ok.getr (z := 336) rfl (el_o rfl) rfl rfl ((f819 275 73 (by unfold mStm; omega)).trans (e_Has.eq hc.1 rfl)) (by omega) ?_
            refine e_Ok.run (t' := (115, [(4, (0, w114 275 78)), (3, (0, w 275 78)), (2, (0, w 275 82)), (1, (0, w 275 80)), (0, (1, 275))], [(0, w 275 80), (0, 3600), (1, 336)], w816)) 2 rfl ?_
            refine e_Ok.add (z := w 275 80 + 3600) rfl (by omega) (by omega) ?_
            refine e_Ok.run (t' := (117, [(4, (0, w114 275 78)), (3, (0, w 275 78)), (2, (0, w 275 82)), (1, (0, w 275 80)), (0, (1, 275))], [(1, 275), (0, w 275 80 + 3600), (1, 336)], w816)) 1 rfl ?_
            refine e_Ok.getf (z := w114 275 78 + 2) rfl (el_o rfl) rfl rfl u820.out (by omega) ?_
            refine e_Ok.ast rfl (el_o rfl) rfl rfl (by omega) ?_
            generalize hw833 : e_up w816 336 (w 275 80 + 3600) (w114 275 78 + 2) = w833
            have f834 : e_fr (mStm (w 275 78) (w 275 79) (w 275 80) (w 275 94)) w w833 := e_fr.up f819 hw833 (by unfold mStm; omega)
            have u835 : Hid (w833 275 78 = w114 275 78 + 2) := Hid.mk (Eq.trans (by rw [← hw833]; exact e_up_ne _ _ (Or.inl (by decide))) u820.out)
            have u836 : Hid (w833 275 79 = w 275 79) := Hid.mk (Eq.trans (by rw [← hw833]; exact e_up_ne _ _ (Or.inl (by decide))) u821.out)
            have u837 : Hid (w833 275 80 = w 275 80 + 1) := Hid.mk (Eq.trans (by rw [← hw833]; exact e_up_ne _ _ (Or.inl (by decide))) u822.out)
            have u838 : Hid (w833 275 81 = w 275 81) := Hid.mk (Eq.trans (by rw [← hw833]; exact e_up_ne _ _ (Or.inl (by decide))) u823.out)
            have u839 : Hid (w833 275 82 = w 275 82) := Hid.mk (Eq.trans (by rw [← hw833]; exact e_up_ne _ _ (Or.inl (by decide))) u824.out)
            have u840 : Hid (w833 275 83 = w114 275 83) := Hid.mk (Eq.trans (by rw [← hw833]; exact e_up_ne _ _ (Or.inl (by decide))) u825.out)
            have u841 : Hid (w833 275 84 = w114 275 84) := Hid.mk (Eq.trans (by rw [← hw833]; exact e_up_ne _ _ (Or.inl (by decide))) u826.out)
            have u842 : Hid (w833 275 85 = w114 275 85) := Hid.mk (Eq.trans (by rw [← hw833]; exact e_up_ne _ _ (Or.inl (by decide))) u827.out)
            have u843 : Hid (w833 275 86 = w114 275 86) := Hid.mk (Eq.trans (by rw [← hw833]; exact e_up_ne _ _ (Or.inl (by decide))) u828.out)
            have u845 : Hid (w833 275 88 = w583 275 88) := Hid.mk (Eq.trans (by rw [← hw833]; exact e_up_ne _ _ (Or.inl (by decide))) u830.out)
            have u846 : Hid (w833 275 94 = w114 275 94) := Hid.mk (Eq.trans (by rw [← hw833]; exact e_up_ne _ _ (Or.inl (by decide))) u831.out)
            have c847 := cSt.wr c832 hw833 (Or.inl rfl) (by omega) rfl (fun y => absurd y (by decide))
            refine e_Ok.run (t' := (124, [(4, (0, w114 275 78)), (3, (0, w 275 78)), (2, (0, w 275 82)), (1, (0, w 275 80)), (0, (1, 275))], [(0, 2), (1, 275), (1, 275)], w833)) 3 rfl ?_
            refine e_Ok.callV rfl (Nat.le_trans (by decide) hdq) rfl rfl rfl rfl (c_332 c847.1 (N := N) c847.2.2.2.1) (fun r848 w849 h850 => ?_)
            obtain ⟨z851, rfl, rfl, q852⟩ := h850
            obtain ⟨rfl, q852, q852b⟩ | ⟨rfl, q852n⟩ := q852
            · show e_Ok 20 elay ecode eI (d + 1) 351 (127, [(4, (0, w114 275 78)), (3, (0, w 275 78)), (2, (0, w 275 82)), (1, (0, w 275 80)), (0, (1, 275))], [(0, 1), (1, 275)], w833) _
              rw [u841.out] at q852
              rw [u842.out] at q852b
              refine e_Ok.callV rfl (Nat.le_trans (by decide) hdq) rfl rfl rfl rfl (c_334 (Nat.le_trans (by decide) hdq) c847.1 c847.2.1 c847.2.2.1 hNr c847.2.2.2.1 (by decide)) (fun r853 w854 h855 => ?_)
              obtain ⟨rfl, q856⟩ := h855
              obtain ⟨rfl, q856z⟩ | ⟨q856z, q856b, q856, q856s, q856t⟩ | ⟨q856z, q856b, q856, q856T, q856H, q856r⟩ := q856
              · show e_Ok 20 elay ecode eI (d + 1) 351 (130, [(4, (0, w114 275 78)), (3, (0, w 275 78)), (2, (0, w 275 82)), (1, (0, w 275 80)), (0, (1, 275))], [], w833) _
                rw [u845.out] at q856z
                refine e_Ok.run (t' := (132, [(4, (0, w114 275 78)), (3, (0, w 275 78)), (2, (0, w 275 82)), (1, (0, w 275 80)), (0, (1, 275))], [(1, 275), (1, 275)], w833)) 2 rfl ?_
                refine e_Ok.getf (z := w114 275 83) rfl (el_o rfl) rfl rfl u840.out (by omega) ?_
                refine e_Ok.run (t' := (136, [(4, (0, w114 275 78)), (3, (0, w 275 78)), (2, (0, w 275 82)), (1, (0, w 275 80)), (0, (1, 275))], [(0, 1), (0, w114 275 83), (1, 275)], w833)) 1 rfl ?_
                refine e_Ok.sub' (z := w114 275 83 - 1) rfl (by omega) (by omega) ?_
                refine e_Ok.putf rfl (el_o rfl) rfl rfl ?_
                generalize hw857 : e_up w833 275 83 (w114 275 83 - 1) = w857
                have f858 : e_fr (mStm (w 275 78) (w 275 79) (w 275 80) (w 275 94)) w w857 := e_fr.up f834 hw857 (by unfold mStm; omega)
                have e859 := up83 hw857
                replace e859 := (show Hid _ from e859)
                have u860 : Hid (w857 275 78 = w114 275 78 + 2) := Hid.mk (Eq.trans (e859.out.1 275 78 (by decide)) u835.out)
                have u861 : Hid (w857 275 79 = w 275 79) := Hid.mk (Eq.trans (e859.out.1 275 79 (by decide)) u836.out)
                have u862 : Hid (w857 275 80 = w 275 80 + 1) := Hid.mk (Eq.trans (e859.out.1 275 80 (by decide)) u837.out)
                have u863 : Hid (w857 275 81 = w 275 81) := Hid.mk (Eq.trans (e859.out.1 275 81 (by decide)) u838.out)
                have u864 : Hid (w857 275 82 = w 275 82) := Hid.mk (Eq.trans (e859.out.1 275 82 (by decide)) u839.out)
                have u865 : Hid (w857 275 83 = w114 275 83 - 1) := Hid.mk (e859.out.2)
                have u868 : Hid (w857 275 86 = w114 275 86) := Hid.mk (Eq.trans (e859.out.1 275 86 (by decide)) u843.out)
                have u870 : Hid (w857 275 88 = w583 275 88) := Hid.mk (Eq.trans (e859.out.1 275 88 (by decide)) u845.out)
                have u871 : Hid (w857 275 94 = w114 275 94) := Hid.mk (Eq.trans (e859.out.1 275 94 (by decide)) u846.out)
                have c872 := cSt.up c847 hw857
                refine e_Ok.rets rfl rfl ?_
                exact ⟨rfl, f858, c872, (by unfold stL; rw [u860.out, u861.out, u862.out, u863.out, u864.out, u865.out, u868.out, u870.out, u871.out]; omega), (fun z => by rw [u870.out] at z; exact absurd z (by omega))⟩
              · rw [u845.out] at q856z; exact absurd q856z (by omega)
              · rw [u845.out] at q856z; exact absurd q856z (by omega)
            · show e_Ok 20 elay ecode eI (d + 1) 351 (127, [(4, (0, w114 275 78)), (3, (0, w 275 78)), (2, (0, w 275 82)), (1, (0, w 275 80)), (0, (1, 275))], [(0, 0), (1, 275)], w833) _
              clear q852n
              refine e_Ok.callV rfl (Nat.le_trans (by decide) hdq) rfl rfl rfl rfl (c_334 (Nat.le_trans (by decide) hdq) c847.1 c847.2.1 c847.2.2.1 hNr c847.2.2.2.1 (by decide)) (fun r873 w874 h875 => ?_)
              obtain ⟨rfl, q876⟩ := h875
              obtain ⟨rfl, q876z⟩ | ⟨q876z, q876b, q876, q876s, q876t⟩ | ⟨q876z, q876b, q876, q876T, q876H, q876r⟩ := q876
              · show e_Ok 20 elay ecode eI (d + 1) 351 (130, [(4, (0, w114 275 78)), (3, (0, w 275 78)), (2, (0, w 275 82)), (1, (0, w 275 80)), (0, (1, 275))], [], w833) _
                rw [u845.out] at q876z
                refine e_Ok.run (t' := (132, [(4, (0, w114 275 78)), (3, (0, w 275 78)), (2, (0, w 275 82)), (1, (0, w 275 80)), (0, (1, 275))], [(1, 275), (1, 275)], w833)) 2 rfl ?_
                refine e_Ok.getf (z := w114 275 83) rfl (el_o rfl) rfl rfl u840.out (by omega) ?_
                refine e_Ok.run (t' := (136, [(4, (0, w114 275 78)), (3, (0, w 275 78)), (2, (0, w 275 82)), (1, (0, w 275 80)), (0, (1, 275))], [(0, 1), (0, w114 275 83), (1, 275)], w833)) 1 rfl ?_
                refine e_Ok.sub' (z := w114 275 83 - 1) rfl (by omega) (by omega) ?_
                refine e_Ok.putf rfl (el_o rfl) rfl rfl ?_
                generalize hw877 : e_up w833 275 83 (w114 275 83 - 1) = w877
                have f878 : e_fr (mStm (w 275 78) (w 275 79) (w 275 80) (w 275 94)) w w877 := e_fr.up f834 hw877 (by unfold mStm; omega)
                have e879 := up83 hw877
                replace e879 := (show Hid _ from e879)
                have u880 : Hid (w877 275 78 = w114 275 78 + 2) := Hid.mk (Eq.trans (e879.out.1 275 78 (by decide)) u835.out)
                have u881 : Hid (w877 275 79 = w 275 79) := Hid.mk (Eq.trans (e879.out.1 275 79 (by decide)) u836.out)
                have u882 : Hid (w877 275 80 = w 275 80 + 1) := Hid.mk (Eq.trans (e879.out.1 275 80 (by decide)) u837.out)
                have u883 : Hid (w877 275 81 = w 275 81) := Hid.mk (Eq.trans (e879.out.1 275 81 (by decide)) u838.out)
                have u884 : Hid (w877 275 82 = w 275 82) := Hid.mk (Eq.trans (e879.out.1 275 82 (by decide)) u839.out)
                have u885 : Hid (w877 275 83 = w114 275 83 - 1) := Hid.mk (e879.out.2)
                have u888 : Hid (w877 275 86 = w114 275 86) := Hid.mk (Eq.trans (e879.out.1 275 86 (by decide)) u843.out)
                have u890 : Hid (w877 275 88 = w583 275 88) := Hid.mk (Eq.trans (e879.out.1 275 88 (by decide)) u845.out)
                have u891 : Hid (w877 275 94 = w114 275 94) := Hid.mk (Eq.trans (e879.out.1 275 94 (by decide)) u846.out)
                have c892 := cSt.up c847 hw877
                refine e_Ok.rets rfl rfl ?_
                exact ⟨rfl, f878, c892, (by unfold stL; rw [u880.out, u881.out, u882.out, u883.out, u884.out, u885.out, u888.out, u890.out, u891.out]; omega), (fun z => by rw [u890.out] at z; exact absurd z (by omega))⟩
              · rw [u845.out] at q876z; exact absurd q876z (by omega)
              · rw [u845.out] at q876z; exact absurd q876z (by omega)
      · exact absurd q88b (by decide)
    · show e_Ok 20 elay ecode eI (d + 1) 351 (53, [(3, (0, w 275 78)), (2, (0, w 275 82)), (1, (0, w 275 80)), (0, (1, 275))], [(0, 0), (1, 275)], w58) _
      clear q84n
      refine e_Ok.callV rfl (Nat.le_trans (by decide) hdq) rfl rfl rfl rfl (c_334 (Nat.le_trans (by decide) hdq) c74.1 c74.2.1 c74.2.2.1 hNr c74.2.2.2.1 (by decide)) (fun r893 w894 h895 => ?_)
      obtain ⟨rfl, q896⟩ := h895
      obtain ⟨rfl, q896z⟩ | ⟨q896z, q896b, q896, q896s, q896t⟩ | ⟨q896z, q896b, q896, q896T, q896H, q896r⟩ := q896
      · rw [u71.out] at q896z; exact absurd q896z (by omega)
      · exact absurd q896b (by decide)
      · show e_Ok 20 elay ecode eI (d + 1) 351 (56, [(3, (0, w 275 78)), (2, (0, w 275 82)), (1, (0, w 275 80)), (0, (1, 275))], [], w894) _
        rw [u71.out] at q896z
        have u897 : Hid (w894 275 78 = w 275 78 + 1) := Hid.mk (Eq.trans (q896 275 78 (mRf_fld (by decide))) u61.out)
        have u898 : Hid (w894 275 79 = w 275 79) := Hid.mk (Eq.trans (q896 275 79 (mRf_fld (by decide))) u62.out)
        have u899 : Hid (w894 275 80 = w 275 80 + 1) := Hid.mk (Eq.trans (q896 275 80 (mRf_fld (by decide))) u63.out)
        have u900 : Hid (w894 275 81 = w 275 81) := Hid.mk (Eq.trans (q896 275 81 (mRf_fld (by decide))) u64.out)
        have u902 : Hid (w894 275 83 = w 275 83 + 1) := Hid.mk (Eq.trans (q896 275 83 (mRf_fld (by decide))) u66.out)
        have u903 : Hid (w894 275 84 = w 275 84) := Hid.mk (Eq.trans (q896 275 84 (mRf_fld (by decide))) u67.out)
        have u904 : Hid (w894 275 85 = w 275 85) := Hid.mk (Eq.trans (q896 275 85 (mRf_fld (by decide))) u68.out)
        have u905 : Hid (w894 275 86 = w 275 86) := Hid.mk (Eq.trans (q896 275 86 (mRf_fld (by decide))) u69.out)
        have u907 : Hid (w894 275 94 = w 275 94) := Hid.mk (Eq.trans (q896 275 94 (mRf_fld (by decide))) u72.out)
        have c908 := cSt.rf c74 q896 q896T q896H
        have f909 : e_fr (mStm (w 275 78) (w 275 79) (w 275 80) (w 275 94)) w w894 := e_fr.trans f73 (e_fr.mono q896 (fun c k g => mRf_St g))
        refine e_Ok.run (t' := (57, [(3, (0, w 275 78)), (2, (0, w 275 82)), (1, (0, w 275 80)), (0, (1, 275))], [(1, 275)], w894)) 1 rfl ?_
        refine e_Ok.callV rfl (Nat.le_trans (by decide) hdq) rfl rfl rfl rfl (c_339_0 (Nat.le_trans (by decide) hdq) c908 (by omega)) (fun r910 w911 h912 => ?_)
        obtain ⟨rfl, rfl⟩ := h912
        show e_Ok 20 elay ecode eI (d + 1) 351 (60, [(3, (0, w 275 78)), (2, (0, w 275 82)), (1, (0, w 275 80)), (0, (1, 275))], [], w894) _
        refine e_Ok.run (t' := (64, [(3, (0, w 275 78)), (2, (0, w 275 82)), (1, (0, w 275 80)), (0, (1, 275))], [(0, 58), (1, 275), (1, 275)], w894)) 3 rfl ?_
        refine e_Ok.callV rfl (Nat.le_trans (by decide) hdq) rfl rfl rfl rfl (c_331 c908.1 (N := N) c908.2.2.2.1) (fun r913 w914 h915 => ?_)
        obtain ⟨z916, rfl, rfl, q917⟩ := h915
        obtain ⟨rfl, q917, q917b⟩ | ⟨rfl, q917n⟩ := q917
        · show e_Ok 20 elay ecode eI (d + 1) 351 (67, [(3, (0, w 275 78)), (2, (0, w 275 82)), (1, (0, w 275 80)), (0, (1, 275))], [(0, 1), (1, 275)], w894) _
          rw [u903.out] at q917
          rw [u904.out] at q917b
          refine e_Ok.callV rfl (Nat.le_trans (by decide) hdq) rfl rfl rfl rfl (c_334 (Nat.le_trans (by decide) hdq) c908.1 c908.2.1 c908.2.2.1 hNr c908.2.2.2.1 (by decide)) (fun r918 w919 h920 => ?_)
          obtain ⟨rfl, q921⟩ := h920
          obtain ⟨rfl, q921z⟩ | ⟨q921z, q921b, q921, q921s, q921t⟩ | ⟨q921z, q921b, q921, q921T, q921H, q921r⟩ := q921
          · show e_Ok 20 elay ecode eI (d + 1) 351 (70, [(3, (0, w 275 78)), (2, (0, w 275 82)), (1, (0, w 275 80)), (0, (1, 275))], [], w894) _
            refine e_Ok.run (t' := (74, [(3, (0, w 275 78)), (2, (0, w 275 82)), (1, (0, w 275 80)), (0, (1, 275))], [(0, 0), (0, 47), (1, 275)], w894)) 3 rfl ?_
            refine e_Ok.callV rfl (Nat.le_trans (by decide) hdq) rfl rfl rfl rfl (c_336 c908.1 (n := w 275 78 + 1) u897.out (by omega) (s := w 275 81) u900.out (by omega)) (fun r922 w923 h924 => ?_)
            obtain ⟨rfl, q925⟩ := h924
            replace q925 := (show Hid (EM w894 w923 (w 275 78 + 1) 47 (0) (w 275 81)) from q925)
            have u926 : Hid (w923 275 78 = w 275 78 + 2) := Hid.mk (Eq.trans q925.out.2.2.2.2 (by omega))
            have u927 : Hid (w923 275 79 = w 275 79) := Hid.mk (Eq.trans (q925.out.fld (by decide)) u898.out)
            have u928 : Hid (w923 275 80 = w 275 80 + 1) := Hid.mk (Eq.trans (q925.out.fld (by decide)) u899.out)
            have u929 : Hid (w923 275 81 = w 275 81) := Hid.mk (Eq.trans (q925.out.fld (by decide)) u900.out)
            have u931 : Hid (w923 275 83 = w 275 83 + 1) := Hid.mk (Eq.trans (q925.out.fld (by decide)) u902.out)
            have u932 : Hid (w923 275 84 = w 275 84) := Hid.mk (Eq.trans (q925.out.fld (by decide)) u903.out)
            have u933 : Hid (w923 275 85 = w 275 85) := Hid.mk (Eq.trans (q925.out.fld (by decide)) u904.out)
            have u934 : Hid (w923 275 86 = w 275 86) := Hid.mk (Eq.trans (q925.out.fld (by decide)) u905.out)
            have u936 : Hid (w923 275 88 = w894 275 88) := Hid.mk (q925.out.fld (by decide))
            have u937 : Hid (w923 275 94 = w 275 94) := Hid.mk (Eq.trans (q925.out.fld (by decide)) u907.out)
            have f938 : e_fr (mStm (w 275 78) (w 275 79) (w 275 80) (w 275 94)) w w923 := e_fr.trans f909 (q925.out.st (by omega))
            have c939 := cSt.em c908 q925.out (by decide) (by omega) (by omega)
            show e_Ok 20 elay ecode eI (d + 1) 351 (77, [(3, (0, w 275 78)), (2, (0, w 275 82)), (1, (0, w 275 80)), (0, (1, 275))], [(0, w 275 78 + 1)], w923) _
            refine e_Ok.run (t' := (81, [(4, (0, w 275 78 + 1)), (3, (0, w 275 78)), (2, (0, w 275 82)), (1, (0, w 275 80)), (0, (1, 275))], [(0, w 275 80), (1, 275)], w923)) 3 rfl ?_
            refine e_Ok.putf rfl (el_o rfl) rfl rfl ?_
            generalize hw940 : e_up w923 275 82 (w 275 80) = w940
            have f941 : e_fr (mStm (w 275 78) (w 275 79) (w 275 80) (w 275 94)) w w940 := e_fr.up f938 hw940 (by unfold mStm; omega)
            have u942 : Hid (w940 275 78 = w 275 78 + 2) := Hid.mk (Eq.trans (by rw [← hw940]; exact e_up_ne _ _ (Or.inr (by decide))) u926.out)
            have u943 : Hid (w940 275 79 = w 275 79) := Hid.mk (Eq.trans (by rw [← hw940]; exact e_up_ne _ _ (Or.inr (by decide))) u927.out)
            have u944 : Hid (w940 275 80 = w 275 80 + 1) := Hid.mk (Eq.trans (by rw [← hw940]; exact e_up_ne _ _ (Or.inr (by decide))) u928.out)
            have u945 : Hid (w940 275 81 = w 275 81) := Hid.mk (Eq.trans (by rw [← hw940]; exact e_up_ne _ _ (Or.inr (by decide))) u929.out)
            have u947 : Hid (w940 275 83 = w 275 83 + 1) := Hid.mk (Eq.trans (by rw [← hw940]; exact e_up_ne _ _ (Or.inr (by decide))) u931.out)
            have u948 : Hid (w940 275 84 = w 275 84) := Hid.mk (Eq.trans (by rw [← hw940]; exact e_up_ne _ _ (Or.inr (by decide))) u932.out)
            have u949 : Hid (w940 275 85 = w 275 85) := Hid.mk (Eq.trans (by rw [← hw940]; exact e_up_ne _ _ (Or.inr (by decide))) u933.out)
            have u950 : Hid (w940 275 86 = w 275 86) := Hid.mk (Eq.trans (by rw [← hw940]; exact e_up_ne _ _ (Or.inr (by decide))) u934.out)
            have u952 : Hid (w940 275 88 = w894 275 88) := Hid.mk (Eq.trans (by rw [← hw940]; exact e_up_ne _ _ (Or.inr (by decide))) u936.out)
            have u953 : Hid (w940 275 94 = w 275 94) := Hid.mk (Eq.trans (by rw [← hw940]; exact e_up_ne _ _ (Or.inr (by decide))) u937.out)
            have c954 := cSt.wr c939 hw940 (Or.inr rfl) (by omega) rfl (fun _ => ⟨⟨by decide, by decide⟩, fun y => absurd y (by decide)⟩)
            refine e_Ok.run (t' := (85, [(4, (0, w 275 78 + 1)), (3, (0, w 275 78)), (2, (0, w 275 82)), (1, (0, w 275 80)), (0, (1, 275))], [(1, 275)], w940)) 1 rfl ?_
            refine e_Ok.callV rfl (Nat.le_trans (by decide) hdq) rfl rfl rfl rfl (c_348_0 (Nat.le_trans (by decide) hdq) c954 (by rw [u952.out] <;> omega)) (fun r955 w956 h957 => ?_)
            obtain ⟨rfl, rfl⟩ := h957
            show e_Ok 20 elay ecode eI (d + 1) 351 (88, [(4, (0, w 275 78 + 1)), (3, (0, w 275 78)), (2, (0, w 275 82)), (1, (0, w 275 80)), (0, (1, 275))], [], w940) _
            refine e_Ok.run (t' := (90, [(4, (0, w 275 78 + 1)), (3, (0, w 275 78)), (2, (0, w 275 82)), (1, (0, w 275 80)), (0, (1, 275))], [(0, w 275 82), (1, 275)], w940)) 2 rfl ?_
            refine e_Ok.putf rfl (el_o rfl) rfl rfl ?_
            generalize hw958 : e_up w940 275 82 (w 275 82) = w958
            have f959 : e_fr (mStm (w 275 78) (w 275 79) (w 275 80) (w 275 94)) w w958 := e_fr.up f941 hw958 (by unfold mStm; omega)
            have u960 : Hid (w958 275 78 = w 275 78 + 2) := Hid.mk (Eq.trans (by rw [← hw958]; exact e_up_ne _ _ (Or.inr (by decide))) u942.out)
            have u961 : Hid (w958 275 79 = w 275 79) := Hid.mk (Eq.trans (by rw [← hw958]; exact e_up_ne _ _ (Or.inr (by decide))) u943.out)
            have u962 : Hid (w958 275 80 = w 275 80 + 1) := Hid.mk (Eq.trans (by rw [← hw958]; exact e_up_ne _ _ (Or.inr (by decide))) u944.out)
            have u963 : Hid (w958 275 81 = w 275 81) := Hid.mk (Eq.trans (by rw [← hw958]; exact e_up_ne _ _ (Or.inr (by decide))) u945.out)
            have u964 : Hid (w958 275 82 = w 275 82) := Hid.mk (by rw [← hw958]; exact e_up_eq _ _ _ _)
            have u965 : Hid (w958 275 83 = w 275 83 + 1) := Hid.mk (Eq.trans (by rw [← hw958]; exact e_up_ne _ _ (Or.inr (by decide))) u947.out)
            have u966 : Hid (w958 275 84 = w 275 84) := Hid.mk (Eq.trans (by rw [← hw958]; exact e_up_ne _ _ (Or.inr (by decide))) u948.out)
            have u967 : Hid (w958 275 85 = w 275 85) := Hid.mk (Eq.trans (by rw [← hw958]; exact e_up_ne _ _ (Or.inr (by decide))) u949.out)
            have u968 : Hid (w958 275 86 = w 275 86) := Hid.mk (Eq.trans (by rw [← hw958]; exact e_up_ne _ _ (Or.inr (by decide))) u950.out)
            have u970 : Hid (w958 275 88 = w894 275 88) := Hid.mk (Eq.trans (by rw [← hw958]; exact e_up_ne _ _ (Or.inr (by decide))) u952.out)
            have u971 : Hid (w958 275 94 = w 275 94) := Hid.mk (Eq.trans (by rw [← hw958]; exact e_up_ne _ _ (Or.inr (by decide))) u953.out)
            have c972 := cSt.wr c954 hw958 (Or.inr rfl) (by omega) rfl (fun _ => ⟨⟨by decide, by decide⟩, fun y => absurd y (by decide)⟩)
            refine e_Ok.run (t' := (97, [(4, (0, w 275 78 + 1)), (3, (0, w 275 78)), (2, (0, w 275 82)), (1, (0, w 275 80)), (0, (1, 275))], [(0, w 275 78), (0, 48), (1, 275)], w958)) 3 rfl ?_
            refine e_Ok.callV rfl (Nat.le_trans (by decide) hdq) rfl rfl rfl rfl (c_336 c972.1 (n := w 275 78 + 2) u960.out (by omega) (s := w 275 81) u963.out (by omega)) (fun r973 w974 h975 => ?_)
            obtain ⟨rfl, q976⟩ := h975
            replace q976 := (show Hid (EM w958 w974 (w 275 78 + 2) 48 (w 275 78) (w 275 81)) from q976)
            have u977 : Hid (w974 275 78 = w 275 78 + 3) := Hid.mk (Eq.trans q976.out.2.2.2.2 (by omega))
            have u978 : Hid (w974 275 79 = w 275 79) := Hid.mk (Eq.trans (q976.out.fld (by decide)) u961.out)
            have u979 : Hid (w974 275 80 = w 275 80 + 1) := Hid.mk (Eq.trans (q976.out.fld (by decide)) u962.out)
            have u980 : Hid (w974 275 81 = w 275 81) := Hid.mk (Eq.trans (q976.out.fld (by decide)) u963.out)
            have u981 : Hid (w974 275 82 = w 275 82) := Hid.mk (Eq.trans (q976.out.fld (by decide)) u964.out)
            have u982 : Hid (w974 275 83 = w 275 83 + 1) := Hid.mk (Eq.trans (q976.out.fld (by decide)) u965.out)
            have u983 : Hid (w974 275 84 = w 275 84) := Hid.mk (Eq.trans (q976.out.fld (by decide)) u966.out)
            have u984 : Hid (w974 275 85 = w 275 85) := Hid.mk (Eq.trans (q976.out.fld (by decide)) u967.out)
            have u985 : Hid (w974 275 86 = w 275 86) := Hid.mk (Eq.trans (q976.out.fld (by decide)) u968.out)
            have u987 : Hid (w974 275 88 = w894 275 88) := Hid.mk (Eq.trans (q976.out.fld (by decide)) u970.out)
            have u988 : Hid (w974 275 94 = w 275 94) := Hid.mk (Eq.trans (q976.out.fld (by decide)) u971.out)
            have f989 : e_fr (mStm (w 275 78) (w 275 79) (w 275 80) (w 275 94)) w w974 := e_fr.trans f959 (q976.out.st (by omega))
            have c990 := cSt.em c972 q976.out (by decide) (by omega) (by omega)
            show e_Ok 20 elay ecode eI (d + 1) 351 (100, [(4, (0, w 275 78 + 1)), (3, (0, w 275 78)), (2, (0, w 275 82)), (1, (0, w 275 80)), (0, (1, 275))], [(0, w 275 78 + 2)], w974) _
            refine e_Ok.run (t' := (104, [(4, (0, w 275 78 + 1)), (3, (0, w 275 78)), (2, (0, w 275 82)), (1, (0, w 275 80)), (0, (1, 275))], [(0, w 275 78 + 1), (1, 275)], w974)) 3 rfl ?_
            refine e_Ok.callV rfl (Nat.le_trans (by decide) hdq) rfl rfl rfl rfl (c_337 c990.1 (n := w 275 78 + 3) u977.out (by omega) (by omega)) (fun r991 w992 h993 => ?_)
            obtain ⟨rfl, q994⟩ := h993
            have f995 : e_fr (mStm (w 275 78) (w 275 79) (w 275 80) (w 275 94)) w w992 := e_fr.up f989 q994 (by unfold mStm; omega)
            have u996 : Hid (w992 275 78 = w 275 78 + 3) := Hid.mk (Eq.trans (by rw [← q994]; exact e_up_ne _ _ (Or.inl (by decide))) u977.out)
            have u997 : Hid (w992 275 79 = w 275 79) := Hid.mk (Eq.trans (by rw [← q994]; exact e_up_ne _ _ (Or.inl (by decide))) u978.out)
            have u998 : Hid (w992 275 80 = w 275 80 + 1) := Hid.mk (Eq.trans (by rw [← q994]; exact e_up_ne _ _ (Or.inl (by decide))) u979.out)
            have u999 : Hid (w992 275 81 = w 275 81) := Hid.mk (Eq.trans (by rw [← q994]; exact e_up_ne _ _ (Or.inl (by decide))) u980.out)
            have u1000 : Hid (w992 275 82 = w 275 82) := Hid.mk (Eq.trans (by rw [← q994]; exact e_up_ne _ _ (Or.inl (by decide))) u981.out)
            have u1001 : Hid (w992 275 83 = w 275 83 + 1) := Hid.mk (Eq.trans (by rw [← q994]; exact e_up_ne _ _ (Or.inl (by decide))) u982.out)
            have u1002 : Hid (w992 275 84 = w 275 84) := Hid.mk (Eq.trans (by rw [← q994]; exact e_up_ne _ _ (Or.inl (by decide))) u983.out)
            have u1003 : Hid (w992 275 85 = w 275 85) := Hid.mk (Eq.trans (by rw [← q994]; exact e_up_ne _ _ (Or.inl (by decide))) u984.out)
            have u1004 : Hid (w992 275 86 = w 275 86) := Hid.mk (Eq.trans (by rw [← q994]; exact e_up_ne _ _ (Or.inl (by decide))) u985.out)
            have u1006 : Hid (w992 275 88 = w894 275 88) := Hid.mk (Eq.trans (by rw [← q994]; exact e_up_ne _ _ (Or.inl (by decide))) u987.out)
            have u1007 : Hid (w992 275 94 = w 275 94) := Hid.mk (Eq.trans (by rw [← q994]; exact e_up_ne _ _ (Or.inl (by decide))) u988.out)
            have c1008 := cSt.wr c990 q994 (Or.inl rfl) (by omega) rfl (fun y => absurd y (by decide))
            show e_Ok 20 elay ecode eI (d + 1) 351 (107, [(4, (0, w 275 78 + 1)), (3, (0, w 275 78)), (2, (0, w 275 82)), (1, (0, w 275 80)), (0, (1, 275))], [], w992) _
            refine e_Ok.run (t' := (108, [(4, (0, w 275 78 + 1)), (3, (0, w 275 78)), (2, (0, w 275 82)), (1, (0, w 275 80)), (0, (1, 275))], [(1, 275)], w992)) 1 rfl ?_
            refine e_Ok.getr (z := 336) rfl (el_o rfl) rfl rfl ((f995 275 73 (by unfold mStm; omega)).trans (e_Has.eq hc.1 rfl)) (by omega) ?_
            refine e_Ok.run (t' := (115, [(4, (0, w 275 78 + 1)), (3, (0, w 275 78)), (2, (0, w 275 82)), (1, (0, w 275 80)), (0, (1, 275))], [(0, w 275 80), (0, 3600), (1, 336)], w992)) 2 rfl ?_
            refine e_Ok.add (z := w 275 80 + 3600) rfl (by omega) (by omega) ?_
            refine e_Ok.run (t' := (117, [(4, (0, w 275 78 + 1)), (3, (0, w 275 78)), (2, (0, w 275 82)), (1, (0, w 275 80)), (0, (1, 275))], [(1, 275), (0, w 275 80 + 3600), (1, 336)], w992)) 1 rfl ?_
            refine e_Ok.getf (z := w 275 78 + 3) rfl (el_o rfl) rfl rfl u996.out (by omega) ?_
            refine e_Ok.ast rfl (el_o rfl) rfl rfl (by omega) ?_
            generalize hw1009 : e_up w992 336 (w 275 80 + 3600) (w 275 78 + 3) = w1009
            have f1010 : e_fr (mStm (w 275 78) (w 275 79) (w 275 80) (w 275 94)) w w1009 := e_fr.up f995 hw1009 (by unfold mStm; omega)
            have u1011 : Hid (w1009 275 78 = w 275 78 + 3) := Hid.mk (Eq.trans (by rw [← hw1009]; exact e_up_ne _ _ (Or.inl (by decide))) u996.out)
            have u1012 : Hid (w1009 275 79 = w 275 79) := Hid.mk (Eq.trans (by rw [← hw1009]; exact e_up_ne _ _ (Or.inl (by decide))) u997.out)
            have u1013 : Hid (w1009 275 80 = w 275 80 + 1) := Hid.mk (Eq.trans (by rw [← hw1009]; exact e_up_ne _ _ (Or.inl (by decide))) u998.out)
            have u1014 : Hid (w1009 275 81 = w 275 81) := Hid.mk (Eq.trans (by rw [← hw1009]; exact e_up_ne _ _ (Or.inl (by decide))) u999.out)
            have u1015 : Hid (w1009 275 82 = w 275 82) := Hid.mk (Eq.trans (by rw [← hw1009]; exact e_up_ne _ _ (Or.inl (by decide))) u1000.out)
            have u1016 : Hid (w1009 275 83 = w 275 83 + 1) := Hid.mk (Eq.trans (by rw [← hw1009]; exact e_up_ne _ _ (Or.inl (by decide))) u1001.out)
            have u1017 : Hid (w1009 275 84 = w 275 84) := Hid.mk (Eq.trans (by rw [← hw1009]; exact e_up_ne _ _ (Or.inl (by decide))) u1002.out)
            have u1018 : Hid (w1009 275 85 = w 275 85) := Hid.mk (Eq.trans (by rw [← hw1009]; exact e_up_ne _ _ (Or.inl (by decide))) u1003.out)
            have u1019 : Hid (w1009 275 86 = w 275 86) := Hid.mk (Eq.trans (by rw [← hw1009]; exact e_up_ne _ _ (Or.inl (by decide))) u1004.out)
            have u1021 : Hid (w1009 275 88 = w894 275 88) := Hid.mk (Eq.trans (by rw [← hw1009]; exact e_up_ne _ _ (Or.inl (by decide))) u1006.out)
            have u1022 : Hid (w1009 275 94 = w 275 94) := Hid.mk (Eq.trans (by rw [← hw1009]; exact e_up_ne _ _ (Or.inl (by decide))) u1007.out)
            have c1023 := cSt.wr c1008 hw1009 (Or.inl rfl) (by omega) rfl (fun y => absurd y (by decide))
            refine e_Ok.run (t' := (124, [(4, (0, w 275 78 + 1)), (3, (0, w 275 78)), (2, (0, w 275 82)), (1, (0, w 275 80)), (0, (1, 275))], [(0, 2), (1, 275), (1, 275)], w1009)) 3 rfl ?_
            refine e_Ok.callV rfl (Nat.le_trans (by decide) hdq) rfl rfl rfl rfl (c_332 c1023.1 (N := N) c1023.2.2.2.1) (fun r1024 w1025 h1026 => ?_)
            obtain ⟨z1027, rfl, rfl, q1028⟩ := h1026
            obtain ⟨rfl, q1028, q1028b⟩ | ⟨rfl, q1028n⟩ := q1028
            · show e_Ok 20 elay ecode eI (d + 1) 351 (127, [(4, (0, w 275 78 + 1)), (3, (0, w 275 78)), (2, (0, w 275 82)), (1, (0, w 275 80)), (0, (1, 275))], [(0, 1), (1, 275)], w1009) _
              rw [u1017.out] at q1028
              rw [u1018.out] at q1028b
              refine e_Ok.callV rfl (Nat.le_trans (by decide) hdq) rfl rfl rfl rfl (c_334 (Nat.le_trans (by decide) hdq) c1023.1 c1023.2.1 c1023.2.2.1 hNr c1023.2.2.2.1 (by decide)) (fun r1029 w1030 h1031 => ?_)
              obtain ⟨rfl, q1032⟩ := h1031
              obtain ⟨rfl, q1032z⟩ | ⟨q1032z, q1032b, q1032, q1032s, q1032t⟩ | ⟨q1032z, q1032b, q1032, q1032T, q1032H, q1032r⟩ := q1032
              · show e_Ok 20 elay ecode eI (d + 1) 351 (130, [(4, (0, w 275 78 + 1)), (3, (0, w 275 78)), (2, (0, w 275 82)), (1, (0, w 275 80)), (0, (1, 275))], [], w1009) _
                rw [u1021.out] at q1032z
                refine e_Ok.run (t' := (132, [(4, (0, w 275 78 + 1)), (3, (0, w 275 78)), (2, (0, w 275 82)), (1, (0, w 275 80)), (0, (1, 275))], [(1, 275), (1, 275)], w1009)) 2 rfl ?_
                refine e_Ok.getf (z := w 275 83 + 1) rfl (el_o rfl) rfl rfl u1016.out (by omega) ?_
                refine e_Ok.run (t' := (136, [(4, (0, w 275 78 + 1)), (3, (0, w 275 78)), (2, (0, w 275 82)), (1, (0, w 275 80)), (0, (1, 275))], [(0, 1), (0, w 275 83 + 1), (1, 275)], w1009)) 1 rfl ?_
                refine e_Ok.sub' (z := w 275 83) rfl (by omega) (by omega) ?_
                refine e_Ok.putf rfl (el_o rfl) rfl rfl ?_
                generalize hw1033 : e_up w1009 275 83 (w 275 83) = w1033
                have f1034 : e_fr (mStm (w 275 78) (w 275 79) (w 275 80) (w 275 94)) w w1033 := e_fr.up f1010 hw1033 (by unfold mStm; omega)
                have e1035 := up83 hw1033
                replace e1035 := (show Hid _ from e1035)
                have u1036 : Hid (w1033 275 78 = w 275 78 + 3) := Hid.mk (Eq.trans (e1035.out.1 275 78 (by decide)) u1011.out)
                have u1037 : Hid (w1033 275 79 = w 275 79) := Hid.mk (Eq.trans (e1035.out.1 275 79 (by decide)) u1012.out)
                have u1038 : Hid (w1033 275 80 = w 275 80 + 1) := Hid.mk (Eq.trans (e1035.out.1 275 80 (by decide)) u1013.out)
                have u1039 : Hid (w1033 275 81 = w 275 81) := Hid.mk (Eq.trans (e1035.out.1 275 81 (by decide)) u1014.out)
                have u1040 : Hid (w1033 275 82 = w 275 82) := Hid.mk (Eq.trans (e1035.out.1 275 82 (by decide)) u1015.out)
                have u1041 : Hid (w1033 275 83 = w 275 83) := Hid.mk (e1035.out.2)
                have u1044 : Hid (w1033 275 86 = w 275 86) := Hid.mk (Eq.trans (e1035.out.1 275 86 (by decide)) u1019.out)
                have u1046 : Hid (w1033 275 88 = w894 275 88) := Hid.mk (Eq.trans (e1035.out.1 275 88 (by decide)) u1021.out)
                have u1047 : Hid (w1033 275 94 = w 275 94) := Hid.mk (Eq.trans (e1035.out.1 275 94 (by decide)) u1022.out)
                have c1048 := cSt.up c1023 hw1033
                refine e_Ok.rets rfl rfl ?_
                exact ⟨rfl, f1034, c1048, (by unfold stL; rw [u1036.out, u1037.out, u1038.out, u1039.out, u1040.out, u1041.out, u1044.out, u1046.out, u1047.out]; omega), (fun z => by rw [u1046.out] at z; exact absurd z (by omega))⟩
              · rw [u1021.out] at q1032z; exact absurd q1032z (by omega)
              · rw [u1021.out] at q1032z; exact absurd q1032z (by omega)
            · show e_Ok 20 elay ecode eI (d + 1) 351 (127, [(4, (0, w 275 78 + 1)), (3, (0, w 275 78)), (2, (0, w 275 82)), (1, (0, w 275 80)), (0, (1, 275))], [(0, 0), (1, 275)], w1009) _
              clear q1028n
              refine e_Ok.callV rfl (Nat.le_trans (by decide) hdq) rfl rfl rfl rfl (c_334 (Nat.le_trans (by decide) hdq) c1023.1 c1023.2.1 c1023.2.2.1 hNr c1023.2.2.2.1 (by decide)) (fun r1049 w1050 h1051 => ?_)
              obtain ⟨rfl, q1052⟩ := h1051
              obtain ⟨rfl, q1052z⟩ | ⟨q1052z, q1052b, q1052, q1052s, q1052t⟩ | ⟨q1052z, q1052b, q1052, q1052T, q1052H, q1052r⟩ := q1052
              · show e_Ok 20 elay ecode eI (d + 1) 351 (130, [(4, (0, w 275 78 + 1)), (3, (0, w 275 78)), (2, (0, w 275 82)), (1, (0, w 275 80)), (0, (1, 275))], [], w1009) _
                rw [u1021.out] at q1052z
                refine e_Ok.run (t' := (132, [(4, (0, w 275 78 + 1)), (3, (0, w 275 78)), (2, (0, w 275 82)), (1, (0, w 275 80)), (0, (1, 275))], [(1, 275), (1, 275)], w1009)) 2 rfl ?_
                refine e_Ok.getf (z := w 275 83 + 1) rfl (el_o rfl) rfl rfl u1016.out (by omega) ?_
                refine e_Ok.run (t' := (136, [(4, (0, w 275 78 + 1)), (3, (0, w 275 78)), (2, (0, w 275 82)), (1, (0, w 275 80)), (0, (1, 275))], [(0, 1), (0, w 275 83 + 1), (1, 275)], w1009)) 1 rfl ?_
                refine e_Ok.sub' (z := w 275 83) rfl (by omega) (by omega) ?_
                refine e_Ok.putf rfl (el_o rfl) rfl rfl ?_
                generalize hw1053 : e_up w1009 275 83 (w 275 83) = w1053
                have f1054 : e_fr (mStm (w 275 78) (w 275 79) (w 275 80) (w 275 94)) w w1053 := e_fr.up f1010 hw1053 (by unfold mStm; omega)
                have e1055 := up83 hw1053
                replace e1055 := (show Hid _ from e1055)
                have u1056 : Hid (w1053 275 78 = w 275 78 + 3) := Hid.mk (Eq.trans (e1055.out.1 275 78 (by decide)) u1011.out)
                have u1057 : Hid (w1053 275 79 = w 275 79) := Hid.mk (Eq.trans (e1055.out.1 275 79 (by decide)) u1012.out)
                have u1058 : Hid (w1053 275 80 = w 275 80 + 1) := Hid.mk (Eq.trans (e1055.out.1 275 80 (by decide)) u1013.out)
                have u1059 : Hid (w1053 275 81 = w 275 81) := Hid.mk (Eq.trans (e1055.out.1 275 81 (by decide)) u1014.out)
                have u1060 : Hid (w1053 275 82 = w 275 82) := Hid.mk (Eq.trans (e1055.out.1 275 82 (by decide)) u1015.out)
                have u1061 : Hid (w1053 275 83 = w 275 83) := Hid.mk (e1055.out.2)
                have u1064 : Hid (w1053 275 86 = w 275 86) := Hid.mk (Eq.trans (e1055.out.1 275 86 (by decide)) u1019.out)
                have u1066 : Hid (w1053 275 88 = w894 275 88) := Hid.mk (Eq.trans (e1055.out.1 275 88 (by decide)) u1021.out)
                have u1067 : Hid (w1053 275 94 = w 275 94) := Hid.mk (Eq.trans (e1055.out.1 275 94 (by decide)) u1022.out)
                have c1068 := cSt.up c1023 hw1053
                refine e_Ok.rets rfl rfl ?_
                exact ⟨rfl, f1054, c1068, (by unfold stL; rw [u1056.out, u1057.out, u1058.out, u1059.out, u1060.out, u1061.out, u1064.out, u1066.out, u1067.out]; omega), (fun z => by rw [u1066.out] at z; exact absurd z (by omega))⟩
              · rw [u1021.out] at q1052z; exact absurd q1052z (by omega)
              · rw [u1021.out] at q1052z; exact absurd q1052z (by omega)
          · exact absurd q921z (by omega)
          · exact absurd q921z (by omega)
        · show e_Ok 20 elay ecode eI (d + 1) 351 (67, [(3, (0, w 275 78)), (2, (0, w 275 82)), (1, (0, w 275 80)), (0, (1, 275))], [(0, 0), (1, 275)], w894) _
          clear q917n
          refine e_Ok.callV rfl (Nat.le_trans (by decide) hdq) rfl rfl rfl rfl (c_334 (Nat.le_trans (by decide) hdq) c908.1 c908.2.1 c908.2.2.1 hNr c908.2.2.2.1 (by decide)) (fun r1069 w1070 h1071 => ?_)
          obtain ⟨rfl, q1072⟩ := h1071
          obtain ⟨rfl, q1072z⟩ | ⟨q1072z, q1072b, q1072, q1072s, q1072t⟩ | ⟨q1072z, q1072b, q1072, q1072T, q1072H, q1072r⟩ := q1072
          · show e_Ok 20 elay ecode eI (d + 1) 351 (70, [(3, (0, w 275 78)), (2, (0, w 275 82)), (1, (0, w 275 80)), (0, (1, 275))], [], w894) _
            refine e_Ok.run (t' := (74, [(3, (0, w 275 78)), (2, (0, w 275 82)), (1, (0, w 275 80)), (0, (1, 275))], [(0, 0), (0, 47), (1, 275)], w894)) 3 rfl ?_
            refine e_Ok.callV rfl (Nat.le_trans (by decide) hdq) rfl rfl rfl rfl (c_336 c908.1 (n := w 275 78 + 1) u897.out (by omega) (s := w 275 81) u900.out (by omega)) (fun r1073 w1074 h1075 => ?_)
            obtain ⟨rfl, q1076⟩ := h1075
            replace q1076 := (show Hid (EM w894 w1074 (w 275 78 + 1) 47 (0) (w 275 81)) from q1076)
            have u1077 : Hid (w1074 275 78 = w 275 78 + 2) := Hid.mk (Eq.trans q1076.out.2.2.2.2 (by omega))
            have u1078 : Hid (w1074 275 79 = w 275 79) := Hid.mk (Eq.trans (q1076.out.fld (by decide)) u898.out)
            have u1079 : Hid (w1074 275 80 = w 275 80 + 1) := Hid.mk (Eq.trans (q1076.out.fld (by decide)) u899.out)
            have u1080 : Hid (w1074 275 81 = w 275 81) := Hid.mk (Eq.trans (q1076.out.fld (by decide)) u900.out)
            have u1082 : Hid (w1074 275 83 = w 275 83 + 1) := Hid.mk (Eq.trans (q1076.out.fld (by decide)) u902.out)
            have u1083 : Hid (w1074 275 84 = w 275 84) := Hid.mk (Eq.trans (q1076.out.fld (by decide)) u903.out)
            have u1084 : Hid (w1074 275 85 = w 275 85) := Hid.mk (Eq.trans (q1076.out.fld (by decide)) u904.out)
            have u1085 : Hid (w1074 275 86 = w 275 86) := Hid.mk (Eq.trans (q1076.out.fld (by decide)) u905.out)
            have u1087 : Hid (w1074 275 88 = w894 275 88) := Hid.mk (q1076.out.fld (by decide))
            have u1088 : Hid (w1074 275 94 = w 275 94) := Hid.mk (Eq.trans (q1076.out.fld (by decide)) u907.out)
            have f1089 : e_fr (mStm (w 275 78) (w 275 79) (w 275 80) (w 275 94)) w w1074 := e_fr.trans f909 (q1076.out.st (by omega))
            have c1090 := cSt.em c908 q1076.out (by decide) (by omega) (by omega)
            show e_Ok 20 elay ecode eI (d + 1) 351 (77, [(3, (0, w 275 78)), (2, (0, w 275 82)), (1, (0, w 275 80)), (0, (1, 275))], [(0, w 275 78 + 1)], w1074) _
            refine e_Ok.run (t' := (81, [(4, (0, w 275 78 + 1)), (3, (0, w 275 78)), (2, (0, w 275 82)), (1, (0, w 275 80)), (0, (1, 275))], [(0, w 275 80), (1, 275)], w1074)) 3 rfl ?_
            refine e_Ok.putf rfl (el_o rfl) rfl rfl ?_
            generalize hw1091 : e_up w1074 275 82 (w 275 80) = w1091
            have f1092 : e_fr (mStm (w 275 78) (w 275 79) (w 275 80) (w 275 94)) w w1091 := e_fr.up f1089 hw1091 (by unfold mStm; omega)
            have u1093 : Hid (w1091 275 78 = w 275 78 + 2) := Hid.mk (Eq.trans (by rw [← hw1091]; exact e_up_ne _ _ (Or.inr (by decide))) u1077.out)
            have u1094 : Hid (w1091 275 79 = w 275 79) := Hid.mk (Eq.trans (by rw [← hw1091]; exact e_up_ne _ _ (Or.inr (by decide))) u1078.out)
            have u1095 : Hid (w1091 275 80 = w 275 80 + 1) := Hid.mk (Eq.trans (by rw [← hw1091]; exact e_up_ne _ _ (Or.inr (by decide))) u1079.out)
            have u1096 : Hid (w1091 275 81 = w 275 81) := Hid.mk (Eq.trans (by rw [← hw1091]; exact e_up_ne _ _ (Or.inr (by decide))) u1080.out)
            have u1098 : Hid (w1091 275 83 = w 275 83 + 1) := Hid.mk (Eq.trans (by rw [← hw1091]; exact e_up_ne _ _ (Or.inr (by decide))) u1082.out)
            have u1099 : Hid (w1091 275 84 = w 275 84) := Hid.mk (Eq.trans (by rw [← hw1091]; exact e_up_ne _ _ (Or.inr (by decide))) u1083.out)
            have u1100 : Hid (w1091 275 85 = w 275 85) := Hid.mk (Eq.trans (by rw [← hw1091]; exact e_up_ne _ _ (Or.inr (by decide))) u1084.out)
            have u1101 : Hid (w1091 275 86 = w 275 86) := Hid.mk (Eq.trans (by rw [← hw1091]; exact e_up_ne _ _ (Or.inr (by decide))) u1085.out)
            have u1103 : Hid (w1091 275 88 = w894 275 88) := Hid.mk (Eq.trans (by rw [← hw1091]; exact e_up_ne _ _ (Or.inr (by decide))) u1087.out)
            have u1104 : Hid (w1091 275 94 = w 275 94) := Hid.mk (Eq.trans (by rw [← hw1091]; exact e_up_ne _ _ (Or.inr (by decide))) u1088.out)
            have c1105 := cSt.wr c1090 hw1091 (Or.inr rfl) (by omega) rfl (fun _ => ⟨⟨by decide, by decide⟩, fun y => absurd y (by decide)⟩)
            refine e_Ok.run (t' := (85, [(4, (0, w 275 78 + 1)), (3, (0, w 275 78)), (2, (0, w 275 82)), (1, (0, w 275 80)), (0, (1, 275))], [(1, 275)], w1091)) 1 rfl ?_
            refine e_Ok.callV rfl (Nat.le_trans (by decide) hdq) rfl rfl rfl rfl (c_348_0 (Nat.le_trans (by decide) hdq) c1105 (by rw [u1103.out] <;> omega)) (fun r1106 w1107 h1108 => ?_)
            obtain ⟨rfl, rfl⟩ := h1108
            show e_Ok 20 elay ecode eI (d + 1) 351 (88, [(4, (0, w 275 78 + 1)), (3, (0, w 275 78)), (2, (0, w 275 82)), (1, (0, w 275 80)), (0, (1, 275))], [], w1091) _
            refine e_Ok.run (t' := (90, [(4, (0, w 275 78 + 1)), (3, (0, w 275 78)), (2, (0, w 275 82)), (1, (0, w 275 80)), (0, (1, 275))], [(0, w 275 82), (1, 275)], w1091)) 2 rfl ?_
            refine e_Ok.putf rfl (el_o rfl) rfl rfl ?_
            generalize hw1109 : e_up w1091 275 82 (w 275 82) = w1109
            have f1110 : e_fr (mStm (w 275 78) (w 275 79) (w 275 80) (w 275 94)) w w1109 := e_fr.up f1092 hw1109 (by unfold mStm; omega)
            have u1111 : Hid (w1109 275 78 = w 275 78 + 2) := Hid.mk (Eq.trans (by rw [← hw1109]; exact e_up_ne _ _ (Or.inr (by decide))) u1093.out)
            have u1112 : Hid (w1109 275 79 = w 275 79) := Hid.mk (Eq.trans (by rw [← hw1109]; exact e_up_ne _ _ (Or.inr (by decide))) u1094.out)
            have u1113 : Hid (w1109 275 80 = w 275 80 + 1) := Hid.mk (Eq.trans (by rw [← hw1109]; exact e_up_ne _ _ (Or.inr (by decide))) u1095.out)
            have u1114 : Hid (w1109 275 81 = w 275 81) := Hid.mk (Eq.trans (by rw [← hw1109]; exact e_up_ne _ _ (Or.inr (by decide))) u1096.out)
            have u1115 : Hid (w1109 275 82 = w 275 82) := Hid.mk (by rw [← hw1109]; exact e_up_eq _ _ _ _)
            have u1116 : Hid (w1109 275 83 = w 275 83 + 1) := Hid.mk (Eq.trans (by rw [← hw1109]; exact e_up_ne _ _ (Or.inr (by decide))) u1098.out)
            have u1117 : Hid (w1109 275 84 = w 275 84) := Hid.mk (Eq.trans (by rw [← hw1109]; exact e_up_ne _ _ (Or.inr (by decide))) u1099.out)
            have u1118 : Hid (w1109 275 85 = w 275 85) := Hid.mk (Eq.trans (by rw [← hw1109]; exact e_up_ne _ _ (Or.inr (by decide))) u1100.out)
            have u1119 : Hid (w1109 275 86 = w 275 86) := Hid.mk (Eq.trans (by rw [← hw1109]; exact e_up_ne _ _ (Or.inr (by decide))) u1101.out)
            have u1121 : Hid (w1109 275 88 = w894 275 88) := Hid.mk (Eq.trans (by rw [← hw1109]; exact e_up_ne _ _ (Or.inr (by decide))) u1103.out)
            have u1122 : Hid (w1109 275 94 = w 275 94) := Hid.mk (Eq.trans (by rw [← hw1109]; exact e_up_ne _ _ (Or.inr (by decide))) u1104.out)
            have c1123 := cSt.wr c1105 hw1109 (Or.inr rfl) (by omega) rfl (fun _ => ⟨⟨by decide, by decide⟩, fun y => absurd y (by decide)⟩)
            refine e_Ok.run (t' := (97, [(4, (0, w 275 78 + 1)), (3, (0, w 275 78)), (2, (0, w 275 82)), (1, (0, w 275 80)), (0, (1, 275))], [(0, w 275 78), (0, 48), (1, 275)], w1109)) 3 rfl ?_
            refine e_Ok.callV rfl (Nat.le_trans (by decide) hdq) rfl rfl rfl rfl (c_336 c1123.1 (n := w 275 78 + 2) u1111.out (by omega) (s := w 275 81) u1114.out (by omega)) (fun r1124 w1125 h1126 => ?_)
            obtain ⟨rfl, q1127⟩ := h1126
            replace q1127 := (show Hid (EM w1109 w1125 (w 275 78 + 2) 48 (w 275 78) (w 275 81)) from q1127)
            have u1128 : Hid (w1125 275 78 = w 275 78 + 3) := Hid.mk (Eq.trans q1127.out.2.2.2.2 (by omega))
            have u1129 : Hid (w1125 275 79 = w 275 79) := Hid.mk (Eq.trans (q1127.out.fld (by decide)) u1112.out)
            have u1130 : Hid (w1125 275 80 = w 275 80 + 1) := Hid.mk (Eq.trans (q1127.out.fld (by decide)) u1113.out)
            have u1131 : Hid (w1125 275 81 = w 275 81) := Hid.mk (Eq.trans (q1127.out.fld (by decide)) u1114.out)
            have u1132 : Hid (w1125 275 82 = w 275 82) := Hid.mk (Eq.trans (q1127.out.fld (by decide)) u1115.out)
            have u1133 : Hid (w1125 275 83 = w 275 83 + 1) := Hid.mk (Eq.trans (q1127.out.fld (by decide)) u1116.out)
            have u1134 : Hid (w1125 275 84 = w 275 84) := Hid.mk (Eq.trans (q1127.out.fld (by decide)) u1117.out)
            have u1135 : Hid (w1125 275 85 = w 275 85) := Hid.mk (Eq.trans (q1127.out.fld (by decide)) u1118.out)
            have u1136 : Hid (w1125 275 86 = w 275 86) := Hid.mk (Eq.trans (q1127.out.fld (by decide)) u1119.out)
            have u1138 : Hid (w1125 275 88 = w894 275 88) := Hid.mk (Eq.trans (q1127.out.fld (by decide)) u1121.out)
            have u1139 : Hid (w1125 275 94 = w 275 94) := Hid.mk (Eq.trans (q1127.out.fld (by decide)) u1122.out)
            have f1140 : e_fr (mStm (w 275 78) (w 275 79) (w 275 80) (w 275 94)) w w1125 := e_fr.trans f1110 (q1127.out.st (by omega))
            have c1141 := cSt.em c1123 q1127.out (by decide) (by omega) (by omega)
            show e_Ok 20 elay ecode eI (d + 1) 351 (100, [(4, (0, w 275 78 + 1)), (3, (0, w 275 78)), (2, (0, w 275 82)), (1, (0, w 275 80)), (0, (1, 275))], [(0, w 275 78 + 2)], w1125) _
            refine e_Ok.run (t' := (104, [(4, (0, w 275 78 + 1)), (3, (0, w 275 78)), (2, (0, w 275 82)), (1, (0, w 275 80)), (0, (1, 275))], [(0, w 275 78 + 1), (1, 275)], w1125)) 3 rfl ?_
            refine e_Ok.callV rfl (Nat.le_trans (by decide) hdq) rfl rfl rfl rfl (c_337 c1141.1 (n := w 275 78 + 3) u1128.out (by omega) (by omega)) (fun r1142 w1143 h1144 => ?_)
            obtain ⟨rfl, q1145⟩ := h1144
            have f1146 : e_fr (mStm (w 275 78) (w 275 79) (w 275 80) (w 275 94)) w w1143 := e_fr.up f1140 q1145 (by unfold mStm; omega)
            have u1147 : Hid (w1143 275 78 = w 275 78 + 3) := Hid.mk (Eq.trans (by rw [← q1145]; exact e_up_ne _ _ (Or.inl (by decide))) u1128.out)
            have u1148 : Hid (w1143 275 79 = w 275 79) := Hid.mk (Eq.trans (by rw [← q1145]; exact e_up_ne _ _ (Or.inl (by decide))) u1129.out)
            have u1149 : Hid (w1143 275 80 = w 275 80 + 1) := Hid.mk (Eq.trans (by rw [← q1145]; exact e_up_ne _ _ (Or.inl (by decide))) u1130.out)
            have u1150 : Hid (w1143 275 81 = w 275 81) := Hid.mk (Eq.trans (by rw [← q1145]; exact e_up_ne _ _ (Or.inl (by decide))) u1131.out)
            have u1151 : Hid (w1143 275 82 = w 275 82) := Hid.mk (Eq.trans (by rw [← q1145]; exact e_up_ne _ _ (Or.inl (by decide))) u1132.out)
            have u1152 : Hid (w1143 275 83 = w 275 83 + 1) := Hid.mk (Eq.trans (by rw [← q1145]; exact e_up_ne _ _ (Or.inl (by decide))) u1133.out)
            have u1153 : Hid (w1143 275 84 = w 275 84) := Hid.mk (Eq.trans (by rw [← q1145]; exact e_up_ne _ _ (Or.inl (by decide))) u1134.out)
            have u1154 : Hid (w1143 275 85 = w 275 85) := Hid.mk (Eq.trans (by rw [← q1145]; exact e_up_ne _ _ (Or.inl (by decide))) u1135.out)
            have u1155 : Hid (w1143 275 86 = w 275 86) := Hid.mk (Eq.trans (by rw [← q1145]; exact e_up_ne _ _ (Or.inl (by decide))) u1136.out)
            have u1157 : Hid (w1143 275 88 = w894 275 88) := Hid.mk (Eq.trans (by rw [← q1145]; exact e_up_ne _ _ (Or.inl (by decide))) u1138.out)
            have u1158 : Hid (w1143 275 94 = w 275 94) := Hid.mk (Eq.trans (by rw [← q1145]; exact e_up_ne _ _ (Or.inl (by decide))) u1139.out)
            have c1159 := cSt.wr c1141 q1145 (Or.inl rfl) (by omega) rfl (fun y => absurd y (by decide))
            show e_Ok 20 elay ecode eI (d + 1) 351 (107, [(4, (0, w 275 78 + 1)), (3, (0, w 275 78)), (2, (0, w 275 82)), (1, (0, w 275 80)), (0, (1, 275))], [], w1143) _
            refine e_Ok.run (t' := (108, [(4, (0, w 275 78 + 1)), (3, (0, w 275 78)), (2, (0, w 275 82)), (1, (0, w 275 80)), (0, (1, 275))], [(1, 275)], w1143)) 1 rfl ?_
            refine e_Ok.getr (z := 336) rfl (el_o rfl) rfl rfl ((f1146 275 73 (by unfold mStm; omega)).trans (e_Has.eq hc.1 rfl)) (by omega) ?_
            refine e_Ok.run (t' := (115, [(4, (0, w 275 78 + 1)), (3, (0, w 275 78)), (2, (0, w 275 82)), (1, (0, w 275 80)), (0, (1, 275))], [(0, w 275 80), (0, 3600), (1, 336)], w1143)) 2 rfl ?_
            refine e_Ok.add (z := w 275 80 + 3600) rfl (by omega) (by omega) ?_
            refine e_Ok.run (t' := (117, [(4, (0, w 275 78 + 1)), (3, (0, w 275 78)), (2, (0, w 275 82)), (1, (0, w 275 80)), (0, (1, 275))], [(1, 275), (0, w 275 80 + 3600), (1, 336)], w1143)) 1 rfl ?_
            refine e_Ok.getf (z := w 275 78 + 3) rfl (el_o rfl) rfl rfl u1147.out (by omega) ?_
            refine e_Ok.ast rfl (el_o rfl) rfl rfl (by omega) ?_
            generalize hw1160 : e_up w1143 336 (w 275 80 + 3600) (w 275 78 + 3) = w1160
            have f1161 : e_fr (mStm (w 275 78) (w 275 79) (w 275 80) (w 275 94)) w w1160 := e_fr.up f1146 hw1160 (by unfold mStm; omega)
            have u1162 : Hid (w1160 275 78 = w 275 78 + 3) := Hid.mk (Eq.trans (by rw [← hw1160]; exact e_up_ne _ _ (Or.inl (by decide))) u1147.out)
            have u1163 : Hid (w1160 275 79 = w 275 79) := Hid.mk (Eq.trans (by rw [← hw1160]; exact e_up_ne _ _ (Or.inl (by decide))) u1148.out)
            have u1164 : Hid (w1160 275 80 = w 275 80 + 1) := Hid.mk (Eq.trans (by rw [← hw1160]; exact e_up_ne _ _ (Or.inl (by decide))) u1149.out)
            have u1165 : Hid (w1160 275 81 = w 275 81) := Hid.mk (Eq.trans (by rw [← hw1160]; exact e_up_ne _ _ (Or.inl (by decide))) u1150.out)
            have u1166 : Hid (w1160 275 82 = w 275 82) := Hid.mk (Eq.trans (by rw [← hw1160]; exact e_up_ne _ _ (Or.inl (by decide))) u1151.out)
            have u1167 : Hid (w1160 275 83 = w 275 83 + 1) := Hid.mk (Eq.trans (by rw [← hw1160]; exact e_up_ne _ _ (Or.inl (by decide))) u1152.out)
            have u1168 : Hid (w1160 275 84 = w 275 84) := Hid.mk (Eq.trans (by rw [← hw1160]; exact e_up_ne _ _ (Or.inl (by decide))) u1153.out)
            have u1169 : Hid (w1160 275 85 = w 275 85) := Hid.mk (Eq.trans (by rw [← hw1160]; exact e_up_ne _ _ (Or.inl (by decide))) u1154.out)
            have u1170 : Hid (w1160 275 86 = w 275 86) := Hid.mk (Eq.trans (by rw [← hw1160]; exact e_up_ne _ _ (Or.inl (by decide))) u1155.out)
            have u1172 : Hid (w1160 275 88 = w894 275 88) := Hid.mk (Eq.trans (by rw [← hw1160]; exact e_up_ne _ _ (Or.inl (by decide))) u1157.out)
            have u1173 : Hid (w1160 275 94 = w 275 94) := Hid.mk (Eq.trans (by rw [← hw1160]; exact e_up_ne _ _ (Or.inl (by decide))) u1158.out)
            have c1174 := cSt.wr c1159 hw1160 (Or.inl rfl) (by omega) rfl (fun y => absurd y (by decide))
            refine e_Ok.run (t' := (124, [(4, (0, w 275 78 + 1)), (3, (0, w 275 78)), (2, (0, w 275 82)), (1, (0, w 275 80)), (0, (1, 275))], [(0, 2), (1, 275), (1, 275)], w1160)) 3 rfl ?_
            refine e_Ok.callV rfl (Nat.le_trans (by decide) hdq) rfl rfl rfl rfl (c_332 c1174.1 (N := N) c1174.2.2.2.1) (fun r1175 w1176 h1177 => ?_)
            obtain ⟨z1178, rfl, rfl, q1179⟩ := h1177
            obtain ⟨rfl, q1179, q1179b⟩ | ⟨rfl, q1179n⟩ := q1179
            · show e_Ok 20 elay ecode eI (d + 1) 351 (127, [(4, (0, w 275 78 + 1)), (3, (0, w 275 78)), (2, (0, w 275 82)), (1, (0, w 275 80)), (0, (1, 275))], [(0, 1), (1, 275)], w1160) _
              rw [u1168.out] at q1179
              rw [u1169.out] at q1179b
              refine e_Ok.callV rfl (Nat.le_trans (by decide) hdq) rfl rfl rfl rfl (c_334 (Nat.le_trans (by decide) hdq) c1174.1 c1174.2.1 c1174.2.2.1 hNr c1174.2.2.2.1 (by decide)) (fun r1180 w1181 h1182 => ?_)
              obtain ⟨rfl, q1183⟩ := h1182
              obtain ⟨rfl, q1183z⟩ | ⟨q1183z, q1183b, q1183, q1183s, q1183t⟩ | ⟨q1183z, q1183b, q1183, q1183T, q1183H, q1183r⟩ := q1183
              · show e_Ok 20 elay ecode eI (d + 1) 351 (130, [(4, (0, w 275 78 + 1)), (3, (0, w 275 78)), (2, (0, w 275 82)), (1, (0, w 275 80)), (0, (1, 275))], [], w1160) _
                rw [u1172.out] at q1183z
                refine e_Ok.run (t' := (132, [(4, (0, w 275 78 + 1)), (3, (0, w 275 78)), (2, (0, w 275 82)), (1, (0, w 275 80)), (0, (1, 275))], [(1, 275), (1, 275)], w1160)) 2 rfl ?_
                refine e_Ok.getf (z := w 275 83 + 1) rfl (el_o rfl) rfl rfl u1167.out (by omega) ?_
                refine e_Ok.run (t' := (136, [(4, (0, w 275 78 + 1)), (3, (0, w 275 78)), (2, (0, w 275 82)), (1, (0, w 275 80)), (0, (1, 275))], [(0, 1), (0, w 275 83 + 1), (1, 275)], w1160)) 1 rfl ?_
                refine e_Ok.sub' (z := w 275 83) rfl (by omega) (by omega) ?_
                refine e_Ok.putf rfl (el_o rfl) rfl rfl ?_
                generalize hw1184 : e_up w1160 275 83 (w 275 83) = w1184
                have f1185 : e_fr (mStm (w 275 78) (w 275 79) (w 275 80) (w 275 94)) w w1184 := e_fr.up f1161 hw1184 (by unfold mStm; omega)
                have e1186 := up83 hw1184
                replace e1186 := (show Hid _ from e1186)
                have u1187 : Hid (w1184 275 78 = w 275 78 + 3) := Hid.mk (Eq.trans (e1186.out.1 275 78 (by decide)) u1162.out)
                have u1188 : Hid (w1184 275 79 = w 275 79) := Hid.mk (Eq.trans (e1186.out.1 275 79 (by decide)) u1163.out)
                have u1189 : Hid (w1184 275 80 = w 275 80 + 1) := Hid.mk (Eq.trans (e1186.out.1 275 80 (by decide)) u1164.out)
                have u1190 : Hid (w1184 275 81 = w 275 81) := Hid.mk (Eq.trans (e1186.out.1 275 81 (by decide)) u1165.out)
                have u1191 : Hid (w1184 275 82 = w 275 82) := Hid.mk (Eq.trans (e1186.out.1 275 82 (by decide)) u1166.out)
                have u1192 : Hid (w1184 275 83 = w 275 83) := Hid.mk (e1186.out.2)
                have u1195 : Hid (w1184 275 86 = w 275 86) := Hid.mk (Eq.trans (e1186.out.1 275 86 (by decide)) u1170.out)
                have u1197 : Hid (w1184 275 88 = w894 275 88) := Hid.mk (Eq.trans (e1186.out.1 275 88 (by decide)) u1172.out)
                have u1198 : Hid (w1184 275 94 = w 275 94) := Hid.mk (Eq.trans (e1186.out.1 275 94 (by decide)) u1173.out)
                have c1199 := cSt.up c1174 hw1184
                refine e_Ok.rets rfl rfl ?_
                exact ⟨rfl, f1185, c1199, (by unfold stL; rw [u1187.out, u1188.out, u1189.out, u1190.out, u1191.out, u1192.out, u1195.out, u1197.out, u1198.out]; omega), (fun z => by rw [u1197.out] at z; exact absurd z (by omega))⟩
              · rw [u1172.out] at q1183z; exact absurd q1183z (by omega)
              · rw [u1172.out] at q1183z; exact absurd q1183z (by omega)
            · show e_Ok 20 elay ecode eI (d + 1) 351 (127, [(4, (0, w 275 78 + 1)), (3, (0, w 275 78)), (2, (0, w 275 82)), (1, (0, w 275 80)), (0, (1, 275))], [(0, 0), (1, 275)], w1160) _
              clear q1179n
              refine e_Ok.callV rfl (Nat.le_trans (by decide) hdq) rfl rfl rfl rfl (c_334 (Nat.le_trans (by decide) hdq) c1174.1 c1174.2.1 c1174.2.2.1 hNr c1174.2.2.2.1 (by decide)) (fun r1200 w1201 h1202 => ?_)
              obtain ⟨rfl, q1203⟩ := h1202
              obtain ⟨rfl, q1203z⟩ | ⟨q1203z, q1203b, q1203, q1203s, q1203t⟩ | ⟨q1203z, q1203b, q1203, q1203T, q1203H, q1203r⟩ := q1203
              · show e_Ok 20 elay ecode eI (d + 1) 351 (130, [(4, (0, w 275 78 + 1)), (3, (0, w 275 78)), (2, (0, w 275 82)), (1, (0, w 275 80)), (0, (1, 275))], [], w1160) _
                rw [u1172.out] at q1203z
                refine e_Ok.run (t' := (132, [(4, (0, w 275 78 + 1)), (3, (0, w 275 78)), (2, (0, w 275 82)), (1, (0, w 275 80)), (0, (1, 275))], [(1, 275), (1, 275)], w1160)) 2 rfl ?_
                refine e_Ok.getf (z := w 275 83 + 1) rfl (el_o rfl) rfl rfl u1167.out (by omega) ?_
                refine e_Ok.run (t' := (136, [(4, (0, w 275 78 + 1)), (3, (0, w 275 78)), (2, (0, w 275 82)), (1, (0, w 275 80)), (0, (1, 275))], [(0, 1), (0, w 275 83 + 1), (1, 275)], w1160)) 1 rfl ?_
                refine e_Ok.sub' (z := w 275 83) rfl (by omega) (by omega) ?_
                refine e_Ok.putf rfl (el_o rfl) rfl rfl ?_
                generalize hw1204 : e_up w1160 275 83 (w 275 83) = w1204
                have f1205 : e_fr (mStm (w 275 78) (w 275 79) (w 275 80) (w 275 94)) w w1204 := e_fr.up f1161 hw1204 (by unfold mStm; omega)
                have e1206 := up83 hw1204
                replace e1206 := (show Hid _ from e1206)
                have u1207 : Hid (w1204 275 78 = w 275 78 + 3) := Hid.mk (Eq.trans (e1206.out.1 275 78 (by decide)) u1162.out)
                have u1208 : Hid (w1204 275 79 = w 275 79) := Hid.mk (Eq.trans (e1206.out.1 275 79 (by decide)) u1163.out)
                have u1209 : Hid (w1204 275 80 = w 275 80 + 1) := Hid.mk (Eq.trans (e1206.out.1 275 80 (by decide)) u1164.out)
                have u1210 : Hid (w1204 275 81 = w 275 81) := Hid.mk (Eq.trans (e1206.out.1 275 81 (by decide)) u1165.out)
                have u1211 : Hid (w1204 275 82 = w 275 82) := Hid.mk (Eq.trans (e1206.out.1 275 82 (by decide)) u1166.out)
                have u1212 : Hid (w1204 275 83 = w 275 83) := Hid.mk (e1206.out.2)
                have u1215 : Hid (w1204 275 86 = w 275 86) := Hid.mk (Eq.trans (e1206.out.1 275 86 (by decide)) u1170.out)
                have u1217 : Hid (w1204 275 88 = w894 275 88) := Hid.mk (Eq.trans (e1206.out.1 275 88 (by decide)) u1172.out)
                have u1218 : Hid (w1204 275 94 = w 275 94) := Hid.mk (Eq.trans (e1206.out.1 275 94 (by decide)) u1173.out)
                have c1219 := cSt.up c1174 hw1204
                refine e_Ok.rets rfl rfl ?_
                exact ⟨rfl, f1205, c1219, (by unfold stL; rw [u1207.out, u1208.out, u1209.out, u1210.out, u1211.out, u1212.out, u1215.out, u1217.out, u1218.out]; omega), (fun z => by rw [u1217.out] at z; exact absurd z (by omega))⟩
              · rw [u1172.out] at q1203z; exact absurd q1203z (by omega)
              · rw [u1172.out] at q1203z; exact absurd q1203z (by omega)
          · exact absurd q1072z (by omega)
          · exact absurd q1072z (by omega)
  · show e_Ok 20 elay ecode eI (d + 1) 351 (4, [(0, (1, 275))], [], w2) _
    have u1220 : Hid (w5 275 78 = w 275 78) := Hid.mk (q4 275 78 (mRf_fld (by decide)))
    have u1221 : Hid (w5 275 79 = w 275 79) := Hid.mk (q4 275 79 (mRf_fld (by decide)))
    have u1222 : Hid (w5 275 80 = w 275 80) := Hid.mk (q4 275 80 (mRf_fld (by decide)))
    have u1223 : Hid (w5 275 81 = w 275 81) := Hid.mk (q4 275 81 (mRf_fld (by decide)))
    have u1224 : Hid (w5 275 82 = w 275 82) := Hid.mk (q4 275 82 (mRf_fld (by decide)))
    have u1226 : Hid (w5 275 84 = w 275 84) := Hid.mk (q4 275 84 (mRf_fld (by decide)))
    have u1227 : Hid (w5 275 85 = w 275 85) := Hid.mk (q4 275 85 (mRf_fld (by decide)))
    have u1228 : Hid (w5 275 86 = w 275 86) := Hid.mk (q4 275 86 (mRf_fld (by decide)))
    have u1230 : Hid (w5 275 94 = w 275 94) := Hid.mk (q4 275 94 (mRf_fld (by decide)))
    have c1231 := cSt.rf hc q4 q4T q4H
    have f1232 : e_fr (mStm (w 275 78) (w 275 79) (w 275 80) (w 275 94)) w w5 := e_fr.trans (e_fr.refl w) (e_fr.mono q4 (fun c k g => mRf_St g))
    have e1233 := up83 q4u
    replace e1233 := (show Hid _ from e1233)
    have u1234 : Hid (w2 275 78 = w 275 78) := Hid.mk (Eq.trans (e1233.out.1 275 78 (by decide)) u1220.out)
    have u1235 : Hid (w2 275 79 = w 275 79) := Hid.mk (Eq.trans (e1233.out.1 275 79 (by decide)) u1221.out)
    have u1236 : Hid (w2 275 80 = w 275 80) := Hid.mk (Eq.trans (e1233.out.1 275 80 (by decide)) u1222.out)
    have u1237 : Hid (w2 275 81 = w 275 81) := Hid.mk (Eq.trans (e1233.out.1 275 81 (by decide)) u1223.out)
    have u1238 : Hid (w2 275 82 = w 275 82) := Hid.mk (Eq.trans (e1233.out.1 275 82 (by decide)) u1224.out)
    have u1239 : Hid (w2 275 83 = w 275 83 + 1) := Hid.mk (e1233.out.2)
    have u1240 : Hid (w2 275 84 = w 275 84) := Hid.mk (Eq.trans (e1233.out.1 275 84 (by decide)) u1226.out)
    have u1241 : Hid (w2 275 85 = w 275 85) := Hid.mk (Eq.trans (e1233.out.1 275 85 (by decide)) u1227.out)
    have u1242 : Hid (w2 275 86 = w 275 86) := Hid.mk (Eq.trans (e1233.out.1 275 86 (by decide)) u1228.out)
    have u1244 : Hid (w2 275 88 = w5 275 88) := Hid.mk (e1233.out.1 275 88 (by decide))
    have u1245 : Hid (w2 275 94 = w 275 94) := Hid.mk (Eq.trans (e1233.out.1 275 94 (by decide)) u1230.out)
    have c1246 := cSt.up c1231 q4u
    have f1247 : e_fr (mStm (w 275 78) (w 275 79) (w 275 80) (w 275 94)) w w2 := e_fr.trans f1232 (fun c k g => e1233.out.1 c k (fun g2 => g (mU_St g2)))
    refine e_Ok.run (t' := (5, [(0, (1, 275))], [(1, 275)], w2)) 1 rfl ?_
    refine e_Ok.getf (z := w 275 80) rfl (el_o rfl) rfl rfl u1236.out (by omega) ?_
    refine e_Ok.run (t' := (11, [(1, (0, w 275 80)), (0, (1, 275))], [(1, 275), (1, 275)], w2)) 3 rfl ?_
    refine e_Ok.getf (z := w 275 80) rfl (el_o rfl) rfl rfl u1236.out (by omega) ?_
    refine e_Ok.run (t' := (15, [(1, (0, w 275 80)), (0, (1, 275))], [(0, 1), (0, w 275 80), (1, 275)], w2)) 1 rfl ?_
    refine e_Ok.add (z := w 275 80 + 1) rfl (by omega) (by omega) ?_
    refine e_Ok.putf rfl (el_o rfl) rfl rfl ?_
    generalize hw1248 : e_up w2 275 80 (w 275 80 + 1) = w1248
    have f1249 : e_fr (mStm (w 275 78) (w 275 79) (w 275 80) (w 275 94)) w w1248 := e_fr.up f1247 hw1248 (by unfold mStm; omega)
    have u1250 : Hid (w1248 275 78 = w 275 78) := Hid.mk (Eq.trans (by rw [← hw1248]; exact e_up_ne _ _ (Or.inr (by decide))) u1234.out)
    have u1251 : Hid (w1248 275 79 = w 275 79) := Hid.mk (Eq.trans (by rw [← hw1248]; exact e_up_ne _ _ (Or.inr (by decide))) u1235.out)
    have u1252 : Hid (w1248 275 80 = w 275 80 + 1) := Hid.mk (by rw [← hw1248]; exact e_up_eq _ _ _ _)
    have u1253 : Hid (w1248 275 81 = w 275 81) := Hid.mk (Eq.trans (by rw [← hw1248]; exact e_up_ne _ _ (Or.inr (by decide))) u1237.out)
    have u1254 : Hid (w1248 275 82 = w 275 82) := Hid.mk (Eq.trans (by rw [← hw1248]; exact e_up_ne _ _ (Or.inr (by decide))) u1238.out)
    have u1255 : Hid (w1248 275 83 = w 275 83 + 1) := Hid.mk (Eq.trans (by rw [← hw1248]; exact e_up_ne _ _ (Or.inr (by decide))) u1239.out)
    have u1256 : Hid (w1248 275 84 = w 275 84) := Hid.mk (Eq.trans (by rw [← hw1248]; exact e_up_ne _ _ (Or.inr (by decide))) u1240.out)
    have u1257 : Hid (w1248 275 85 = w 275 85) := Hid.mk (Eq.trans (by rw [← hw1248]; exact e_up_ne _ _ (Or.inr (by decide))) u1241.out)
    have u1258 : Hid (w1248 275 86 = w 275 86) := Hid.mk (Eq.trans (by rw [← hw1248]; exact e_up_ne _ _ (Or.inr (by decide))) u1242.out)
    have u1260 : Hid (w1248 275 88 = w5 275 88) := Hid.mk (Eq.trans (by rw [← hw1248]; exact e_up_ne _ _ (Or.inr (by decide))) u1244.out)
    have u1261 : Hid (w1248 275 94 = w 275 94) := Hid.mk (Eq.trans (by rw [← hw1248]; exact e_up_ne _ _ (Or.inr (by decide))) u1245.out)
    have c1262 := cSt.wr c1246 hw1248 (Or.inr rfl) (by omega) rfl (fun _ => ⟨⟨by decide, by decide⟩, fun y => absurd y (by decide)⟩)
    refine e_Ok.run (t' := (20, [(1, (0, w 275 80)), (0, (1, 275))], [(1, 275)], w1248)) 1 rfl ?_
    refine e_Ok.getf (z := w 275 82) rfl (el_o rfl) rfl rfl u1254.out (by omega) ?_
    refine e_Ok.run (t' := (25, [(2, (0, w 275 82)), (1, (0, w 275 80)), (0, (1, 275))], [(1, 275)], w1248)) 2 rfl ?_
    refine e_Ok.getr (z := 335) rfl (el_o rfl) rfl rfl ((f1249 275 72 (by unfold mStm; omega)).trans (e_Has.eq hc.1 rfl)) (by omega) ?_
    refine e_Ok.run (t' := (32, [(2, (0, w 275 82)), (1, (0, w 275 80)), (0, (1, 275))], [(0, w 275 80), (0, 3600), (1, 335)], w1248)) 2 rfl ?_
    refine e_Ok.add (z := w 275 80 + 3600) rfl (by omega) (by omega) ?_
    refine e_Ok.run (t' := (34, [(2, (0, w 275 82)), (1, (0, w 275 80)), (0, (1, 275))], [(1, 275), (0, w 275 80 + 3600), (1, 335)], w1248)) 1 rfl ?_
    refine e_Ok.getf (z := w 275 81) rfl (el_o rfl) rfl rfl u1253.out (by omega) ?_
    refine e_Ok.ast rfl (el_o rfl) rfl rfl (by omega) ?_
    generalize hw1263 : e_up w1248 335 (w 275 80 + 3600) (w 275 81) = w1263
    have f1264 : e_fr (mStm (w 275 78) (w 275 79) (w 275 80) (w 275 94)) w w1263 := e_fr.up f1249 hw1263 (by unfold mStm; omega)
    have u1265 : Hid (w1263 275 78 = w 275 78) := Hid.mk (Eq.trans (by rw [← hw1263]; exact e_up_ne _ _ (Or.inl (by decide))) u1250.out)
    have u1266 : Hid (w1263 275 79 = w 275 79) := Hid.mk (Eq.trans (by rw [← hw1263]; exact e_up_ne _ _ (Or.inl (by decide))) u1251.out)
    have u1267 : Hid (w1263 275 80 = w 275 80 + 1) := Hid.mk (Eq.trans (by rw [← hw1263]; exact e_up_ne _ _ (Or.inl (by decide))) u1252.out)
    have u1268 : Hid (w1263 275 81 = w 275 81) := Hid.mk (Eq.trans (by rw [← hw1263]; exact e_up_ne _ _ (Or.inl (by decide))) u1253.out)
    have u1270 : Hid (w1263 275 83 = w 275 83 + 1) := Hid.mk (Eq.trans (by rw [← hw1263]; exact e_up_ne _ _ (Or.inl (by decide))) u1255.out)
    have u1271 : Hid (w1263 275 84 = w 275 84) := Hid.mk (Eq.trans (by rw [← hw1263]; exact e_up_ne _ _ (Or.inl (by decide))) u1256.out)
    have u1272 : Hid (w1263 275 85 = w 275 85) := Hid.mk (Eq.trans (by rw [← hw1263]; exact e_up_ne _ _ (Or.inl (by decide))) u1257.out)
    have u1273 : Hid (w1263 275 86 = w 275 86) := Hid.mk (Eq.trans (by rw [← hw1263]; exact e_up_ne _ _ (Or.inl (by decide))) u1258.out)
    have u1275 : Hid (w1263 275 88 = w5 275 88) := Hid.mk (Eq.trans (by rw [← hw1263]; exact e_up_ne _ _ (Or.inl (by decide))) u1260.out)
    have u1276 : Hid (w1263 275 94 = w 275 94) := Hid.mk (Eq.trans (by rw [← hw1263]; exact e_up_ne _ _ (Or.inl (by decide))) u1261.out)
    have c1277 := cSt.wr c1262 hw1263 (Or.inl rfl) (by omega) rfl (fun y => absurd y (by decide))
    refine e_Ok.run (t' := (42, [(2, (0, w 275 82)), (1, (0, w 275 80)), (0, (1, 275))], [(0, 0), (0, 30), (1, 275)], w1263)) 3 rfl ?_
    refine e_Ok.callV rfl (Nat.le_trans (by decide) hdq) rfl rfl rfl rfl (c_336 c1277.1 (n := w 275 78) u1265.out (by omega) (s := w 275 81) u1268.out (by omega)) (fun r1278 w1279 h1280 => ?_)
    obtain ⟨rfl, q1281⟩ := h1280
    replace q1281 := (show Hid (EM w1263 w1279 (w 275 78) 30 (0) (w 275 81)) from q1281)
    have u1282 : Hid (w1279 275 78 = w 275 78 + 1) := Hid.mk (Eq.trans q1281.out.2.2.2.2 (by omega))
    have u1283 : Hid (w1279 275 79 = w 275 79) := Hid.mk (Eq.trans (q1281.out.fld (by decide)) u1266.out)
    have u1284 : Hid (w1279 275 80 = w 275 80 + 1) := Hid.mk (Eq.trans (q1281.out.fld (by decide)) u1267.out)
    have u1285 : Hid (w1279 275 81 = w 275 81) := Hid.mk (Eq.trans (q1281.out.fld (by decide)) u1268.out)
    have u1287 : Hid (w1279 275 83 = w 275 83 + 1) := Hid.mk (Eq.trans (q1281.out.fld (by decide)) u1270.out)
    have u1288 : Hid (w1279 275 84 = w 275 84) := Hid.mk (Eq.trans (q1281.out.fld (by decide)) u1271.out)
    have u1289 : Hid (w1279 275 85 = w 275 85) := Hid.mk (Eq.trans (q1281.out.fld (by decide)) u1272.out)
    have u1290 : Hid (w1279 275 86 = w 275 86) := Hid.mk (Eq.trans (q1281.out.fld (by decide)) u1273.out)
    have u1292 : Hid (w1279 275 88 = w5 275 88) := Hid.mk (Eq.trans (q1281.out.fld (by decide)) u1275.out)
    have u1293 : Hid (w1279 275 94 = w 275 94) := Hid.mk (Eq.trans (q1281.out.fld (by decide)) u1276.out)
    have f1294 : e_fr (mStm (w 275 78) (w 275 79) (w 275 80) (w 275 94)) w w1279 := e_fr.trans f1264 (q1281.out.st (by omega))
    have c1295 := cSt.em c1277 q1281.out (by decide) (by omega) (by omega)
    show e_Ok 20 elay ecode eI (d + 1) 351 (45, [(2, (0, w 275 82)), (1, (0, w 275 80)), (0, (1, 275))], [(0, w 275 78)], w1279) _
    refine e_Ok.run (t' := (50, [(3, (0, w 275 78)), (2, (0, w 275 82)), (1, (0, w 275 80)), (0, (1, 275))], [(0, 20), (1, 275), (1, 275)], w1279)) 4 rfl ?_
    refine e_Ok.callV rfl (Nat.le_trans (by decide) hdq) rfl rfl rfl rfl (c_332 c1295.1 (N := N) c1295.2.2.2.1) (fun r1296 w1297 h1298 => ?_)
    obtain ⟨z1299, rfl, rfl, q1300⟩ := h1298
    obtain ⟨rfl, q1300, q1300b⟩ | ⟨rfl, q1300n⟩ := q1300
    · show e_Ok 20 elay ecode eI (d + 1) 351 (53, [(3, (0, w 275 78)), (2, (0, w 275 82)), (1, (0, w 275 80)), (0, (1, 275))], [(0, 1), (1, 275)], w1279) _
      rw [u1288.out] at q1300
      rw [u1289.out] at q1300b
      refine e_Ok.callV rfl (Nat.le_trans (by decide) hdq) rfl rfl rfl rfl (c_334 (Nat.le_trans (by decide) hdq) c1295.1 c1295.2.1 c1295.2.2.1 hNr c1295.2.2.2.1 (by decide)) (fun r1301 w1302 h1303 => ?_)
      obtain ⟨rfl, q1304⟩ := h1303
      obtain ⟨rfl, q1304z⟩ | ⟨q1304z, q1304b, q1304, q1304s, q1304t⟩ | ⟨q1304z, q1304b, q1304, q1304T, q1304H, q1304r⟩ := q1304
      · show e_Ok 20 elay ecode eI (d + 1) 351 (56, [(3, (0, w 275 78)), (2, (0, w 275 82)), (1, (0, w 275 80)), (0, (1, 275))], [], w1279) _
        rw [u1292.out] at q1304z
        refine e_Ok.run (t' := (57, [(3, (0, w 275 78)), (2, (0, w 275 82)), (1, (0, w 275 80)), (0, (1, 275))], [(1, 275)], w1279)) 1 rfl ?_
        refine e_Ok.callV rfl (Nat.le_trans (by decide) hdq) rfl rfl rfl rfl (c_339_0 (Nat.le_trans (by decide) hdq) c1295 (by rw [u1292.out] <;> omega)) (fun r1305 w1306 h1307 => ?_)
        obtain ⟨rfl, rfl⟩ := h1307
        show e_Ok 20 elay ecode eI (d + 1) 351 (60, [(3, (0, w 275 78)), (2, (0, w 275 82)), (1, (0, w 275 80)), (0, (1, 275))], [], w1279) _
        refine e_Ok.run (t' := (64, [(3, (0, w 275 78)), (2, (0, w 275 82)), (1, (0, w 275 80)), (0, (1, 275))], [(0, 58), (1, 275), (1, 275)], w1279)) 3 rfl ?_
        refine e_Ok.callV rfl (Nat.le_trans (by decide) hdq) rfl rfl rfl rfl (c_331 c1295.1 (N := N) c1295.2.2.2.1) (fun r1308 w1309 h1310 => ?_)
        obtain ⟨z1311, rfl, rfl, q1312⟩ := h1310
        obtain ⟨rfl, q1312, q1312b⟩ | ⟨rfl, q1312n⟩ := q1312
        · show e_Ok 20 elay ecode eI (d + 1) 351 (67, [(3, (0, w 275 78)), (2, (0, w 275 82)), (1, (0, w 275 80)), (0, (1, 275))], [(0, 1), (1, 275)], w1279) _
          rw [u1288.out] at q1312
          rw [u1289.out] at q1312b
          refine e_Ok.callV rfl (Nat.le_trans (by decide) hdq) rfl rfl rfl rfl (c_334 (Nat.le_trans (by decide) hdq) c1295.1 c1295.2.1 c1295.2.2.1 hNr c1295.2.2.2.1 (by decide)) (fun r1313 w1314 h1315 => ?_)
          obtain ⟨rfl, q1316⟩ := h1315
          obtain ⟨rfl, q1316z⟩ | ⟨q1316z, q1316b, q1316, q1316s, q1316t⟩ | ⟨q1316z, q1316b, q1316, q1316T, q1316H, q1316r⟩ := q1316
          · show e_Ok 20 elay ecode eI (d + 1) 351 (70, [(3, (0, w 275 78)), (2, (0, w 275 82)), (1, (0, w 275 80)), (0, (1, 275))], [], w1279) _
            rw [u1292.out] at q1316z
            refine e_Ok.run (t' := (74, [(3, (0, w 275 78)), (2, (0, w 275 82)), (1, (0, w 275 80)), (0, (1, 275))], [(0, 0), (0, 47), (1, 275)], w1279)) 3 rfl ?_
            refine e_Ok.callV rfl (Nat.le_trans (by decide) hdq) rfl rfl rfl rfl (c_336 c1295.1 (n := w 275 78 + 1) u1282.out (by omega) (s := w 275 81) u1285.out (by omega)) (fun r1317 w1318 h1319 => ?_)
            obtain ⟨rfl, q1320⟩ := h1319
            replace q1320 := (show Hid (EM w1279 w1318 (w 275 78 + 1) 47 (0) (w 275 81)) from q1320)
            have u1321 : Hid (w1318 275 78 = w 275 78 + 2) := Hid.mk (Eq.trans q1320.out.2.2.2.2 (by omega))
            have u1322 : Hid (w1318 275 79 = w 275 79) := Hid.mk (Eq.trans (q1320.out.fld (by decide)) u1283.out)
            have u1323 : Hid (w1318 275 80 = w 275 80 + 1) := Hid.mk (Eq.trans (q1320.out.fld (by decide)) u1284.out)
            have u1324 : Hid (w1318 275 81 = w 275 81) := Hid.mk (Eq.trans (q1320.out.fld (by decide)) u1285.out)
            have u1326 : Hid (w1318 275 83 = w 275 83 + 1) := Hid.mk (Eq.trans (q1320.out.fld (by decide)) u1287.out)
            have u1327 : Hid (w1318 275 84 = w 275 84) := Hid.mk (Eq.trans (q1320.out.fld (by decide)) u1288.out)
            have u1328 : Hid (w1318 275 85 = w 275 85) := Hid.mk (Eq.trans (q1320.out.fld (by decide)) u1289.out)
            have u1329 : Hid (w1318 275 86 = w 275 86) := Hid.mk (Eq.trans (q1320.out.fld (by decide)) u1290.out)
            have u1331 : Hid (w1318 275 88 = w5 275 88) := Hid.mk (Eq.trans (q1320.out.fld (by decide)) u1292.out)
            have u1332 : Hid (w1318 275 94 = w 275 94) := Hid.mk (Eq.trans (q1320.out.fld (by decide)) u1293.out)
            have f1333 : e_fr (mStm (w 275 78) (w 275 79) (w 275 80) (w 275 94)) w w1318 := e_fr.trans f1294 (q1320.out.st (by omega))
            have c1334 := cSt.em c1295 q1320.out (by decide) (by omega) (by omega)
            show e_Ok 20 elay ecode eI (d + 1) 351 (77, [(3, (0, w 275 78)), (2, (0, w 275 82)), (1, (0, w 275 80)), (0, (1, 275))], [(0, w 275 78 + 1)], w1318) _
            refine e_Ok.run (t' := (81, [(4, (0, w 275 78 + 1)), (3, (0, w 275 78)), (2, (0, w 275 82)), (1, (0, w 275 80)), (0, (1, 275))], [(0, w 275 80), (1, 275)], w1318)) 3 rfl ?_
            refine e_Ok.putf rfl (el_o rfl) rfl rfl ?_
            generalize hw1335 : e_up w1318 275 82 (w 275 80) = w1335
            have f1336 : e_fr (mStm (w 275 78) (w 275 79) (w 275 80) (w 275 94)) w w1335 := e_fr.up f1333 hw1335 (by unfold mStm; omega)
            have u1337 : Hid (w1335 275 78 = w 275 78 + 2) := Hid.mk (Eq.trans (by rw [← hw1335]; exact e_up_ne _ _ (Or.inr (by decide))) u1321.out)
            have u1338 : Hid (w1335 275 79 = w 275 79) := Hid.mk (Eq.trans (by rw [← hw1335]; exact e_up_ne _ _ (Or.inr (by decide))) u1322.out)
            have u1339 : Hid (w1335 275 80 = w 275 80 + 1) := Hid.mk (Eq.trans (by rw [← hw1335]; exact e_up_ne _ _ (Or.inr (by decide))) u1323.out)
            have u1340 : Hid (w1335 275 81 = w 275 81) := Hid.mk (Eq.trans (by rw [← hw1335]; exact e_up_ne _ _ (Or.inr (by decide))) u1324.out)
            have u1342 : Hid (w1335 275 83 = w 275 83 + 1) := Hid.mk (Eq.trans (by rw [← hw1335]; exact e_up_ne _ _ (Or.inr (by decide))) u1326.out)
            have u1343 : Hid (w1335 275 84 = w 275 84) := Hid.mk (Eq.trans (by rw [← hw1335]; exact e_up_ne _ _ (Or.inr (by decide))) u1327.out)
            have u1344 : Hid (w1335 275 85 = w 275 85) := Hid.mk (Eq.trans (by rw [← hw1335]; exact e_up_ne _ _ (Or.inr (by decide))) u1328.out)
            have u1345 : Hid (w1335 275 86 = w 275 86) := Hid.mk (Eq.trans (by rw [← hw1335]; exact e_up_ne _ _ (Or.inr (by decide))) u1329.out)
            have u1347 : Hid (w1335 275 88 = w5 275 88) := Hid.mk (Eq.trans (by rw [← hw1335]; exact e_up_ne _ _ (Or.inr (by decide))) u1331.out)
            have u1348 : Hid (w1335 275 94 = w 275 94) := Hid.mk (Eq.trans (by rw [← hw1335]; exact e_up_ne _ _ (Or.inr (by decide))) u1332.out)
            have c1349 := cSt.wr c1334 hw1335 (Or.inr rfl) (by omega) rfl (fun _ => ⟨⟨by decide, by decide⟩, fun y => absurd y (by decide)⟩)
            refine e_Ok.run (t' := (85, [(4, (0, w 275 78 + 1)), (3, (0, w 275 78)), (2, (0, w 275 82)), (1, (0, w 275 80)), (0, (1, 275))], [(1, 275)], w1335)) 1 rfl ?_
            refine e_Ok.callV rfl (Nat.le_trans (by decide) hdq) rfl rfl rfl rfl (c_348_0 (Nat.le_trans (by decide) hdq) c1349 (by rw [u1347.out] <;> omega)) (fun r1350 w1351 h1352 => ?_)
            obtain ⟨rfl, rfl⟩ := h1352
            show e_Ok 20 elay ecode eI (d + 1) 351 (88, [(4, (0, w 275 78 + 1)), (3, (0, w 275 78)), (2, (0, w 275 82)), (1, (0, w 275 80)), (0, (1, 275))], [], w1335) _
            refine e_Ok.run (t' := (90, [(4, (0, w 275 78 + 1)), (3, (0, w 275 78)), (2, (0, w 275 82)), (1, (0, w 275 80)), (0, (1, 275))], [(0, w 275 82), (1, 275)], w1335)) 2 rfl ?_
            refine e_Ok.putf rfl (el_o rfl) rfl rfl ?_
            generalize hw1353 : e_up w1335 275 82 (w 275 82) = w1353
            have f1354 : e_fr (mStm (w 275 78) (w 275 79) (w 275 80) (w 275 94)) w w1353 := e_fr.up f1336 hw1353 (by unfold mStm; omega)
            have u1355 : Hid (w1353 275 78 = w 275 78 + 2) := Hid.mk (Eq.trans (by rw [← hw1353]; exact e_up_ne _ _ (Or.inr (by decide))) u1337.out)
            have u1356 : Hid (w1353 275 79 = w 275 79) := Hid.mk (Eq.trans (by rw [← hw1353]; exact e_up_ne _ _ (Or.inr (by decide))) u1338.out)
            have u1357 : Hid (w1353 275 80 = w 275 80 + 1) := Hid.mk (Eq.trans (by rw [← hw1353]; exact e_up_ne _ _ (Or.inr (by decide))) u1339.out)
            have u1358 : Hid (w1353 275 81 = w 275 81) := Hid.mk (Eq.trans (by rw [← hw1353]; exact e_up_ne _ _ (Or.inr (by decide))) u1340.out)
            have u1359 : Hid (w1353 275 82 = w 275 82) := Hid.mk (by rw [← hw1353]; exact e_up_eq _ _ _ _)
            have u1360 : Hid (w1353 275 83 = w 275 83 + 1) := Hid.mk (Eq.trans (by rw [← hw1353]; exact e_up_ne _ _ (Or.inr (by decide))) u1342.out)
            have u1361 : Hid (w1353 275 84 = w 275 84) := Hid.mk (Eq.trans (by rw [← hw1353]; exact e_up_ne _ _ (Or.inr (by decide))) u1343.out)
            have u1362 : Hid (w1353 275 85 = w 275 85) := Hid.mk (Eq.trans (by rw [← hw1353]; exact e_up_ne _ _ (Or.inr (by decide))) u1344.out)
            have u1363 : Hid (w1353 275 86 = w 275 86) := Hid.mk (Eq.trans (by rw [← hw1353]; exact e_up_ne _ _ (Or.inr (by decide))) u1345.out)
            have u1365 : Hid (w1353 275 88 = w5 275 88) := Hid.mk (Eq.trans (by rw [← hw1353]; exact e_up_ne _ _ (Or.inr (by decide))) u1347.out)
            have u1366 : Hid (w1353 275 94 = w 275 94) := Hid.mk (Eq.trans (by rw [← hw1353]; exact e_up_ne _ _ (Or.inr (by decide))) u1348.out)
            have c1367 := cSt.wr c1349 hw1353 (Or.inr rfl) (by omega) rfl (fun _ => ⟨⟨by decide, by decide⟩, fun y => absurd y (by decide)⟩)
            refine e_Ok.run (t' := (97, [(4, (0, w 275 78 + 1)), (3, (0, w 275 78)), (2, (0, w 275 82)), (1, (0, w 275 80)), (0, (1, 275))], [(0, w 275 78), (0, 48), (1, 275)], w1353)) 3 rfl ?_
            refine e_Ok.callV rfl (Nat.le_trans (by decide) hdq) rfl rfl rfl rfl (c_336 c1367.1 (n := w 275 78 + 2) u1355.out (by omega) (s := w 275 81) u1358.out (by omega)) (fun r1368 w1369 h1370 => ?_)
            obtain ⟨rfl, q1371⟩ := h1370
            replace q1371 := (show Hid (EM w1353 w1369 (w 275 78 + 2) 48 (w 275 78) (w 275 81)) from q1371)
            have u1372 : Hid (w1369 275 78 = w 275 78 + 3) := Hid.mk (Eq.trans q1371.out.2.2.2.2 (by omega))
            have u1373 : Hid (w1369 275 79 = w 275 79) := Hid.mk (Eq.trans (q1371.out.fld (by decide)) u1356.out)
            have u1374 : Hid (w1369 275 80 = w 275 80 + 1) := Hid.mk (Eq.trans (q1371.out.fld (by decide)) u1357.out)
            have u1375 : Hid (w1369 275 81 = w 275 81) := Hid.mk (Eq.trans (q1371.out.fld (by decide)) u1358.out)
            have u1376 : Hid (w1369 275 82 = w 275 82) := Hid.mk (Eq.trans (q1371.out.fld (by decide)) u1359.out)
            have u1377 : Hid (w1369 275 83 = w 275 83 + 1) := Hid.mk (Eq.trans (q1371.out.fld (by decide)) u1360.out)
            have u1378 : Hid (w1369 275 84 = w 275 84) := Hid.mk (Eq.trans (q1371.out.fld (by decide)) u1361.out)
            have u1379 : Hid (w1369 275 85 = w 275 85) := Hid.mk (Eq.trans (q1371.out.fld (by decide)) u1362.out)
            have u1380 : Hid (w1369 275 86 = w 275 86) := Hid.mk (Eq.trans (q1371.out.fld (by decide)) u1363.out)
            have u1382 : Hid (w1369 275 88 = w5 275 88) := Hid.mk (Eq.trans (q1371.out.fld (by decide)) u1365.out)
            have u1383 : Hid (w1369 275 94 = w 275 94) := Hid.mk (Eq.trans (q1371.out.fld (by decide)) u1366.out)
            have f1384 : e_fr (mStm (w 275 78) (w 275 79) (w 275 80) (w 275 94)) w w1369 := e_fr.trans f1354 (q1371.out.st (by omega))
            have c1385 := cSt.em c1367 q1371.out (by decide) (by omega) (by omega)
            show e_Ok 20 elay ecode eI (d + 1) 351 (100, [(4, (0, w 275 78 + 1)), (3, (0, w 275 78)), (2, (0, w 275 82)), (1, (0, w 275 80)), (0, (1, 275))], [(0, w 275 78 + 2)], w1369) _
            refine e_Ok.run (t' := (104, [(4, (0, w 275 78 + 1)), (3, (0, w 275 78)), (2, (0, w 275 82)), (1, (0, w 275 80)), (0, (1, 275))], [(0, w 275 78 + 1), (1, 275)], w1369)) 3 rfl ?_
            refine e_Ok.callV rfl (Nat.le_trans (by decide) hdq) rfl rfl rfl rfl (c_337 c1385.1 (n := w 275 78 + 3) u1372.out (by omega) (by omega)) (fun r1386 w1387 h1388 => ?_)
            obtain ⟨rfl, q1389⟩ := h1388
            have f1390 : e_fr (mStm (w 275 78) (w 275 79) (w 275 80) (w 275 94)) w w1387 := e_fr.up f1384 q1389 (by unfold mStm; omega)
            have u1391 : Hid (w1387 275 78 = w 275 78 + 3) := Hid.mk (Eq.trans (by rw [← q1389]; exact e_up_ne _ _ (Or.inl (by decide))) u1372.out)
            have u1392 : Hid (w1387 275 79 = w 275 79) := Hid.mk (Eq.trans (by rw [← q1389]; exact e_up_ne _ _ (Or.inl (by decide))) u1373.out)
            have u1393 : Hid (w1387 275 80 = w 275 80 + 1) := Hid.mk (Eq.trans (by rw [← q1389]; exact e_up_ne _ _ (Or.inl (by decide))) u1374.out)
            have u1394 : Hid (w1387 275 81 = w 275 81) := Hid.mk (Eq.trans (by rw [← q1389]; exact e_up_ne _ _ (Or.inl (by decide))) u1375.out)
            have u1395 : Hid (w1387 275 82 = w 275 82) := Hid.mk (Eq.trans (by rw [← q1389]; exact e_up_ne _ _ (Or.inl (by decide))) u1376.out)
            have u1396 : Hid (w1387 275 83 = w 275 83 + 1) := Hid.mk (Eq.trans (by rw [← q1389]; exact e_up_ne _ _ (Or.inl (by decide))) u1377.out)
            have u1397 : Hid (w1387 275 84 = w 275 84) := Hid.mk (Eq.trans (by rw [← q1389]; exact e_up_ne _ _ (Or.inl (by decide))) u1378.out)
            have u1398 : Hid (w1387 275 85 = w 275 85) := Hid.mk (Eq.trans (by rw [← q1389]; exact e_up_ne _ _ (Or.inl (by decide))) u1379.out)
            have u1399 : Hid (w1387 275 86 = w 275 86) := Hid.mk (Eq.trans (by rw [← q1389]; exact e_up_ne _ _ (Or.inl (by decide))) u1380.out)
            have u1401 : Hid (w1387 275 88 = w5 275 88) := Hid.mk (Eq.trans (by rw [← q1389]; exact e_up_ne _ _ (Or.inl (by decide))) u1382.out)
            have u1402 : Hid (w1387 275 94 = w 275 94) := Hid.mk (Eq.trans (by rw [← q1389]; exact e_up_ne _ _ (Or.inl (by decide))) u1383.out)
            have c1403 := cSt.wr c1385 q1389 (Or.inl rfl) (by omega) rfl (fun y => absurd y (by decide))
            show e_Ok 20 elay ecode eI (d + 1) 351 (107, [(4, (0, w 275 78 + 1)), (3, (0, w 275 78)), (2, (0, w 275 82)), (1, (0, w 275 80)), (0, (1, 275))], [], w1387) _
            refine e_Ok.run (t' := (108, [(4, (0, w 275 78 + 1)), (3, (0, w 275 78)), (2, (0, w 275 82)), (1, (0, w 275 80)), (0, (1, 275))], [(1, 275)], w1387)) 1 rfl ?_
            refine e_Ok.getr (z := 336) rfl (el_o rfl) rfl rfl ((f1390 275 73 (by unfold mStm; omega)).trans (e_Has.eq hc.1 rfl)) (by omega) ?_
            refine e_Ok.run (t' := (115, [(4, (0, w 275 78 + 1)), (3, (0, w 275 78)), (2, (0, w 275 82)), (1, (0, w 275 80)), (0, (1, 275))], [(0, w 275 80), (0, 3600), (1, 336)], w1387)) 2 rfl ?_
            refine e_Ok.add (z := w 275 80 + 3600) rfl (by omega) (by omega) ?_
            refine e_Ok.run (t' := (117, [(4, (0, w 275 78 + 1)), (3, (0, w 275 78)), (2, (0, w 275 82)), (1, (0, w 275 80)), (0, (1, 275))], [(1, 275), (0, w 275 80 + 3600), (1, 336)], w1387)) 1 rfl ?_
            refine e_Ok.getf (z := w 275 78 + 3) rfl (el_o rfl) rfl rfl u1391.out (by omega) ?_
            refine e_Ok.ast rfl (el_o rfl) rfl rfl (by omega) ?_
            generalize hw1404 : e_up w1387 336 (w 275 80 + 3600) (w 275 78 + 3) = w1404
            have f1405 : e_fr (mStm (w 275 78) (w 275 79) (w 275 80) (w 275 94)) w w1404 := e_fr.up f1390 hw1404 (by unfold mStm; omega)
            have u1406 : Hid (w1404 275 78 = w 275 78 + 3) := Hid.mk (Eq.trans (by rw [← hw1404]; exact e_up_ne _ _ (Or.inl (by decide))) u1391.out)
            have u1407 : Hid (w1404 275 79 = w 275 79) := Hid.mk (Eq.trans (by rw [← hw1404]; exact e_up_ne _ _ (Or.inl (by decide))) u1392.out)
            have u1408 : Hid (w1404 275 80 = w 275 80 + 1) := Hid.mk (Eq.trans (by rw [← hw1404]; exact e_up_ne _ _ (Or.inl (by decide))) u1393.out)
            have u1409 : Hid (w1404 275 81 = w 275 81) := Hid.mk (Eq.trans (by rw [← hw1404]; exact e_up_ne _ _ (Or.inl (by decide))) u1394.out)
            have u1410 : Hid (w1404 275 82 = w 275 82) := Hid.mk (Eq.trans (by rw [← hw1404]; exact e_up_ne _ _ (Or.inl (by decide))) u1395.out)
            have u1411 : Hid (w1404 275 83 = w 275 83 + 1) := Hid.mk (Eq.trans (by rw [← hw1404]; exact e_up_ne _ _ (Or.inl (by decide))) u1396.out)
            have u1412 : Hid (w1404 275 84 = w 275 84) := Hid.mk (Eq.trans (by rw [← hw1404]; exact e_up_ne _ _ (Or.inl (by decide))) u1397.out)
            have u1413 : Hid (w1404 275 85 = w 275 85) := Hid.mk (Eq.trans (by rw [← hw1404]; exact e_up_ne _ _ (Or.inl (by decide))) u1398.out)
            have u1414 : Hid (w1404 275 86 = w 275 86) := Hid.mk (Eq.trans (by rw [← hw1404]; exact e_up_ne _ _ (Or.inl (by decide))) u1399.out)
            have u1416 : Hid (w1404 275 88 = w5 275 88) := Hid.mk (Eq.trans (by rw [← hw1404]; exact e_up_ne _ _ (Or.inl (by decide))) u1401.out)
            have u1417 : Hid (w1404 275 94 = w 275 94) := Hid.mk (Eq.trans (by rw [← hw1404]; exact e_up_ne _ _ (Or.inl (by decide))) u1402.out)
            have c1418 := cSt.wr c1403 hw1404 (Or.inl rfl) (by omega) rfl (fun y => absurd y (by decide))
            refine e_Ok.run (t' := (124, [(4, (0, w 275 78 + 1)), (3, (0, w 275 78)), (2, (0, w 275 82)), (1, (0, w 275 80)), (0, (1, 275))], [(0, 2), (1, 275), (1, 275)], w1404)) 3 rfl ?_
            refine e_Ok.callV rfl (Nat.le_trans (by decide) hdq) rfl rfl rfl rfl (c_332 c1418.1 (N := N) c1418.2.2.2.1) (fun r1419 w1420 h1421 => ?_)
            obtain ⟨z1422, rfl, rfl, q1423⟩ := h1421
            obtain ⟨rfl, q1423, q1423b⟩ | ⟨rfl, q1423n⟩ := q1423
            · show e_Ok 20 elay ecode eI (d + 1) 351 (127, [(4, (0, w 275 78 + 1)), (3, (0, w 275 78)), (2, (0, w 275 82)), (1, (0, w 275 80)), (0, (1, 275))], [(0, 1), (1, 275)], w1404) _
              rw [u1412.out] at q1423
              rw [u1413.out] at q1423b
              refine e_Ok.callV rfl (Nat.le_trans (by decide) hdq) rfl rfl rfl rfl (c_334 (Nat.le_trans (by decide) hdq) c1418.1 c1418.2.1 c1418.2.2.1 hNr c1418.2.2.2.1 (by decide)) (fun r1424 w1425 h1426 => ?_)
              obtain ⟨rfl, q1427⟩ := h1426
              obtain ⟨rfl, q1427z⟩ | ⟨q1427z, q1427b, q1427, q1427s, q1427t⟩ | ⟨q1427z, q1427b, q1427, q1427T, q1427H, q1427r⟩ := q1427
              · show e_Ok 20 elay ecode eI (d + 1) 351 (130, [(4, (0, w 275 78 + 1)), (3, (0, w 275 78)), (2, (0, w 275 82)), (1, (0, w 275 80)), (0, (1, 275))], [], w1404) _
                rw [u1416.out] at q1427z
                refine e_Ok.run (t' := (132, [(4, (0, w 275 78 + 1)), (3, (0, w 275 78)), (2, (0, w 275 82)), (1, (0, w 275 80)), (0, (1, 275))], [(1, 275), (1, 275)], w1404)) 2 rfl ?_
                refine e_Ok.getf (z := w 275 83 + 1) rfl (el_o rfl) rfl rfl u1411.out (by omega) ?_
                refine e_Ok.run (t' := (136, [(4, (0, w 275 78 + 1)), (3, (0, w 275 78)), (2, (0, w 275 82)), (1, (0, w 275 80)), (0, (1, 275))], [(0, 1), (0, w 275 83 + 1), (1, 275)], w1404)) 1 rfl ?_
                refine e_Ok.sub' (z := w 275 83) rfl (by omega) (by omega) ?_
                refine e_Ok.putf rfl (el_o rfl) rfl rfl ?_
                generalize hw1428 : e_up w1404 275 83 (w 275 83) = w1428
                have f1429 : e_fr (mStm (w 275 78) (w 275 79) (w 275 80) (w 275 94)) w w1428 := e_fr.up f1405 hw1428 (by unfold mStm; omega)
                have e1430 := up83 hw1428
                replace e1430 := (show Hid _ from e1430)
                have u1431 : Hid (w1428 275 78 = w 275 78 + 3) := Hid.mk (Eq.trans (e1430.out.1 275 78 (by decide)) u1406.out)
                have u1432 : Hid (w1428 275 79 = w 275 79) := Hid.mk (Eq.trans (e1430.out.1 275 79 (by decide)) u1407.out)
                have u1433 : Hid (w1428 275 80 = w 275 80 + 1) := Hid.mk (Eq.trans (e1430.out.1 275 80 (by decide)) u1408.out)
                have u1434 : Hid (w1428 275 81 = w 275 81) := Hid.mk (Eq.trans (e1430.out.1 275 81 (by decide)) u1409.out)
                have u1435 : Hid (w1428 275 82 = w 275 82) := Hid.mk (Eq.trans (e1430.out.1 275 82 (by decide)) u1410.out)
                have u1436 : Hid (w1428 275 83 = w 275 83) := Hid.mk (e1430.out.2)
                have u1439 : Hid (w1428 275 86 = w 275 86) := Hid.mk (Eq.trans (e1430.out.1 275 86 (by decide)) u1414.out)
                have u1441 : Hid (w1428 275 88 = w5 275 88) := Hid.mk (Eq.trans (e1430.out.1 275 88 (by decide)) u1416.out)
                have u1442 : Hid (w1428 275 94 = w 275 94) := Hid.mk (Eq.trans (e1430.out.1 275 94 (by decide)) u1417.out)
                have c1443 := cSt.up c1418 hw1428
                refine e_Ok.rets rfl rfl ?_
                exact ⟨rfl, f1429, c1443, (by unfold stL; rw [u1431.out, u1432.out, u1433.out, u1434.out, u1435.out, u1436.out, u1439.out, u1441.out, u1442.out]; omega), (fun z => by rw [u1441.out] at z; exact absurd z (by omega))⟩
              · rw [u1416.out] at q1427z; exact absurd q1427z (by omega)
              · rw [u1416.out] at q1427z; exact absurd q1427z (by omega)
            · show e_Ok 20 elay ecode eI (d + 1) 351 (127, [(4, (0, w 275 78 + 1)), (3, (0, w 275 78)), (2, (0, w 275 82)), (1, (0, w 275 80)), (0, (1, 275))], [(0, 0), (1, 275)], w1404) _
              clear q1423n
              refine e_Ok.callV rfl (Nat.le_trans (by decide) hdq) rfl rfl rfl rfl (c_334 (Nat.le_trans (by decide) hdq) c1418.1 c1418.2.1 c1418.2.2.1 hNr c1418.2.2.2.1 (by decide)) (fun r1444 w1445 h1446 => ?_)
              obtain ⟨rfl, q1447⟩ := h1446
              obtain ⟨rfl, q1447z⟩ | ⟨q1447z, q1447b, q1447, q1447s, q1447t⟩ | ⟨q1447z, q1447b, q1447, q1447T, q1447H, q1447r⟩ := q1447
              · show e_Ok 20 elay ecode eI (d + 1) 351 (130, [(4, (0, w 275 78 + 1)), (3, (0, w 275 78)), (2, (0, w 275 82)), (1, (0, w 275 80)), (0, (1, 275))], [], w1404) _
                rw [u1416.out] at q1447z
                refine e_Ok.run (t' := (132, [(4, (0, w 275 78 + 1)), (3, (0, w 275 78)), (2, (0, w 275 82)), (1, (0, w 275 80)), (0, (1, 275))], [(1, 275), (1, 275)], w1404)) 2 rfl ?_
                refine e_Ok.getf (z := w 275 83 + 1) rfl (el_o rfl) rfl rfl u1411.out (by omega) ?_
                refine e_Ok.run (t' := (136, [(4, (0, w 275 78 + 1)), (3, (0, w 275 78)), (2, (0, w 275 82)), (1, (0, w 275 80)), (0, (1, 275))], [(0, 1), (0, w 275 83 + 1), (1, 275)], w1404)) 1 rfl ?_
                refine e_Ok.sub' (z := w 275 83) rfl (by omega) (by omega) ?_
                refine e_Ok.putf rfl (el_o rfl) rfl rfl ?_
                generalize hw1448 : e_up w1404 275 83 (w 275 83) = w1448
                have f1449 : e_fr (mStm (w 275 78) (w 275 79) (w 275 80) (w 275 94)) w w1448 := e_fr.up f1405 hw1448 (by unfold mStm; omega)
                have e1450 := up83 hw1448
                replace e1450 := (show Hid _ from e1450)
                have u1451 : Hid (w1448 275 78 = w 275 78 + 3) := Hid.mk (Eq.trans (e1450.out.1 275 78 (by decide)) u1406.out)
                have u1452 : Hid (w1448 275 79 = w 275 79) := Hid.mk (Eq.trans (e1450.out.1 275 79 (by decide)) u1407.out)
                have u1453 : Hid (w1448 275 80 = w 275 80 + 1) := Hid.mk (Eq.trans (e1450.out.1 275 80 (by decide)) u1408.out)
                have u1454 : Hid (w1448 275 81 = w 275 81) := Hid.mk (Eq.trans (e1450.out.1 275 81 (by decide)) u1409.out)
                have u1455 : Hid (w1448 275 82 = w 275 82) := Hid.mk (Eq.trans (e1450.out.1 275 82 (by decide)) u1410.out)
                have u1456 : Hid (w1448 275 83 = w 275 83) := Hid.mk (e1450.out.2)
                have u1459 : Hid (w1448 275 86 = w 275 86) := Hid.mk (Eq.trans (e1450.out.1 275 86 (by decide)) u1414.out)
                have u1461 : Hid (w1448 275 88 = w5 275 88) := Hid.mk (Eq.trans (e1450.out.1 275 88 (by decide)) u1416.out)
                have u1462 : Hid (w1448 275 94 = w 275 94) := Hid.mk (Eq.trans (e1450.out.1 275 94 (by decide)) u1417.out)
                have c1463 := cSt.up c1418 hw1448
                refine e_Ok.rets rfl rfl ?_
                exact ⟨rfl, f1449, c1463, (by unfold stL; rw [u1451.out, u1452.out, u1453.out, u1454.out, u1455.out, u1456.out, u1459.out, u1461.out, u1462.out]; omega), (fun z => by rw [u1461.out] at z; exact absurd z (by omega))⟩
              · rw [u1416.out] at q1447z; exact absurd q1447z (by omega)
              · rw [u1416.out] at q1447z; exact absurd q1447z (by omega)
          · rw [u1292.out] at q1316z; exact absurd q1316z (by omega)
          · rw [u1292.out] at q1316z; exact absurd q1316z (by omega)
        · show e_Ok 20 elay ecode eI (d + 1) 351 (67, [(3, (0, w 275 78)), (2, (0, w 275 82)), (1, (0, w 275 80)), (0, (1, 275))], [(0, 0), (1, 275)], w1279) _
          clear q1312n
          refine e_Ok.callV rfl (Nat.le_trans (by decide) hdq) rfl rfl rfl rfl (c_334 (Nat.le_trans (by decide) hdq) c1295.1 c1295.2.1 c1295.2.2.1 hNr c1295.2.2.2.1 (by decide)) (fun r1464 w1465 h1466 => ?_)
          obtain ⟨rfl, q1467⟩ := h1466
          obtain ⟨rfl, q1467z⟩ | ⟨q1467z, q1467b, q1467, q1467s, q1467t⟩ | ⟨q1467z, q1467b, q1467, q1467T, q1467H, q1467r⟩ := q1467
          · show e_Ok 20 elay ecode eI (d + 1) 351 (70, [(3, (0, w 275 78)), (2, (0, w 275 82)), (1, (0, w 275 80)), (0, (1, 275))], [], w1279) _
            rw [u1292.out] at q1467z
            refine e_Ok.run (t' := (74, [(3, (0, w 275 78)), (2, (0, w 275 82)), (1, (0, w 275 80)), (0, (1, 275))], [(0, 0), (0, 47), (1, 275)], w1279)) 3 rfl ?_
            refine e_Ok.callV rfl (Nat.le_trans (by decide) hdq) rfl rfl rfl rfl (c_336 c1295.1 (n := w 275 78 + 1) u1282.out (by omega) (s := w 275 81) u1285.out (by omega)) (fun r1468 w1469 h1470 => ?_)
            obtain ⟨rfl, q1471⟩ := h1470
            replace q1471 := (show Hid (EM w1279 w1469 (w 275 78 + 1) 47 (0) (w 275 81)) from q1471)
            have u1472 : Hid (w1469 275 78 = w 275 78 + 2) := Hid.mk (Eq.trans q1471.out.2.2.2.2 (by omega))
            have u1473 : Hid (w1469 275 79 = w 275 79) := Hid.mk (Eq.trans (q1471.out.fld (by decide)) u1283.out)
            have u1474 : Hid (w1469 275 80 = w 275 80 + 1) := Hid.mk (Eq.trans (q1471.out.fld (by decide)) u1284.out)
            have u1475 : Hid (w1469 275 81 = w 275 81) := Hid.mk (Eq.trans (q1471.out.fld (by decide)) u1285.out)
            have u1477 : Hid (w1469 275 83 = w 275 83 + 1) := Hid.mk (Eq.trans (q1471.out.fld (by decide)) u1287.out)
            have u1478 : Hid (w1469 275 84 = w 275 84) := Hid.mk (Eq.trans (q1471.out.fld (by decide)) u1288.out)
            have u1479 : Hid (w1469 275 85 = w 275 85) := Hid.mk (Eq.trans (q1471.out.fld (by decide)) u1289.out)
            have u1480 : Hid (w1469 275 86 = w 275 86) := Hid.mk (Eq.trans (q1471.out.fld (by decide)) u1290.out)
            have u1482 : Hid (w1469 275 88 = w5 275 88) := Hid.mk (Eq.trans (q1471.out.fld (by decide)) u1292.out)
            have u1483 : Hid (w1469 275 94 = w 275 94) := Hid.mk (Eq.trans (q1471.out.fld (by decide)) u1293.out)
            have f1484 : e_fr (mStm (w 275 78) (w 275 79) (w 275 80) (w 275 94)) w w1469 := e_fr.trans f1294 (q1471.out.st (by omega))
            have c1485 := cSt.em c1295 q1471.out (by decide) (by omega) (by omega)
            show e_Ok 20 elay ecode eI (d + 1) 351 (77, [(3, (0, w 275 78)), (2, (0, w 275 82)), (1, (0, w 275 80)), (0, (1, 275))], [(0, w 275 78 + 1)], w1469) _
            refine e_Ok.run (t' := (81, [(4, (0, w 275 78 + 1)), (3, (0, w 275 78)), (2, (0, w 275 82)), (1, (0, w 275 80)), (0, (1, 275))], [(0, w 275 80), (1, 275)], w1469)) 3 rfl ?_
            refine e_Ok.putf rfl (el_o rfl) rfl rfl ?_
            generalize hw1486 : e_up w1469 275 82 (w 275 80) = w1486
            have f1487 : e_fr (mStm (w 275 78) (w 275 79) (w 275 80) (w 275 94)) w w1486 := e_fr.up f1484 hw1486 (by unfold mStm; omega)
            have u1488 : Hid (w1486 275 78 = w 275 78 + 2) := Hid.mk (Eq.trans (by rw [← hw1486]; exact e_up_ne _ _ (Or.inr (by decide))) u1472.out)
            have u1489 : Hid (w1486 275 79 = w 275 79) := Hid.mk (Eq.trans (by rw [← hw1486]; exact e_up_ne _ _ (Or.inr (by decide))) u1473.out)
            have u1490 : Hid (w1486 275 80 = w 275 80 + 1) := Hid.mk (Eq.trans (by rw [← hw1486]; exact e_up_ne _ _ (Or.inr (by decide))) u1474.out)
            have u1491 : Hid (w1486 275 81 = w 275 81) := Hid.mk (Eq.trans (by rw [← hw1486]; exact e_up_ne _ _ (Or.inr (by decide))) u1475.out)
            have u1493 : Hid (w1486 275 83 = w 275 83 + 1) := Hid.mk (Eq.trans (by rw [← hw1486]; exact e_up_ne _ _ (Or.inr (by decide))) u1477.out)
            have u1494 : Hid (w1486 275 84 = w 275 84) := Hid.mk (Eq.trans (by rw [← hw1486]; exact e_up_ne _ _ (Or.inr (by decide))) u1478.out)
            have u1495 : Hid (w1486 275 85 = w 275 85) := Hid.mk (Eq.trans (by rw [← hw1486]; exact e_up_ne _ _ (Or.inr (by decide))) u1479.out)
            have u1496 : Hid (w1486 275 86 = w 275 86) := Hid.mk (Eq.trans (by rw [← hw1486]; exact e_up_ne _ _ (Or.inr (by decide))) u1480.out)
            have u1498 : Hid (w1486 275 88 = w5 275 88) := Hid.mk (Eq.trans (by rw [← hw1486]; exact e_up_ne _ _ (Or.inr (by decide))) u1482.out)
            have u1499 : Hid (w1486 275 94 = w 275 94) := Hid.mk (Eq.trans (by rw [← hw1486]; exact e_up_ne _ _ (Or.inr (by decide))) u1483.out)
            have c1500 := cSt.wr c1485 hw1486 (Or.inr rfl) (by omega) rfl (fun _ => ⟨⟨by decide, by decide⟩, fun y => absurd y (by decide)⟩)
            refine e_Ok.run (t' := (85, [(4, (0, w 275 78 + 1)), (3, (0, w 275 78)), (2, (0, w 275 82)), (1, (0, w 275 80)), (0, (1, 275))], [(1, 275)], w1486)) 1 rfl ?_
            refine e_Ok.callV rfl (Nat.le_trans (by decide) hdq) rfl rfl rfl rfl (c_348_0 (Nat.le_trans (by decide) hdq) c1500 (by rw [u1498.out] <;> omega)) (fun r1501 w1502 h1503 => ?_)
            obtain ⟨rfl, rfl⟩ := h1503
            show e_Ok 20 elay ecode eI (d + 1) 351 (88, [(4, (0, w 275 78 + 1)), (3, (0, w 275 78)), (2, (0, w 275 82)), (1, (0, w 275 80)), (0, (1, 275))], [], w1486) _
            refine e_Ok.run (t' := (90, [(4, (0, w 275 78 + 1)), (3, (0, w 275 78)), (2, (0, w 275 82)), (1, (0, w 275 80)), (0, (1, 275))], [(0, w 275 82), (1, 275)], w1486)) 2 rfl ?_
            refine e_Ok.putf rfl (el_o rfl) rfl rfl ?_
            generalize hw1504 : e_up w1486 275 82 (w 275 82) = w1504
            have f1505 : e_fr (mStm (w 275 78) (w 275 79) (w 275 80) (w 275 94)) w w1504 := e_fr.up f1487 hw1504 (by unfold mStm; omega)
            have u1506 : Hid (w1504 275 78 = w 275 78 + 2) := Hid.mk (Eq.trans (by rw [← hw1504]; exact e_up_ne _ _ (Or.inr (by decide))) u1488.out)
            have u1507 : Hid (w1504 275 79 = w 275 79) := Hid.mk (Eq.trans (by rw [← hw1504]; exact e_up_ne _ _ (Or.inr (by decide))) u1489.out)
            have u1508 : Hid (w1504 275 80 = w 275 80 + 1) := Hid.mk (Eq.trans (by rw [← hw1504]; exact e_up_ne _ _ (Or.inr (by decide))) u1490.out)
            have u1509 : Hid (w1504 275 81 = w 275 81) := Hid.mk (Eq.trans (by rw [← hw1504]; exact e_up_ne _ _ (Or.inr (by decide))) u1491.out)
            have u1510 : Hid (w1504 275 82 = w 275 82) := Hid.mk (by rw [← hw1504]; exact e_up_eq _ _ _ _)
            have u1511 : Hid (w1504 275 83 = w 275 83 + 1) := Hid.mk (Eq.trans (by rw [← hw1504]; exact e_up_ne _ _ (Or.inr (by decide))) u1493.out)
            have u1512 : Hid (w1504 275 84 = w 275 84) := Hid.mk (Eq.trans (by rw [← hw1504]; exact e_up_ne _ _ (Or.inr (by decide))) u1494.out)
            have u1513 : Hid (w1504 275 85 = w 275 85) := Hid.mk (Eq.trans (by rw [← hw1504]; exact e_up_ne _ _ (Or.inr (by decide))) u1495.out)
            have u1514 : Hid (w1504 275 86 = w 275 86) := Hid.mk (Eq.trans (by rw [← hw1504]; exact e_up_ne _ _ (Or.inr (by decide))) u1496.out)
            have u1516 : Hid (w1504 275 88 = w5 275 88) := Hid.mk (Eq.trans (by rw [← hw1504]; exact e_up_ne _ _ (Or.inr (by decide))) u1498.out)
            have u1517 : Hid (w1504 275 94 = w 275 94) := Hid.mk (Eq.trans (by rw [← hw1504]; exact e_up_ne _ _ (Or.inr (by decide))) u1499.out)
            have c1518 := cSt.wr c1500 hw1504 (Or.inr rfl) (by omega) rfl (fun _ => ⟨⟨by decide, by decide⟩, fun y => absurd y (by decide)⟩)
            refine e_Ok.run (t' := (97, [(4, (0, w 275 78 + 1)), (3, (0, w 275 78)), (2, (0, w 275 82)), (1, (0, w 275 80)), (0, (1, 275))], [(0, w 275 78), (0, 48), (1, 275)], w1504)) 3 rfl ?_
            refine e_Ok.callV rfl (Nat.le_trans (by decide) hdq) rfl rfl rfl rfl (c_336 c1518.1 (n := w 275 78 + 2) u1506.out (by omega) (s := w 275 81) u1509.out (by omega)) (fun r1519 w1520 h1521 => ?_)
            obtain ⟨rfl, q1522⟩ := h1521
            replace q1522 := (show Hid (EM w1504 w1520 (w 275 78 + 2) 48 (w 275 78) (w 275 81)) from q1522)
            have u1523 : Hid (w1520 275 78 = w 275 78 + 3) := Hid.mk (Eq.trans q1522.out.2.2.2.2 (by omega))
            have u1524 : Hid (w1520 275 79 = w 275 79) := Hid.mk (Eq.trans (q1522.out.fld (by decide)) u1507.out)
            have u1525 : Hid (w1520 275 80 = w 275 80 + 1) := Hid.mk (Eq.trans (q1522.out.fld (by decide)) u1508.out)
            have u1526 : Hid (w1520 275 81 = w 275 81) := Hid.mk (Eq.trans (q1522.out.fld (by decide)) u1509.out)
            have u1527 : Hid (w1520 275 82 = w 275 82) := Hid.mk (Eq.trans (q1522.out.fld (by decide)) u1510.out)
            have u1528 : Hid (w1520 275 83 = w 275 83 + 1) := Hid.mk (Eq.trans (q1522.out.fld (by decide)) u1511.out)
            have u1529 : Hid (w1520 275 84 = w 275 84) := Hid.mk (Eq.trans (q1522.out.fld (by decide)) u1512.out)
            have u1530 : Hid (w1520 275 85 = w 275 85) := Hid.mk (Eq.trans (q1522.out.fld (by decide)) u1513.out)
            have u1531 : Hid (w1520 275 86 = w 275 86) := Hid.mk (Eq.trans (q1522.out.fld (by decide)) u1514.out)
            have u1533 : Hid (w1520 275 88 = w5 275 88) := Hid.mk (Eq.trans (q1522.out.fld (by decide)) u1516.out)
            have u1534 : Hid (w1520 275 94 = w 275 94) := Hid.mk (Eq.trans (q1522.out.fld (by decide)) u1517.out)
            have f1535 : e_fr (mStm (w 275 78) (w 275 79) (w 275 80) (w 275 94)) w w1520 := e_fr.trans f1505 (q1522.out.st (by omega))
            have c1536 := cSt.em c1518 q1522.out (by decide) (by omega) (by omega)
            show e_Ok 20 elay ecode eI (d + 1) 351 (100, [(4, (0, w 275 78 + 1)), (3, (0, w 275 78)), (2, (0, w 275 82)), (1, (0, w 275 80)), (0, (1, 275))], [(0, w 275 78 + 2)], w1520) _
            refine e_Ok.run (t' := (104, [(4, (0, w 275 78 + 1)), (3, (0, w 275 78)), (2, (0, w 275 82)), (1, (0, w 275 80)), (0, (1, 275))], [(0, w 275 78 + 1), (1, 275)], w1520)) 3 rfl ?_
            refine e_Ok.callV rfl (Nat.le_trans (by decide) hdq) rfl rfl rfl rfl (c_337 c1536.1 (n := w 275 78 + 3) u1523.out (by omega) (by omega)) (fun r1537 w1538 h1539 => ?_)
            obtain ⟨rfl, q1540⟩ := h1539
            have f1541 : e_fr (mStm (w 275 78) (w 275 79) (w 275 80) (w 275 94)) w w1538 := e_fr.up f1535 q1540 (by unfold mStm; omega)
            have u1542 : Hid (w1538 275 78 = w 275 78 + 3) := Hid.mk (Eq.trans (by rw [← q1540]; exact e_up_ne _ _ (Or.inl (by decide))) u1523.out)
            have u1543 : Hid (w1538 275 79 = w 275 79) := Hid.mk (Eq.trans (by rw [← q1540]; exact e_up_ne _ _ (Or.inl (by decide))) u1524.out)
            have u1544 : Hid (w1538 275 80 = w 275 80 + 1) := Hid.mk (Eq.trans (by rw [← q1540]; exact e_up_ne _ _ (Or.inl (by decide))) u1525.out)
            have u1545 : Hid (w1538 275 81 = w 275 81) := Hid.mk (Eq.trans (by rw [← q1540]; exact e_up_ne _ _ (Or.inl (by decide))) u1526.out)
            have u1546 : Hid (w1538 275 82 = w 275 82) := Hid.mk (Eq.trans (by rw [← q1540]; exact e_up_ne _ _ (Or.inl (by decide))) u1527.out)
            have u1547 : Hid (w1538 275 83 = w 275 83 + 1) := Hid.mk (Eq.trans (by rw [← q1540]; exact e_up_ne _ _ (Or.inl (by decide))) u1528.out)
            have u1548 : Hid (w1538 275 84 = w 275 84) := Hid.mk (Eq.trans (by rw [← q1540]; exact e_up_ne _ _ (Or.inl (by decide))) u1529.out)
            have u1549 : Hid (w1538 275 85 = w 275 85) := Hid.mk (Eq.trans (by rw [← q1540]; exact e_up_ne _ _ (Or.inl (by decide))) u1530.out)
            have u1550 : Hid (w1538 275 86 = w 275 86) := Hid.mk (Eq.trans (by rw [← q1540]; exact e_up_ne _ _ (Or.inl (by decide))) u1531.out)
            have u1552 : Hid (w1538 275 88 = w5 275 88) := Hid.mk (Eq.trans (by rw [← q1540]; exact e_up_ne _ _ (Or.inl (by decide))) u1533.out)
            have u1553 : Hid (w1538 275 94 = w 275 94) := Hid.mk (Eq.trans (by rw [← q1540]; exact e_up_ne _ _ (Or.inl (by decide))) u1534.out)
            have c1554 := cSt.wr c1536 q1540 (Or.inl rfl) (by omega) rfl (fun y => absurd y (by decide))
            show e_Ok 20 elay ecode eI (d + 1) 351 (107, [(4, (0, w 275 78 + 1)), (3, (0, w 275 78)), (2, (0, w 275 82)), (1, (0, w 275 80)), (0, (1, 275))], [], w1538) _
            refine e_Ok.run (t' := (108, [(4, (0, w 275 78 + 1)), (3, (0, w 275 78)), (2, (0, w 275 82)), (1, (0, w 275 80)), (0, (1, 275))], [(1, 275)], w1538)) 1 rfl ?_
            refine e_Ok.getr (z := 336) rfl (el_o rfl) rfl rfl ((f1541 275 73 (by unfold mStm; omega)).trans (e_Has.eq hc.1 rfl)) (by omega) ?_
            refine e_Ok.run (t' := (115, [(4, (0, w 275 78 + 1)), (3, (0, w 275 78)), (2, (0, w 275 82)), (1, (0, w 275 80)), (0, (1, 275))], [(0, w 275 80), (0, 3600), (1, 336)], w1538)) 2 rfl ?_
            refine e_Ok.add (z := w 275 80 + 3600) rfl (by omega) (by omega) ?_
            refine e_Ok.run (t' := (117, [(4, (0, w 275 78 + 1)), (3, (0, w 275 78)), (2, (0, w 275 82)), (1, (0, w 275 80)), (0, (1, 275))], [(1, 275), (0, w 275 80 + 3600), (1, 336)], w1538)) 1 rfl ?_
            refine e_Ok.getf (z := w 275 78 + 3) rfl (el_o rfl) rfl rfl u1542.out (by omega) ?_
            refine e_Ok.ast rfl (el_o rfl) rfl rfl (by omega) ?_
            generalize hw1555 : e_up w1538 336 (w 275 80 + 3600) (w 275 78 + 3) = w1555
            have f1556 : e_fr (mStm (w 275 78) (w 275 79) (w 275 80) (w 275 94)) w w1555 := e_fr.up f1541 hw1555 (by unfold mStm; omega)
            have u1557 : Hid (w1555 275 78 = w 275 78 + 3) := Hid.mk (Eq.trans (by rw [← hw1555]; exact e_up_ne _ _ (Or.inl (by decide))) u1542.out)
            have u1558 : Hid (w1555 275 79 = w 275 79) := Hid.mk (Eq.trans (by rw [← hw1555]; exact e_up_ne _ _ (Or.inl (by decide))) u1543.out)
            have u1559 : Hid (w1555 275 80 = w 275 80 + 1) := Hid.mk (Eq.trans (by rw [← hw1555]; exact e_up_ne _ _ (Or.inl (by decide))) u1544.out)
            have u1560 : Hid (w1555 275 81 = w 275 81) := Hid.mk (Eq.trans (by rw [← hw1555]; exact e_up_ne _ _ (Or.inl (by decide))) u1545.out)
            have u1561 : Hid (w1555 275 82 = w 275 82) := Hid.mk (Eq.trans (by rw [← hw1555]; exact e_up_ne _ _ (Or.inl (by decide))) u1546.out)
            have u1562 : Hid (w1555 275 83 = w 275 83 + 1) := Hid.mk (Eq.trans (by rw [← hw1555]; exact e_up_ne _ _ (Or.inl (by decide))) u1547.out)
            have u1563 : Hid (w1555 275 84 = w 275 84) := Hid.mk (Eq.trans (by rw [← hw1555]; exact e_up_ne _ _ (Or.inl (by decide))) u1548.out)
            have u1564 : Hid (w1555 275 85 = w 275 85) := Hid.mk (Eq.trans (by rw [← hw1555]; exact e_up_ne _ _ (Or.inl (by decide))) u1549.out)
            have u1565 : Hid (w1555 275 86 = w 275 86) := Hid.mk (Eq.trans (by rw [← hw1555]; exact e_up_ne _ _ (Or.inl (by decide))) u1550.out)
            have u1567 : Hid (w1555 275 88 = w5 275 88) := Hid.mk (Eq.trans (by rw [← hw1555]; exact e_up_ne _ _ (Or.inl (by decide))) u1552.out)
            have u1568 : Hid (w1555 275 94 = w 275 94) := Hid.mk (Eq.trans (by rw [← hw1555]; exact e_up_ne _ _ (Or.inl (by decide))) u1553.out)
            have c1569 := cSt.wr c1554 hw1555 (Or.inl rfl) (by omega) rfl (fun y => absurd y (by decide))
            refine e_Ok.run (t' := (124, [(4, (0, w 275 78 + 1)), (3, (0, w 275 78)), (2, (0, w 275 82)), (1, (0, w 275 80)), (0, (1, 275))], [(0, 2), (1, 275), (1, 275)], w1555)) 3 rfl ?_
            refine e_Ok.callV rfl (Nat.le_trans (by decide) hdq) rfl rfl rfl rfl (c_332 c1569.1 (N := N) c1569.2.2.2.1) (fun r1570 w1571 h1572 => ?_)
            obtain ⟨z1573, rfl, rfl, q1574⟩ := h1572
            obtain ⟨rfl, q1574, q1574b⟩ | ⟨rfl, q1574n⟩ := q1574
            · show e_Ok 20 elay ecode eI (d + 1) 351 (127, [(4, (0, w 275 78 + 1)), (3, (0, w 275 78)), (2, (0, w 275 82)), (1, (0, w 275 80)), (0, (1, 275))], [(0, 1), (1, 275)], w1555) _
              rw [u1563.out] at q1574
              rw [u1564.out] at q1574b
              refine e_Ok.callV rfl (Nat.le_trans (by decide) hdq) rfl rfl rfl rfl (c_334 (Nat.le_trans (by decide) hdq) c1569.1 c1569.2.1 c1569.2.2.1 hNr c1569.2.2.2.1 (by decide)) (fun r1575 w1576 h1577 => ?_)
              obtain ⟨rfl, q1578⟩ := h1577
              obtain ⟨rfl, q1578z⟩ | ⟨q1578z, q1578b, q1578, q1578s, q1578t⟩ | ⟨q1578z, q1578b, q1578, q1578T, q1578H, q1578r⟩ := q1578
              · show e_Ok 20 elay ecode eI (d + 1) 351 (130, [(4, (0, w 275 78 + 1)), (3, (0, w 275 78)), (2, (0, w 275 82)), (1, (0, w 275 80)), (0, (1, 275))], [], w1555) _
                rw [u1567.out] at q1578z
                refine e_Ok.run (t' := (132, [(4, (0, w 275 78 + 1)), (3, (0, w 275 78)), (2, (0, w 275 82)), (1, (0, w 275 80)), (0, (1, 275))], [(1, 275), (1, 275)], w1555)) 2 rfl ?_
                refine e_Ok.getf (z := w 275 83 + 1) rfl (el_o rfl) rfl rfl u1562.out (by omega) ?_
                refine e_Ok.run (t' := (136, [(4, (0, w 275 78 + 1)), (3, (0, w 275 78)), (2, (0, w 275 82)), (1, (0, w 275 80)), (0, (1, 275))], [(0, 1), (0, w 275 83 + 1), (1, 275)], w1555)) 1 rfl ?_
                refine e_Ok.sub' (z := w 275 83) rfl (by omega) (by omega) ?_
                refine e_Ok.putf rfl (el_o rfl) rfl rfl ?_
                generalize hw1579 : e_up w1555 275 83 (w 275 83) = w1579
                have f1580 : e_fr (mStm (w 275 78) (w 275 79) (w 275 80) (w 275 94)) w w1579 := e_fr.up f1556 hw1579 (by unfold mStm; omega)
                have e1581 := up83 hw1579
                replace e1581 := (show Hid _ from e1581)
                have u1582 : Hid (w1579 275 78 = w 275 78 + 3) := Hid.mk (Eq.trans (e1581.out.1 275 78 (by decide)) u1557.out)
                have u1583 : Hid (w1579 275 79 = w 275 79) := Hid.mk (Eq.trans (e1581.out.1 275 79 (by decide)) u1558.out)
                have u1584 : Hid (w1579 275 80 = w 275 80 + 1) := Hid.mk (Eq.trans (e1581.out.1 275 80 (by decide)) u1559.out)
                have u1585 : Hid (w1579 275 81 = w 275 81) := Hid.mk (Eq.trans (e1581.out.1 275 81 (by decide)) u1560.out)
                have u1586 : Hid (w1579 275 82 = w 275 82) := Hid.mk (Eq.trans (e1581.out.1 275 82 (by decide)) u1561.out)
                have u1587 : Hid (w1579 275 83 = w 275 83) := Hid.mk (e1581.out.2)
                have u1590 : Hid (w1579 275 86 = w 275 86) := Hid.mk (Eq.trans (e1581.out.1 275 86 (by decide)) u1565.out)
                have u1592 : Hid (w1579 275 88 = w5 275 88) := Hid.mk (Eq.trans (e1581.out.1 275 88 (by decide)) u1567.out)
                have u1593 : Hid (w1579 275 94 = w 275 94) := Hid.mk (Eq.trans (e1581.out.1 275 94 (by decide)) u1568.out)
                have c1594 := cSt.up c1569 hw1579
                refine e_Ok.rets rfl rfl ?_
                exact ⟨rfl, f1580, c1594, (by unfold stL; rw [u1582.out, u1583.out, u1584.out, u1585.out, u1586.out, u1587.out, u1590.out, u1592.out, u1593.out]; omega), (fun z => by rw [u1592.out] at z; exact absurd z (by omega))⟩
              · rw [u1567.out] at q1578z; exact absurd q1578z (by omega)
              · rw [u1567.out] at q1578z; exact absurd q1578z (by omega)
            · show e_Ok 20 elay ecode eI (d + 1) 351 (127, [(4, (0, w 275 78 + 1)), (3, (0, w 275 78)), (2, (0, w 275 82)), (1, (0, w 275 80)), (0, (1, 275))], [(0, 0), (1, 275)], w1555) _
              clear q1574n
              refine e_Ok.callV rfl (Nat.le_trans (by decide) hdq) rfl rfl rfl rfl (c_334 (Nat.le_trans (by decide) hdq) c1569.1 c1569.2.1 c1569.2.2.1 hNr c1569.2.2.2.1 (by decide)) (fun r1595 w1596 h1597 => ?_)
              obtain ⟨rfl, q1598⟩ := h1597
              obtain ⟨rfl, q1598z⟩ | ⟨q1598z, q1598b, q1598, q1598s, q1598t⟩ | ⟨q1598z, q1598b, q1598, q1598T, q1598H, q1598r⟩ := q1598
              · show e_Ok 20 elay ecode eI (d + 1) 351 (130, [(4, (0, w 275 78 + 1)), (3, (0, w 275 78)), (2, (0, w 275 82)), (1, (0, w 275 80)), (0, (1, 275))], [], w1555) _
                rw [u1567.out] at q1598z
                refine e_Ok.run (t' := (132, [(4, (0, w 275 78 + 1)), (3, (0, w 275 78)), (2, (0, w 275 82)), (1, (0, w 275 80)), (0, (1, 275))], [(1, 275), (1, 275)], w1555)) 2 rfl ?_
                refine e_Ok.getf (z := w 275 83 + 1) rfl (el_o rfl) rfl rfl u1562.out (by omega) ?_
                refine e_Ok.run (t' := (136, [(4, (0, w 275 78 + 1)), (3, (0, w 275 78)), (2, (0, w 275 82)), (1, (0, w 275 80)), (0, (1, 275))], [(0, 1), (0, w 275 83 + 1), (1, 275)], w1555)) 1 rfl ?_
                refine e_Ok.sub' (z := w 275 83) rfl (by omega) (by omega) ?_
                refine e_Ok.putf rfl (el_o rfl) rfl rfl ?_
                generalize hw1599 : e_up w1555 275 83 (w 275 83) = w1599
                have f1600 : e_fr (mStm (w 275 78) (w 275 79) (w 275 80) (w 275 94)) w w1599 := e_fr.up f1556 hw1599 (by unfold mStm; omega)
                have e1601 := up83 hw1599
                replace e1601 := (show Hid _ from e1601)
                have u1602 : Hid (w1599 275 78 = w 275 78 + 3) := Hid.mk (Eq.trans (e1601.out.1 275 78 (by decide)) u1557.out)
                have u1603 : Hid (w1599 275 79 = w 275 79) := Hid.mk (Eq.trans (e1601.out.1 275 79 (by decide)) u1558.out)
                have u1604 : Hid (w1599 275 80 = w 275 80 + 1) := Hid.mk (Eq.trans (e1601.out.1 275 80 (by decide)) u1559.out)
                have u1605 : Hid (w1599 275 81 = w 275 81) := Hid.mk (Eq.trans (e1601.out.1 275 81 (by decide)) u1560.out)
                have u1606 : Hid (w1599 275 82 = w 275 82) := Hid.mk (Eq.trans (e1601.out.1 275 82 (by decide)) u1561.out)
                have u1607 : Hid (w1599 275 83 = w 275 83) := Hid.mk (e1601.out.2)
                have u1610 : Hid (w1599 275 86 = w 275 86) := Hid.mk (Eq.trans (e1601.out.1 275 86 (by decide)) u1565.out)
                have u1612 : Hid (w1599 275 88 = w5 275 88) := Hid.mk (Eq.trans (e1601.out.1 275 88 (by decide)) u1567.out)
                have u1613 : Hid (w1599 275 94 = w 275 94) := Hid.mk (Eq.trans (e1601.out.1 275 94 (by decide)) u1568.out)
                have c1614 := cSt.up c1569 hw1599
                refine e_Ok.rets rfl rfl ?_
                exact ⟨rfl, f1600, c1614, (by unfold stL; rw [u1602.out, u1603.out, u1604.out, u1605.out, u1606.out, u1607.out, u1610.out, u1612.out, u1613.out]; omega), (fun z => by rw [u1612.out] at z; exact absurd z (by omega))⟩
              · rw [u1567.out] at q1598z; exact absurd q1598z (by omega)
              · rw [u1567.out] at q1598z; exact absurd q1598z (by omega)
          · rw [u1292.out] at q1467z; exact absurd q1467z (by omega)
          · rw [u1292.out] at q1467z; exact absurd q1467z (by omega)
      · rw [u1292.out] at q1304z; exact absurd q1304z (by omega)
      · rw [u1292.out] at q1304z; exact absurd q1304z (by omega)
    · show e_Ok 20 elay ecode eI (d + 1) 351 (53, [(3, (0, w 275 78)), (2, (0, w 275 82)), (1, (0, w 275 80)), (0, (1, 275))], [(0, 0), (1, 275)], w1279) _
      clear q1300n
      refine e_Ok.callV rfl (Nat.le_trans (by decide) hdq) rfl rfl rfl rfl (c_334 (Nat.le_trans (by decide) hdq) c1295.1 c1295.2.1 c1295.2.2.1 hNr c1295.2.2.2.1 (by decide)) (fun r1615 w1616 h1617 => ?_)
      obtain ⟨rfl, q1618⟩ := h1617
      obtain ⟨rfl, q1618z⟩ | ⟨q1618z, q1618b, q1618, q1618s, q1618t⟩ | ⟨q1618z, q1618b, q1618, q1618T, q1618H, q1618r⟩ := q1618
      · show e_Ok 20 elay ecode eI (d + 1) 351 (56, [(3, (0, w 275 78)), (2, (0, w 275 82)), (1, (0, w 275 80)), (0, (1, 275))], [], w1279) _
        rw [u1292.out] at q1618z
        refine e_Ok.run (t' := (57, [(3, (0, w 275 78)), (2, (0, w 275 82)), (1, (0, w 275 80)), (0, (1, 275))], [(1, 275)], w1279)) 1 rfl ?_
        refine e_Ok.callV rfl (Nat.le_trans (by decide) hdq) rfl rfl rfl rfl (c_339_0 (Nat.le_trans (by decide) hdq) c1295 (by rw [u1292.out] <;> omega)) (fun r1619 w1620 h1621 => ?_)
        obtain ⟨rfl, rfl⟩ := h1621
        show e_Ok 20 elay ecode eI (d + 1) 351 (60, [(3, (0, w 275 78)), (2, (0, w 275 82)), (1, (0, w 275 80)), (0, (1, 275))], [], w1279) _
        refine e_Ok.run (t' := (64, [(3, (0, w 275 78)), (2, (0, w 275 82)), (1, (0, w 275 80)), (0, (1, 275))], [(0, 58), (1, 275), (1, 275)], w1279)) 3 rfl ?_
        refine e_Ok.callV rfl (Nat.le_trans (by decide) hdq) rfl rfl rfl rfl (c_331 c1295.1 (N := N) c1295.2.2.2.1) (fun r1622 w1623 h1624 => ?_)
        obtain ⟨z1625, rfl, rfl, q1626⟩ := h1624
        obtain ⟨rfl, q1626, q1626b⟩ | ⟨rfl, q1626n⟩ := q1626
        · show e_Ok 20 elay ecode eI (d + 1) 351 (67, [(3, (0, w 275 78)), (2, (0, w 275 82)), (1, (0, w 275 80)), (0, (1, 275))], [(0, 1), (1, 275)], w1279) _
          rw [u1288.out] at q1626
          rw [u1289.out] at q1626b
          refine e_Ok.callV rfl (Nat.le_trans (by decide) hdq) rfl rfl rfl rfl (c_334 (Nat.le_trans (by decide) hdq) c1295.1 c1295.2.1 c1295.2.2.1 hNr c1295.2.2.2.1 (by decide)) (fun r1627 w1628 h1629 => ?_)
          obtain ⟨rfl, q1630⟩ := h1629
          obtain ⟨rfl, q1630z⟩ | ⟨q1630z, q1630b, q1630, q1630s, q1630t⟩ | ⟨q1630z, q1630b, q1630, q1630T, q1630H, q1630r⟩ := q1630
          · show e_Ok 20 elay ecode eI (d + 1) 351 (70, [(3, (0, w 275 78)), (2, (0, w 275 82)), (1, (0, w 275 80)), (0, (1, 275))], [], w1279) _
            rw [u1292.out] at q1630z
            refine e_Ok.run (t' := (74, [(3, (0, w 275 78)), (2, (0, w 275 82)), (1, (0, w 275 80)), (0, (1, 275))], [(0, 0), (0, 47), (1, 275)], w1279)) 3 rfl ?_
            refine e_Ok.callV rfl (Nat.le_trans (by decide) hdq) rfl rfl rfl rfl (c_336 c1295.1 (n := w 275 78 + 1) u1282.out (by omega) (s := w 275 81) u1285.out (by omega)) (fun r1631 w1632 h1633 => ?_)
            obtain ⟨rfl, q1634⟩ := h1633
            replace q1634 := (show Hid (EM w1279 w1632 (w 275 78 + 1) 47 (0) (w 275 81)) from q1634)
            have u1635 : Hid (w1632 275 78 = w 275 78 + 2) := Hid.mk (Eq.trans q1634.out.2.2.2.2 (by omega))
            have u1636 : Hid (w1632 275 79 = w 275 79) := Hid.mk (Eq.trans (q1634.out.fld (by decide)) u1283.out)
            have u1637 : Hid (w1632 275 80 = w 275 80 + 1) := Hid.mk (Eq.trans (q1634.out.fld (by decide)) u1284.out)
            have u1638 : Hid (w1632 275 81 = w 275 81) := Hid.mk (Eq.trans (q1634.out.fld (by decide)) u1285.out)
            have u1640 : Hid (w1632 275 83 = w 275 83 + 1) := Hid.mk (Eq.trans (q1634.out.fld (by decide)) u1287.out)
            have u1641 : Hid (w1632 275 84 = w 275 84) := Hid.mk (Eq.trans (q1634.out.fld (by decide)) u1288.out)
            have u1642 : Hid (w1632 275 85 = w 275 85) := Hid.mk (Eq.trans (q1634.out.fld (by decide)) u1289.out)
            have u1643 : Hid (w1632 275 86 = w 275 86) := Hid.mk (Eq.trans (q1634.out.fld (by decide)) u1290.out)
            have u1645 : Hid (w1632 275 88 = w5 275 88) := Hid.mk (Eq.trans (q1634.out.fld (by decide)) u1292.out)
            have u1646 : Hid (w1632 275 94 = w 275 94) := Hid.mk (Eq.trans (q1634.out.fld (by decide)) u1293.out)
            have f1647 : e_fr (mStm (w 275 78) (w 275 79) (w 275 80) (w 275 94)) w w1632 := e_fr.trans f1294 (q1634.out.st (by omega))
            have c1648 := cSt.em c1295 q1634.out (by decide) (by omega) (by omega)
            show e_Ok 20 elay ecode eI (d + 1) 351 (77, [(3, (0, w 275 78)), (2, (0, w 275 82)), (1, (0, w 275 80)), (0, (1, 275))], [(0, w 275 78 + 1)], w1632) _
            refine e_Ok.run (t' := (81, [(4, (0, w 275 78 + 1)), (3, (0, w 275 78)), (2, (0, w 275 82)), (1, (0, w 275 80)), (0, (1, 275))], [(0, w 275 80), (1, 275)], w1632)) 3 rfl ?_
            refine e_Ok.putf rfl (el_o rfl) rfl rfl ?_
            generalize hw1649 : e_up w1632 275 82 (w 275 80) = w1649
            have f1650 : e_fr (mStm (w 275 78) (w 275 79) (w 275 80) (w 275 94)) w w1649 := e_fr.up f1647 hw1649 (by unfold mStm; omega)
            have u1651 : Hid (w1649 275 78 = w 275 78 + 2) := Hid.mk (Eq.trans (by rw [← hw1649]; exact e_up_ne _ _ (Or.inr (by decide))) u1635.out)
            have u1652 : Hid (w1649 275 79 = w 275 79) := Hid.mk (Eq.trans (by rw [← hw1649]; exact e_up_ne _ _ (Or.inr (by decide))) u1636.out)
            have u1653 : Hid (w1649 275 80 = w 275 80 + 1) := Hid.mk (Eq.trans (by rw [← hw1649]; exact e_up_ne _ _ (Or.inr (by decide))) u1637.out)
            have u1654 : Hid (w1649 275 81 = w 275 81) := Hid.mk (Eq.trans (by rw [← hw1649]; exact e_up_ne _ _ (Or.inr (by decide))) u1638.out)
            have u1656 : Hid (w1649 275 83 = w 275 83 + 1) := Hid.mk (Eq.trans (by rw [← hw1649]; exact e_up_ne _ _ (Or.inr (by decide))) u1640.out)
            have u1657 : Hid (w1649 275 84 = w 275 84) := Hid.mk (Eq.trans (by rw [← hw1649]; exact e_up_ne _ _ (Or.inr (by decide))) u1641.out)
            have u1658 : Hid (w1649 275 85 = w 275 85) := Hid.mk (Eq.trans (by rw [← hw1649]; exact e_up_ne _ _ (Or.inr (by decide))) u1642.out)
            have u1659 : Hid (w1649 275 86 = w 275 86) := Hid.mk (Eq.trans (by rw [← hw1649]; exact e_up_ne _ _ (Or.inr (by decide))) u1643.out)
            have u1661 : Hid (w1649 275 88 = w5 275 88) := Hid.mk (Eq.trans (by rw [← hw1649]; exact e_up_ne _ _ (Or.inr (by decide))) u1645.out)
            have u1662 : Hid (w1649 275 94 = w 275 94) := Hid.mk (Eq.trans (by rw [← hw1649]; exact e_up_ne _ _ (Or.inr (by decide))) u1646.out)
            have c1663 := cSt.wr c1648 hw1649 (Or.inr rfl) (by omega) rfl (fun _ => ⟨⟨by decide, by decide⟩, fun y => absurd y (by decide)⟩)
            refine e_Ok.run (t' := (85, [(4, (0, w 275 78 + 1)), (3, (0, w 275 78)), (2, (0, w 275 82)), (1, (0, w 275 80)), (0, (1, 275))], [(1, 275)], w1649)) 1 rfl ?_
            refine e_Ok.callV rfl (Nat.le_trans (by decide) hdq) rfl rfl rfl rfl (c_348_0 (Nat.le_trans (by decide) hdq) c1663 (by rw [u1661.out] <;> omega)) (fun r1664 w1665 h1666 => ?_)
            obtain ⟨rfl, rfl⟩ := h1666
            show e_Ok 20 elay ecode eI (d + 1) 351 (88, [(4, (0, w 275 78 + 1)), (3, (0, w 275 78)), (2, (0, w 275 82)), (1, (0, w 275 80)), (0, (1, 275))], [], w1649) _
            refine e_Ok.run (t' := (90, [(4, (0, w 275 78 + 1)), (3, (0, w 275 78)), (2, (0, w 275 82)), (1, (0, w 275 80)), (0, (1, 275))], [(0, w 275 82), (1, 275)], w1649)) 2 rfl ?_
            refine e_Ok.putf rfl (el_o rfl) rfl rfl ?_
            generalize hw1667 : e_up w1649 275 82 (w 275 82) = w1667
            have f1668 : e_fr (mStm (w 275 78) (w 275 79) (w 275 80) (w 275 94)) w w1667 := e_fr.up f1650 hw1667 (by unfold mStm; omega)
            have u1669 : Hid (w1667 275 78 = w 275 78 + 2) := Hid.mk (Eq.trans (by rw [← hw1667]; exact e_up_ne _ _ (Or.inr (by decide))) u1651.out)
            have u1670 : Hid (w1667 275 79 = w 275 79) := Hid.mk (Eq.trans (by rw [← hw1667]; exact e_up_ne _ _ (Or.inr (by decide))) u1652.out)
            have u1671 : Hid (w1667 275 80 = w 275 80 + 1) := Hid.mk (Eq.trans (by rw [← hw1667]; exact e_up_ne _ _ (Or.inr (by decide))) u1653.out)
            have u1672 : Hid (w1667 275 81 = w 275 81) := Hid.mk (Eq.trans (by rw [← hw1667]; exact e_up_ne _ _ (Or.inr (by decide))) u1654.out)
            have u1673 : Hid (w1667 275 82 = w 275 82) := Hid.mk (by rw [← hw1667]; exact e_up_eq _ _ _ _)
            have u1674 : Hid (w1667 275 83 = w 275 83 + 1) := Hid.mk (Eq.trans (by rw [← hw1667]; exact e_up_ne _ _ (Or.inr (by decide))) u1656.out)
            have u1675 : Hid (w1667 275 84 = w 275 84) := Hid.mk (Eq.trans (by rw [← hw1667]; exact e_up_ne _ _ (Or.inr (by decide))) u1657.out)
            have u1676 : Hid (w1667 275 85 = w 275 85) := Hid.mk (Eq.trans (by rw [← hw1667]; exact e_up_ne _ _ (Or.inr (by decide))) u1658.out)
            have u1677 : Hid (w1667 275 86 = w 275 86) := Hid.mk (Eq.trans (by rw [← hw1667]; exact e_up_ne _ _ (Or.inr (by decide))) u1659.out)
            have u1679 : Hid (w1667 275 88 = w5 275 88) := Hid.mk (Eq.trans (by rw [← hw1667]; exact e_up_ne _ _ (Or.inr (by decide))) u1661.out)
            have u1680 : Hid (w1667 275 94 = w 275 94) := Hid.mk (Eq.trans (by rw [← hw1667]; exact e_up_ne _ _ (Or.inr (by decide))) u1662.out)
            have c1681 := cSt.wr c1663 hw1667 (Or.inr rfl) (by omega) rfl (fun _ => ⟨⟨by decide, by decide⟩, fun y => absurd y (by decide)⟩)
            refine e_Ok.run (t' := (97, [(4, (0, w 275 78 + 1)), (3, (0, w 275 78)), (2, (0, w 275 82)), (1, (0, w 275 80)), (0, (1, 275))], [(0, w 275 78), (0, 48), (1, 275)], w1667)) 3 rfl ?_
            refine e_Ok.callV rfl (Nat.le_trans (by decide) hdq) rfl rfl rfl rfl (c_336 c1681.1 (n := w 275 78 + 2) u1669.out (by omega) (s := w 275 81) u1672.out (by omega)) (fun r1682 w1683 h1684 => ?_)
            obtain ⟨rfl, q1685⟩ := h1684
            replace q1685 := (show Hid (EM w1667 w1683 (w 275 78 + 2) 48 (w 275 78) (w 275 81)) from q1685)
            have u1686 : Hid (w1683 275 78 = w 275 78 + 3) := Hid.mk (Eq.trans q1685.out.2.2.2.2 (by omega))
            have u1687 : Hid (w1683 275 79 = w 275 79) := Hid.mk (Eq.trans (q1685.out.fld (by decide)) u1670.out)
            have u1688 : Hid (w1683 275 80 = w 275 80 + 1) := Hid.mk (Eq.trans (q1685.out.fld (by decide)) u1671.out)
            have u1689 : Hid (w1683 275 81 = w 275 81) := Hid.mk (Eq.trans (q1685.out.fld (by decide)) u1672.out)
            have u1690 : Hid (w1683 275 82 = w 275 82) := Hid.mk (Eq.trans (q1685.out.fld (by decide)) u1673.out)
            have u1691 : Hid (w1683 275 83 = w 275 83 + 1) := Hid.mk (Eq.trans (q1685.out.fld (by decide)) u1674.out)
            have u1692 : Hid (w1683 275 84 = w 275 84) := Hid.mk (Eq.trans (q1685.out.fld (by decide)) u1675.out)
            have u1693 : Hid (w1683 275 85 = w 275 85) := Hid.mk (Eq.trans (q1685.out.fld (by decide)) u1676.out)
            have u1694 : Hid (w1683 275 86 = w 275 86) := Hid.mk (Eq.trans (q1685.out.fld (by decide)) u1677.out)
            have u1696 : Hid (w1683 275 88 = w5 275 88) := Hid.mk (Eq.trans (q1685.out.fld (by decide)) u1679.out)
            have u1697 : Hid (w1683 275 94 = w 275 94) := Hid.mk (Eq.trans (q1685.out.fld (by decide)) u1680.out)
            have f1698 : e_fr (mStm (w 275 78) (w 275 79) (w 275 80) (w 275 94)) w w1683 := e_fr.trans f1668 (q1685.out.st (by omega))
            have c1699 := cSt.em c1681 q1685.out (by decide) (by omega) (by omega)
            show e_Ok 20 elay ecode eI (d + 1) 351 (100, [(4, (0, w 275 78 + 1)), (3, (0, w 275 78)), (2, (0, w 275 82)), (1, (0, w 275 80)), (0, (1, 275))], [(0, w 275 78 + 2)], w1683) _
            refine e_Ok.run (t' := (104, [(4, (0, w 275 78 + 1)), (3, (0, w 275 78)), (2, (0, w 275 82)), (1, (0, w 275 80)), (0, (1, 275))], [(0, w 275 78 + 1), (1, 275)], w1683)) 3 rfl ?_
            refine e_Ok.callV rfl (Nat.le_trans (by decide) hdq) rfl rfl rfl rfl (c_337 c1699.1 (n := w 275 78 + 3) u1686.out (by omega) (by omega)) (fun r1700 w1701 h1702 => ?_)
            obtain ⟨rfl, q1703⟩ := h1702
            have f1704 : e_fr (mStm (w 275 78) (w 275 79) (w 275 80) (w 275 94)) w w1701 := e_fr.up f1698 q1703 (by unfold mStm; omega)
            have u1705 : Hid (w1701 275 78 = w 275 78 + 3) := Hid.mk (Eq.trans (by rw [← q1703]; exact e_up_ne _ _ (Or.inl (by decide))) u1686.out)
            have u1706 : Hid (w1701 275 79 = w 275 79) := Hid.mk (Eq.trans (by rw [← q1703]; exact e_up_ne _ _ (Or.inl (by decide))) u1687.out)
            have u1707 : Hid (w1701 275 80 = w 275 80 + 1) := Hid.mk (Eq.trans (by rw [← q1703]; exact e_up_ne _ _ (Or.inl (by decide))) u1688.out)
            have u1708 : Hid (w1701 275 81 = w 275 81) := Hid.mk (Eq.trans (by rw [← q1703]; exact e_up_ne _ _ (Or.inl (by decide))) u1689.out)
            have u1709 : Hid (w1701 275 82 = w 275 82) := Hid.mk (Eq.trans (by rw [← q1703]; exact e_up_ne _ _ (Or.inl (by decide))) u1690.out)
            have u1710 : Hid (w1701 275 83 = w 275 83 + 1) := Hid.mk (Eq.trans (by rw [← q1703]; exact e_up_ne _ _ (Or.inl (by decide))) u1691.out)
            have u1711 : Hid (w1701 275 84 = w 275 84) := Hid.mk (Eq.trans (by rw [← q1703]; exact e_up_ne _ _ (Or.inl (by decide))) u1692.out)
            have u1712 : Hid (w1701 275 85 = w 275 85) := Hid.mk (Eq.trans (by rw [← q1703]; exact e_up_ne _ _ (Or.inl (by decide))) u1693.out)
            have u1713 : Hid (w1701 275 86 = w 275 86) := Hid.mk (Eq.trans (by rw [← q1703]; exact e_up_ne _ _ (Or.inl (by decide))) u1694.out)
            have u1715 : Hid (w1701 275 88 = w5 275 88) := Hid.mk (Eq.trans (by rw [← q1703]; exact e_up_ne _ _ (Or.inl (by decide))) u1696.out)
            have u1716 : Hid (w1701 275 94 = w 275 94) := Hid.mk (Eq.trans (by rw [← q1703]; exact e_up_ne _ _ (Or.inl (by decide))) u1697.out)
            have c1717 := cSt.wr c1699 q1703 (Or.inl rfl) (by omega) rfl (fun y => absurd y (by decide))
            show e_Ok 20 elay ecode eI (d + 1) 351 (107, [(4, (0, w 275 78 + 1)), (3, (0, w 275 78)), (2, (0, w 275 82)), (1, (0, w 275 80)), (0, (1, 275))], [], w1701) _
            refine e_Ok.run (t' := (108, [(4, (0, w 275 78 + 1)), (3, (0, w 275 78)), (2, (0, w 275 82)), (1, (0, w 275 80)), (0, (1, 275))], [(1, 275)], w1701)) 1 rfl ?_
            refine e_Ok.getr (z := 336) rfl (el_o rfl) rfl rfl ((f1704 275 73 (by unfold mStm; omega)).trans (e_Has.eq hc.1 rfl)) (by omega) ?_
            refine e_Ok.run (t' := (115, [(4, (0, w 275 78 + 1)), (3, (0, w 275 78)), (2, (0, w 275 82)), (1, (0, w 275 80)), (0, (1, 275))], [(0, w 275 80), (0, 3600), (1, 336)], w1701)) 2 rfl ?_
            refine e_Ok.add (z := w 275 80 + 3600) rfl (by omega) (by omega) ?_
            refine e_Ok.run (t' := (117, [(4, (0, w 275 78 + 1)), (3, (0, w 275 78)), (2, (0, w 275 82)), (1, (0, w 275 80)), (0, (1, 275))], [(1, 275), (0, w 275 80 + 3600), (1, 336)], w1701)) 1 rfl ?_
            refine e_Ok.getf (z := w 275 78 + 3) rfl (el_o rfl) rfl rfl u1705.out (by omega) ?_
            refine e_Ok.ast rfl (el_o rfl) rfl rfl (by omega) ?_
            generalize hw1718 : e_up w1701 336 (w 275 80 + 3600) (w 275 78 + 3) = w1718
            have f1719 : e_fr (mStm (w 275 78) (w 275 79) (w 275 80) (w 275 94)) w w1718 := e_fr.up f1704 hw1718 (by unfold mStm; omega)
            have u1720 : Hid (w1718 275 78 = w 275 78 + 3) := Hid.mk (Eq.trans (by rw [← hw1718]; exact e_up_ne _ _ (Or.inl (by decide))) u1705.out)
            have u1721 : Hid (w1718 275 79 = w 275 79) := Hid.mk (Eq.trans (by rw [← hw1718]; exact e_up_ne _ _ (Or.inl (by decide))) u1706.out)
            have u1722 : Hid (w1718 275 80 = w 275 80 + 1) := Hid.mk (Eq.trans (by rw [← hw1718]; exact e_up_ne _ _ (Or.inl (by decide))) u1707.out)
            have u1723 : Hid (w1718 275 81 = w 275 81) := Hid.mk (Eq.trans (by rw [← hw1718]; exact e_up_ne _ _ (Or.inl (by decide))) u1708.out)
            have u1724 : Hid (w1718 275 82 = w 275 82) := Hid.mk (Eq.trans (by rw [← hw1718]; exact e_up_ne _ _ (Or.inl (by decide))) u1709.out)
            have u1725 : Hid (w1718 275 83 = w 275 83 + 1) := Hid.mk (Eq.trans (by rw [← hw1718]; exact e_up_ne _ _ (Or.inl (by decide))) u1710.out)
            have u1726 : Hid (w1718 275 84 = w 275 84) := Hid.mk (Eq.trans (by rw [← hw1718]; exact e_up_ne _ _ (Or.inl (by decide))) u1711.out)
            have u1727 : Hid (w1718 275 85 = w 275 85) := Hid.mk (Eq.trans (by rw [← hw1718]; exact e_up_ne _ _ (Or.inl (by decide))) u1712.out)
            have u1728 : Hid (w1718 275 86 = w 275 86) := Hid.mk (Eq.trans (by rw [← hw1718]; exact e_up_ne _ _ (Or.inl (by decide))) u1713.out)
            have u1730 : Hid (w1718 275 88 = w5 275 88) := Hid.mk (Eq.trans (by rw [← hw1718]; exact e_up_ne _ _ (Or.inl (by decide))) u1715.out)
            have u1731 : Hid (w1718 275 94 = w 275 94) := Hid.mk (Eq.trans (by rw [← hw1718]; exact e_up_ne _ _ (Or.inl (by decide))) u1716.out)
            have c1732 := cSt.wr c1717 hw1718 (Or.inl rfl) (by omega) rfl (fun y => absurd y (by decide))
            refine e_Ok.run (t' := (124, [(4, (0, w 275 78 + 1)), (3, (0, w 275 78)), (2, (0, w 275 82)), (1, (0, w 275 80)), (0, (1, 275))], [(0, 2), (1, 275), (1, 275)], w1718)) 3 rfl ?_
            refine e_Ok.callV rfl (Nat.le_trans (by decide) hdq) rfl rfl rfl rfl (c_332 c1732.1 (N := N) c1732.2.2.2.1) (fun r1733 w1734 h1735 => ?_)
            obtain ⟨z1736, rfl, rfl, q1737⟩ := h1735
            obtain ⟨rfl, q1737, q1737b⟩ | ⟨rfl, q1737n⟩ := q1737
            · show e_Ok 20 elay ecode eI (d + 1) 351 (127, [(4, (0, w 275 78 + 1)), (3, (0, w 275 78)), (2, (0, w 275 82)), (1, (0, w 275 80)), (0, (1, 275))], [(0, 1), (1, 275)], w1718) _
              rw [u1726.out] at q1737
              rw [u1727.out] at q1737b
              refine e_Ok.callV rfl (Nat.le_trans (by decide) hdq) rfl rfl rfl rfl (c_334 (Nat.le_trans (by decide) hdq) c1732.1 c1732.2.1 c1732.2.2.1 hNr c1732.2.2.2.1 (by decide)) (fun r1738 w1739 h1740 => ?_)
              obtain ⟨rfl, q1741⟩ := h1740
              obtain ⟨rfl, q1741z⟩ | ⟨q1741z, q1741b, q1741, q1741s, q1741t⟩ | ⟨q1741z, q1741b, q1741, q1741T, q1741H, q1741r⟩ := q1741
              · show e_Ok 20 elay ecode eI (d + 1) 351 (130, [(4, (0, w 275 78 + 1)), (3, (0, w 275 78)), (2, (0, w 275 82)), (1, (0, w 275 80)), (0, (1, 275))], [], w1718) _
                rw [u1730.out] at q1741z
                refine e_Ok.run (t' := (132, [(4, (0, w 275 78 + 1)), (3, (0, w 275 78)), (2, (0, w 275 82)), (1, (0, w 275 80)), (0, (1, 275))], [(1, 275), (1, 275)], w1718)) 2 rfl ?_
                refine e_Ok.getf (z := w 275 83 + 1) rfl (el_o rfl) rfl rfl u1725.out (by omega) ?_
                refine e_Ok.run (t' := (136, [(4, (0, w 275 78 + 1)), (3, (0, w 275 78)), (2, (0, w 275 82)), (1, (0, w 275 80)), (0, (1, 275))], [(0, 1), (0, w 275 83 + 1), (1, 275)], w1718)) 1 rfl ?_
                refine e_Ok.sub' (z := w 275 83) rfl (by omega) (by omega) ?_
                refine e_Ok.putf rfl (el_o rfl) rfl rfl ?_
                generalize hw1742 : e_up w1718 275 83 (w 275 83) = w1742
                have f1743 : e_fr (mStm (w 275 78) (w 275 79) (w 275 80) (w 275 94)) w w1742 := e_fr.up f1719 hw1742 (by unfold mStm; omega)
                have e1744 := up83 hw1742
                replace e1744 := (show Hid _ from e1744)
                have u1745 : Hid (w1742 275 78 = w 275 78 + 3) := Hid.mk (Eq.trans (e1744.out.1 275 78 (by decide)) u1720.out)
                have u1746 : Hid (w1742 275 79 = w 275 79) := Hid.mk (Eq.trans (e1744.out.1 275 79 (by decide)) u1721.out)
                have u1747 : Hid (w1742 275 80 = w 275 80 + 1) := Hid.mk (Eq.trans (e1744.out.1 275 80 (by decide)) u1722.out)
                have u1748 : Hid (w1742 275 81 = w 275 81) := Hid.mk (Eq.trans (e1744.out.1 275 81 (by decide)) u1723.out)
                have u1749 : Hid (w1742 275 82 = w 275 82) := Hid.mk (Eq.trans (e1744.out.1 275 82 (by decide)) u1724.out)
                have u1750 : Hid (w1742 275 83 = w 275 83) := Hid.mk (e1744.out.2)
                have u1753 : Hid (w1742 275 86 = w 275 86) := Hid.mk (Eq.trans (e1744.out.1 275 86 (by decide)) u1728.out)
                have u1755 : Hid (w1742 275 88 = w5 275 88) := Hid.mk (Eq.trans (e1744.out.1 275 88 (by decide)) u1730.out)
                have u1756 : Hid (w1742 275 94 = w 275 94) := Hid.mk (Eq.trans (e1744.out.1 275 94 (by decide)) u1731.out)
                have c1757 := cSt.up c1732 hw1742
                refine e_Ok.rets rfl rfl ?_
                exact ⟨rfl, f1743, c1757, (by unfold stL; rw [u1745.out, u1746.out, u1747.out, u1748.out, u1749.out, u1750.out, u1753.out, u1755.out, u1756.out]; omega), (fun z => by rw [u1755.out] at z; exact absurd z (by omega))⟩
              · rw [u1730.out] at q1741z; exact absurd q1741z (by omega)
              · rw [u1730.out] at q1741z; exact absurd q1741z (by omega)
            · show e_Ok 20 elay ecode eI (d + 1) 351 (127, [(4, (0, w 275 78 + 1)), (3, (0, w 275 78)), (2, (0, w 275 82)), (1, (0, w 275 80)), (0, (1, 275))], [(0, 0), (1, 275)], w1718) _
              clear q1737n
              refine e_Ok.callV rfl (Nat.le_trans (by decide) hdq) rfl rfl rfl rfl (c_334 (Nat.le_trans (by decide) hdq) c1732.1 c1732.2.1 c1732.2.2.1 hNr c1732.2.2.2.1 (by decide)) (fun r1758 w1759 h1760 => ?_)
              obtain ⟨rfl, q1761⟩ := h1760
              obtain ⟨rfl, q1761z⟩ | ⟨q1761z, q1761b, q1761, q1761s, q1761t⟩ | ⟨q1761z, q1761b, q1761, q1761T, q1761H, q1761r⟩ := q1761
              · show e_Ok 20 elay ecode eI (d + 1) 351 (130, [(4, (0, w 275 78 + 1)), (3, (0, w 275 78)), (2, (0, w 275 82)), (1, (0, w 275 80)), (0, (1, 275))], [], w1718) _
                rw [u1730.out] at q1761z
                refine e_Ok.run (t' := (132, [(4, (0, w 275 78 + 1)), (3, (0, w 275 78)), (2, (0, w 275 82)), (1, (0, w 275 80)), (0, (1, 275))], [(1, 275), (1, 275)], w1718)) 2 rfl ?_
                refine e_Ok.getf (z := w 275 83 + 1) rfl (el_o rfl) rfl rfl u1725.out (by omega) ?_
                refine e_Ok.run (t' := (136, [(4, (0, w 275 78 + 1)), (3, (0, w 275 78)), (2, (0, w 275 82)), (1, (0, w 275 80)), (0, (1, 275))], [(0, 1), (0, w 275 83 + 1), (1, 275)], w1718)) 1 rfl ?_
                refine e_Ok.sub' (z := w 275 83) rfl (by omega) (by omega) ?_
                refine e_Ok.putf rfl (el_o rfl) rfl rfl ?_
                generalize hw1762 : e_up w1718 275 83 (w 275 83) = w1762
                have f1763 : e_fr (mStm (w 275 78) (w 275 79) (w 275 80) (w 275 94)) w w1762 := e_fr.up f1719 hw1762 (by unfold mStm; omega)
                have e1764 := up83 hw1762
                replace e1764 := (show Hid _ from e1764)
                have u1765 : Hid (w1762 275 78 = w 275 78 + 3) := Hid.mk (Eq.trans (e1764.out.1 275 78 (by decide)) u1720.out)
                have u1766 : Hid (w1762 275 79 = w 275 79) := Hid.mk (Eq.trans (e1764.out.1 275 79 (by decide)) u1721.out)
                have u1767 : Hid (w1762 275 80 = w 275 80 + 1) := Hid.mk (Eq.trans (e1764.out.1 275 80 (by decide)) u1722.out)
                have u1768 : Hid (w1762 275 81 = w 275 81) := Hid.mk (Eq.trans (e1764.out.1 275 81 (by decide)) u1723.out)
                have u1769 : Hid (w1762 275 82 = w 275 82) := Hid.mk (Eq.trans (e1764.out.1 275 82 (by decide)) u1724.out)
                have u1770 : Hid (w1762 275 83 = w 275 83) := Hid.mk (e1764.out.2)
                have u1773 : Hid (w1762 275 86 = w 275 86) := Hid.mk (Eq.trans (e1764.out.1 275 86 (by decide)) u1728.out)
                have u1775 : Hid (w1762 275 88 = w5 275 88) := Hid.mk (Eq.trans (e1764.out.1 275 88 (by decide)) u1730.out)
                have u1776 : Hid (w1762 275 94 = w 275 94) := Hid.mk (Eq.trans (e1764.out.1 275 94 (by decide)) u1731.out)
                have c1777 := cSt.up c1732 hw1762
                refine e_Ok.rets rfl rfl ?_
                exact ⟨rfl, f1763, c1777, (by unfold stL; rw [u1765.out, u1766.out, u1767.out, u1768.out, u1769.out, u1770.out, u1773.out, u1775.out, u1776.out]; omega), (fun z => by rw [u1775.out] at z; exact absurd z (by omega))⟩
              · rw [u1730.out] at q1761z; exact absurd q1761z (by omega)
              · rw [u1730.out] at q1761z; exact absurd q1761z (by omega)
          · rw [u1292.out] at q1630z; exact absurd q1630z (by omega)
          · rw [u1292.out] at q1630z; exact absurd q1630z (by omega)
        · show e_Ok 20 elay ecode eI (d + 1) 351 (67, [(3, (0, w 275 78)), (2, (0, w 275 82)), (1, (0, w 275 80)), (0, (1, 275))], [(0, 0), (1, 275)], w1279) _
          clear q1626n
          refine e_Ok.callV rfl (Nat.le_trans (by decide) hdq) rfl rfl rfl rfl (c_334 (Nat.le_trans (by decide) hdq) c1295.1 c1295.2.1 c1295.2.2.1 hNr c1295.2.2.2.1 (by decide)) (fun r1778 w1779 h1780 => ?_)
          obtain ⟨rfl, q1781⟩ := h1780
          obtain ⟨rfl, q1781z⟩ | ⟨q1781z, q1781b, q1781, q1781s, q1781t⟩ | ⟨q1781z, q1781b, q1781, q1781T, q1781H, q1781r⟩ := q1781
          · show e_Ok 20 elay ecode eI (d + 1) 351 (70, [(3, (0, w 275 78)), (2, (0, w 275 82)), (1, (0, w 275 80)), (0, (1, 275))], [], w1279) _
            rw [u1292.out] at q1781z
            refine e_Ok.run (t' := (74, [(3, (0, w 275 78)), (2, (0, w 275 82)), (1, (0, w 275 80)), (0, (1, 275))], [(0, 0), (0, 47), (1, 275)], w1279)) 3 rfl ?_
            refine e_Ok.callV rfl (Nat.le_trans (by decide) hdq) rfl rfl rfl rfl (c_336 c1295.1 (n := w 275 78 + 1) u1282.out (by omega) (s := w 275 81) u1285.out (by omega)) (fun r1782 w1783 h1784 => ?_)
            obtain ⟨rfl, q1785⟩ := h1784
            replace q1785 := (show Hid (EM w1279 w1783 (w 275 78 + 1) 47 (0) (w 275 81)) from q1785)
            have u1786 : Hid (w1783 275 78 = w 275 78 + 2) := Hid.mk (Eq.trans q1785.out.2.2.2.2 (by omega))
            have u1787 : Hid (w1783 275 79 = w 275 79) := Hid.mk (Eq.trans (q1785.out.fld (by decide)) u1283.out)
            have u1788 : Hid (w1783 275 80 = w 275 80 + 1) := Hid.mk (Eq.trans (q1785.out.fld (by decide)) u1284.out)
            have u1789 : Hid (w1783 275 81 = w 275 81) := Hid.mk (Eq.trans (q1785.out.fld (by decide)) u1285.out)
            have u1791 : Hid (w1783 275 83 = w 275 83 + 1) := Hid.mk (Eq.trans (q1785.out.fld (by decide)) u1287.out)
            have u1792 : Hid (w1783 275 84 = w 275 84) := Hid.mk (Eq.trans (q1785.out.fld (by decide)) u1288.out)
            have u1793 : Hid (w1783 275 85 = w 275 85) := Hid.mk (Eq.trans (q1785.out.fld (by decide)) u1289.out)
            have u1794 : Hid (w1783 275 86 = w 275 86) := Hid.mk (Eq.trans (q1785.out.fld (by decide)) u1290.out)
            have u1796 : Hid (w1783 275 88 = w5 275 88) := Hid.mk (Eq.trans (q1785.out.fld (by decide)) u1292.out)
            have u1797 : Hid (w1783 275 94 = w 275 94) := Hid.mk (Eq.trans (q1785.out.fld (by decide)) u1293.out)
            have f1798 : e_fr (mStm (w 275 78) (w 275 79) (w 275 80) (w 275 94)) w w1783 := e_fr.trans f1294 (q1785.out.st (by omega))
            have c1799 := cSt.em c1295 q1785.out (by decide) (by omega) (by omega)
            show e_Ok 20 elay ecode eI (d + 1) 351 (77, [(3, (0, w 275 78)), (2, (0, w 275 82)), (1, (0, w 275 80)), (0, (1, 275))], [(0, w 275 78 + 1)], w1783) _
            refine e_Ok.run (t' := (81, [(4, (0, w 275 78 + 1)), (3, (0, w 275 78)), (2, (0, w 275 82)), (1, (0, w 275 80)), (0, (1, 275))], [(0, w 275 80), (1, 275)], w1783)) 3 rfl ?_
            refine e_Ok.putf rfl (el_o rfl) rfl rfl ?_
            generalize hw1800 : e_up w1783 275 82 (w 275 80) = w1800
            have f1801 : e_fr (mStm (w 275 78) (w 275 79) (w 275 80) (w 275 94)) w w1800 := e_fr.up f1798 hw1800 (by unfold mStm; omega)
            have u1802 : Hid (w1800 275 78 = w 275 78 + 2) := Hid.mk (Eq.trans (by rw [← hw1800]; exact e_up_ne _ _ (Or.inr (by decide))) u1786.out)
            have u1803 : Hid (w1800 275 79 = w 275 79) := Hid.mk (Eq.trans (by rw [← hw1800]; exact e_up_ne _ _ (Or.inr (by decide))) u1787.out)
            have u1804 : Hid (w1800 275 80 = w 275 80 + 1) := Hid.mk (Eq.trans (by rw [← hw1800]; exact e_up_ne _ _ (Or.inr (by decide))) u1788.out)
            have u1805 : Hid (w1800 275 81 = w 275 81) := Hid.mk (Eq.trans (by rw [← hw1800]; exact e_up_ne _ _ (Or.inr (by decide))) u1789.out)
            have u1807 : Hid (w1800 275 83 = w 275 83 + 1) := Hid.mk (Eq.trans (by rw [← hw1800]; exact e_up_ne _ _ (Or.inr (by decide))) u1791.out)
            have u1808 : Hid (w1800 275 84 = w 275 84) := Hid.mk (Eq.trans (by rw [← hw1800]; exact e_up_ne _ _ (Or.inr (by decide))) u1792.out)
            have u1809 : Hid (w1800 275 85 = w 275 85) := Hid.mk (Eq.trans (by rw [← hw1800]; exact e_up_ne _ _ (Or.inr (by decide))) u1793.out)
            have u1810 : Hid (w1800 275 86 = w 275 86) := Hid.mk (Eq.trans (by rw [← hw1800]; exact e_up_ne _ _ (Or.inr (by decide))) u1794.out)
            have u1812 : Hid (w1800 275 88 = w5 275 88) := Hid.mk (Eq.trans (by rw [← hw1800]; exact e_up_ne _ _ (Or.inr (by decide))) u1796.out)
            have u1813 : Hid (w1800 275 94 = w 275 94) := Hid.mk (Eq.trans (by rw [← hw1800]; exact e_up_ne _ _ (Or.inr (by decide))) u1797.out)
            have c1814 := cSt.wr c1799 hw1800 (Or.inr rfl) (by omega) rfl (fun _ => ⟨⟨by decide, by decide⟩, fun y => absurd y (by decide)⟩)
            refine e_Ok.run (t' := (85, [(4, (0, w 275 78 + 1)), (3, (0, w 275 78)), (2, (0, w 275 82)), (1, (0, w 275 80)), (0, (1, 275))], [(1, 275)], w1800)) 1 rfl ?_
            refine e_Ok.callV rfl (Nat.le_trans (by decide) hdq) rfl rfl rfl rfl (c_348_0 (Nat.le_trans (by decide) hdq) c1814 (by rw [u1812.out] <;> omega)) (fun r1815 w1816 h1817 => ?_)
            obtain ⟨rfl, rfl⟩ := h1817
            show e_Ok 20 elay ecode eI (d + 1) 351 (88, [(4, (0, w 275 78 + 1)), (3, (0, w 275 78)), (2, (0, w 275 82)), (1, (0, w 275 80)), (0, (1, 275))], [], w1800) _
            refine e_Ok.run (t' := (90, [(4, (0, w 275 78 + 1)), (3, (0, w 275 78)), (2, (0, w 275 82)), (1, (0, w 275 80)), (0, (1, 275))], [(0, w 275 82), (1, 275)], w1800)) 2 rfl ?_
            refine e_Ok.putf rfl (el_o rfl) rfl rfl ?_
            generalize hw1818 : e_up w1800 275 82 (w 275 82) = w1818
            have f1819 : e_fr (mStm (w 275 78) (w 275 79) (w 275 80) (w 275 94)) w w1818 := e_fr.up f1801 hw1818 (by unfold mStm; omega)
            have u1820 : Hid (w1818 275 78 = w 275 78 + 2) := Hid.mk (Eq.trans (by rw [← hw1818]; exact e_up_ne _ _ (Or.inr (by decide))) u1802.out)
            have u1821 : Hid (w1818 275 79 = w 275 79) := Hid.mk (Eq.trans (by rw [← hw1818]; exact e_up_ne _ _ (Or.inr (by decide))) u1803.out)
            have u1822 : Hid (w1818 275 80 = w 275 80 + 1) := Hid.mk (Eq.trans (by rw [← hw1818]; exact e_up_ne _ _ (Or.inr (by decide))) u1804.out)
            have u1823 : Hid (w1818 275 81 = w 275 81) := Hid.mk (Eq.trans (by rw [← hw1818]; exact e_up_ne _ _ (Or.inr (by decide))) u1805.out)
            have u1824 : Hid (w1818 275 82 = w 275 82) := Hid.mk (by rw [← hw1818]; exact e_up_eq _ _ _ _)
            have u1825 : Hid (w1818 275 83 = w 275 83 + 1) := Hid.mk (Eq.trans (by rw [← hw1818]; exact e_up_ne _ _ (Or.inr (by decide))) u1807.out)
            have u1826 : Hid (w1818 275 84 = w 275 84) := Hid.mk (Eq.trans (by rw [← hw1818]; exact e_up_ne _ _ (Or.inr (by decide))) u1808.out)
            have u1827 : Hid (w1818 275 85 = w 275 85) := Hid.mk (Eq.trans (by rw [← hw1818]; exact e_up_ne _ _ (Or.inr (by decide))) u1809.out)
            have u1828 : Hid (w1818 275 86 = w 275 86) := Hid.mk (Eq.trans (by rw [← hw1818]; exact e_up_ne _ _ (Or.inr (by decide))) u1810.out)
            have u1830 : Hid (w1818 275 88 = w5 275 88) := Hid.mk (Eq.trans (by rw [← hw1818]; exact e_up_ne _ _ (Or.inr (by decide))) u1812.out)
            have u1831 : Hid (w1818 275 94 = w 275 94) := Hid.mk (Eq.trans (by rw [← hw1818]; exact e_up_ne _ _ (Or.inr (by decide))) u1813.out)
            have c1832 := cSt.wr c1814 hw1818 (Or.inr rfl) (by omega) rfl (fun _ => ⟨⟨by decide, by decide⟩, fun y => absurd y (by decide)⟩)
            refine e_Ok.run (t' := (97, [(4, (0, w 275 78 + 1)), (3, (0, w 275 78)), (2, (0, w 275 82)), (1, (0, w 275 80)), (0, (1, 275))], [(0, w 275 78), (0, 48), (1, 275)], w1818)) 3 rfl ?_
            refine e_Ok.callV rfl (Nat.le_trans (by decide) hdq) rfl rfl rfl rfl (c_336 c1832.1 (n := w 275 78 + 2) u1820.out (by omega) (s := w 275 81) u1823.out (by omega)) (fun r1833 w1834 h1835 => ?_)
            obtain ⟨rfl, q1836⟩ := h1835
            replace q1836 := (show Hid (EM w1818 w1834 (w 275 78 + 2) 48 (w 275 78) (w 275 81)) from q1836)
            have u1837 : Hid (w1834 275 78 = w 275 78 + 3) := Hid.mk (Eq.trans q1836.out.2.2.2.2 (by omega))
            have u1838 : Hid (w1834 275 79 = w 275 79) := Hid.mk (Eq.trans (q1836.out.fld (by decide)) u1821.out)
            have u1839 : Hid (w1834 275 80 = w 275 80 + 1) := Hid.mk (Eq.trans (q1836.out.fld (by decide)) u1822.out)
            have u1840 : Hid (w1834 275 81 = w 275 81) := Hid.mk (Eq.trans (q1836.out.fld (by decide)) u1823.out)
            have u1841 : Hid (w1834 275 82 = w 275 82) := Hid.mk (Eq.trans (q1836.out.fld (by decide)) u1824.out)
            have u1842 : Hid (w1834 275 83 = w 275 83 + 1) := Hid.mk (Eq.trans (q1836.out.fld (by decide)) u1825.out)
            have u1843 : Hid (w1834 275 84 = w 275 84) := Hid.mk (Eq.trans (q1836.out.fld (by decide)) u1826.out)
            have u1844 : Hid (w1834 275 85 = w 275 85) := Hid.mk (Eq.trans (q1836.out.fld (by decide)) u1827.out)
            have u1845 : Hid (w1834 275 86 = w 275 86) := Hid.mk (Eq.trans (q1836.out.fld (by decide)) u1828.out)
            have u1847 : Hid (w1834 275 88 = w5 275 88) := Hid.mk (Eq.trans (q1836.out.fld (by decide)) u1830.out)
            have u1848 : Hid (w1834 275 94 = w 275 94) := Hid.mk (Eq.trans (q1836.out.fld (by decide)) u1831.out)
            have f1849 : e_fr (mStm (w 275 78) (w 275 79) (w 275 80) (w 275 94)) w w1834 := e_fr.trans f1819 (q1836.out.st (by omega))
            have c1850 := cSt.em c1832 q1836.out (by decide) (by omega) (by omega)
            show e_Ok 20 elay ecode eI (d + 1) 351 (100, [(4, (0, w 275 78 + 1)), (3, (0, w 275 78)), (2, (0, w 275 82)), (1, (0, w 275 80)), (0, (1, 275))], [(0, w 275 78 + 2)], w1834) _
            refine e_Ok.run (t' := (104, [(4, (0, w 275 78 + 1)), (3, (0, w 275 78)), (2, (0, w 275 82)), (1, (0, w 275 80)), (0, (1, 275))], [(0, w 275 78 + 1), (1, 275)], w1834)) 3 rfl ?_
            refine e_Ok.callV rfl (Nat.le_trans (by decide) hdq) rfl rfl rfl rfl (c_337 c1850.1 (n := w 275 78 + 3) u1837.out (by omega) (by omega)) (fun r1851 w1852 h1853 => ?_)
            obtain ⟨rfl, q1854⟩ := h1853
            have f1855 : e_fr (mStm (w 275 78) (w 275 79) (w 275 80) (w 275 94)) w w1852 := e_fr.up f1849 q1854 (by unfold mStm; omega)
            have u1856 : Hid (w1852 275 78 = w 275 78 + 3) := Hid.mk (Eq.trans (by rw [← q1854]; exact e_up_ne _ _ (Or.inl (by decide))) u1837.out)
            have u1857 : Hid (w1852 275 79 = w 275 79) := Hid.mk (Eq.trans (by rw [← q1854]; exact e_up_ne _ _ (Or.inl (by decide))) u1838.out)
            have u1858 : Hid (w1852 275 80 = w 275 80 + 1) := Hid.mk (Eq.trans (by rw [← q1854]; exact e_up_ne _ _ (Or.inl (by decide))) u1839.out)
            have u1859 : Hid (w1852 275 81 = w 275 81) := Hid.mk (Eq.trans (by rw [← q1854]; exact e_up_ne _ _ (Or.inl (by decide))) u1840.out)
            have u1860 : Hid (w1852 275 82 = w 275 82) := Hid.mk (Eq.trans (by rw [← q1854]; exact e_up_ne _ _ (Or.inl (by decide))) u1841.out)
            have u1861 : Hid (w1852 275 83 = w 275 83 + 1) := Hid.mk (Eq.trans (by rw [← q1854]; exact e_up_ne _ _ (Or.inl (by decide))) u1842.out)
            have u1862 : Hid (w1852 275 84 = w 275 84) := Hid.mk (Eq.trans (by rw [← q1854]; exact e_up_ne _ _ (Or.inl (by decide))) u1843.out)
            have u1863 : Hid (w1852 275 85 = w 275 85) := Hid.mk (Eq.trans (by rw [← q1854]; exact e_up_ne _ _ (Or.inl (by decide))) u1844.out)
            have u1864 : Hid (w1852 275 86 = w 275 86) := Hid.mk (Eq.trans (by rw [← q1854]; exact e_up_ne _ _ (Or.inl (by decide))) u1845.out)
            have u1866 : Hid (w1852 275 88 = w5 275 88) := Hid.mk (Eq.trans (by rw [← q1854]; exact e_up_ne _ _ (Or.inl (by decide))) u1847.out)
            have u1867 : Hid (w1852 275 94 = w 275 94) := Hid.mk (Eq.trans (by rw [← q1854]; exact e_up_ne _ _ (Or.inl (by decide))) u1848.out)
            have c1868 := cSt.wr c1850 q1854 (Or.inl rfl) (by omega) rfl (fun y => absurd y (by decide))
            show e_Ok 20 elay ecode eI (d + 1) 351 (107, [(4, (0, w 275 78 + 1)), (3, (0, w 275 78)), (2, (0, w 275 82)), (1, (0, w 275 80)), (0, (1, 275))], [], w1852) _
            refine e_Ok.run (t' := (108, [(4, (0, w 275 78 + 1)), (3, (0, w 275 78)), (2, (0, w 275 82)), (1, (0, w 275 80)), (0, (1, 275))], [(1, 275)], w1852)) 1 rfl ?_
            refine e_Ok.getr (z := 336) rfl (el_o rfl) rfl rfl ((f1855 275 73 (by unfold mStm; omega)).trans (e_Has.eq hc.1 rfl)) (by omega) ?_
            refine e_Ok.run (t' := (115, [(4, (0, w 275 78 + 1)), (3, (0, w 275 78)), (2, (0, w 275 82)), (1, (0, w 275 80)), (0, (1, 275))], [(0, w 275 80), (0, 3600), (1, 336)], w1852)) 2 rfl ?_
            refine e_Ok.add (z := w 275 80 + 3600) rfl (by omega) (by omega) ?_
            refine e_Ok.run (t' := (117, [(4, (0, w 275 78 + 1)), (3, (0, w 275 78)), (2, (0, w 275 82)), (1, (0, w 275 80)), (0, (1, 275))], [(1, 275), (0, w 275 80 + 3600), (1, 336)], w1852)) 1 rfl ?_
            refine e_Ok.getf (z := w 275 78 + 3) rfl (el_o rfl) rfl rfl u1856.out (by omega) ?_
            refine e_Ok.ast rfl (el_o rfl) rfl rfl (by omega) ?_
            generalize hw1869 : e_up w1852 336 (w 275 80 + 3600) (w 275 78 + 3) = w1869
            have f1870 : e_fr (mStm (w 275 78) (w 275 79) (w 275 80) (w 275 94)) w w1869 := e_fr.up f1855 hw1869 (by unfold mStm; omega)
            have u1871 : Hid (w1869 275 78 = w 275 78 + 3) := Hid.mk (Eq.trans (by rw [← hw1869]; exact e_up_ne _ _ (Or.inl (by decide))) u1856.out)
            have u1872 : Hid (w1869 275 79 = w 275 79) := Hid.mk (Eq.trans (by rw [← hw1869]; exact e_up_ne _ _ (Or.inl (by decide))) u1857.out)
            have u1873 : Hid (w1869 275 80 = w 275 80 + 1) := Hid.mk (Eq.trans (by rw [← hw1869]; exact e_up_ne _ _ (Or.inl (by decide))) u1858.out)
            have u1874 : Hid (w1869 275 81 = w 275 81) := Hid.mk (Eq.trans (by rw [← hw1869]; exact e_up_ne _ _ (Or.inl (by decide))) u1859.out)
            have u1875 : Hid (w1869 275 82 = w 275 82) := Hid.mk (Eq.trans (by rw [← hw1869]; exact e_up_ne _ _ (Or.inl (by decide))) u1860.out)
            have u1876 : Hid (w1869 275 83 = w 275 83 + 1) := Hid.mk (Eq.trans (by rw [← hw1869]; exact e_up_ne _ _ (Or.inl (by decide))) u1861.out)
            have u1877 : Hid (w1869 275 84 = w 275 84) := Hid.mk (Eq.trans (by rw [← hw1869]; exact e_up_ne _ _ (Or.inl (by decide))) u1862.out)
            have u1878 : Hid (w1869 275 85 = w 275 85) := Hid.mk (Eq.trans (by rw [← hw1869]; exact e_up_ne _ _ (Or.inl (by decide))) u1863.out)
            have u1879 : Hid (w1869 275 86 = w 275 86) := Hid.mk (Eq.trans (by rw [← hw1869]; exact e_up_ne _ _ (Or.inl (by decide))) u1864.out)
            have u1881 : Hid (w1869 275 88 = w5 275 88) := Hid.mk (Eq.trans (by rw [← hw1869]; exact e_up_ne _ _ (Or.inl (by decide))) u1866.out)
            have u1882 : Hid (w1869 275 94 = w 275 94) := Hid.mk (Eq.trans (by rw [← hw1869]; exact e_up_ne _ _ (Or.inl (by decide))) u1867.out)
            have c1883 := cSt.wr c1868 hw1869 (Or.inl rfl) (by omega) rfl (fun y => absurd y (by decide))
            refine e_Ok.run (t' := (124, [(4, (0, w 275 78 + 1)), (3, (0, w 275 78)), (2, (0, w 275 82)), (1, (0, w 275 80)), (0, (1, 275))], [(0, 2), (1, 275), (1, 275)], w1869)) 3 rfl ?_
            refine e_Ok.callV rfl (Nat.le_trans (by decide) hdq) rfl rfl rfl rfl (c_332 c1883.1 (N := N) c1883.2.2.2.1) (fun r1884 w1885 h1886 => ?_)
            obtain ⟨z1887, rfl, rfl, q1888⟩ := h1886
            obtain ⟨rfl, q1888, q1888b⟩ | ⟨rfl, q1888n⟩ := q1888
            · show e_Ok 20 elay ecode eI (d + 1) 351 (127, [(4, (0, w 275 78 + 1)), (3, (0, w 275 78)), (2, (0, w 275 82)), (1, (0, w 275 80)), (0, (1, 275))], [(0, 1), (1, 275)], w1869) _
              rw [u1877.out] at q1888
              rw [u1878.out] at q1888b
              refine e_Ok.callV rfl (Nat.le_trans (by decide) hdq) rfl rfl rfl rfl (c_334 (Nat.le_trans (by decide) hdq) c1883.1 c1883.2.1 c1883.2.2.1 hNr c1883.2.2.2.1 (by decide)) (fun r1889 w1890 h1891 => ?_)
              obtain ⟨rfl, q1892⟩ := h1891
              obtain ⟨rfl, q1892z⟩ | ⟨q1892z, q1892b, q1892, q1892s, q1892t⟩ | ⟨q1892z, q1892b, q1892, q1892T, q1892H, q1892r⟩ := q1892
              · show e_Ok 20 elay ecode eI (d + 1) 351 (130, [(4, (0, w 275 78 + 1)), (3, (0, w 275 78)), (2, (0, w 275 82)), (1, (0, w 275 80)), (0, (1, 275))], [], w1869) _
                rw [u1881.out] at q1892z
                refine e_Ok.run (t' := (132, [(4, (0, w 275 78 + 1)), (3, (0, w 275 78)), (2, (0, w 275 82)), (1, (0, w 275 80)), (0, (1, 275))], [(1, 275), (1, 275)], w1869)) 2 rfl ?_
                refine e_Ok.getf (z := w 275 83 + 1) rfl (el_o rfl) rfl rfl u1876.out (by omega) ?_
                refine e_Ok.run (t' := (136, [(4, (0, w 275 78 + 1)), (3, (0, w 275 78)), (2, (0, w 275 82)), (1, (0, w 275 80)), (0, (1, 275))], [(0, 1), (0, w 275 83 + 1), (1, 275)], w1869)) 1 rfl ?_
                refine e_Ok.sub' (z := w 275 83) rfl (by omega) (by omega) ?_
                refine e_Ok.putf rfl (el_o rfl) rfl rfl ?_
                generalize hw1893 : e_up w1869 275 83 (w 275 83) = w1893
                have f1894 : e_fr (mStm (w 275 78) (w 275 79) (w 275 80) (w 275 94)) w w1893 := e_fr.up f1870 hw1893 (by unfold mStm; omega)
                have e1895 := up83 hw1893
                replace e1895 := (show Hid _ from e1895)
                have u1896 : Hid (w1893 275 78 = w 275 78 + 3) := Hid.mk (Eq.trans (e1895.out.1 275 78 (by decide)) u1871.out)
                have u1897 : Hid (w1893 275 79 = w 275 79) := Hid.mk (Eq.trans (e1895.out.1 275 79 (by decide)) u1872.out)
                have u1898 : Hid (w1893 275 80 = w 275 80 + 1) := Hid.mk (Eq.trans (e1895.out.1 275 80 (by decide)) u1873.out)
                have u1899 : Hid (w1893 275 81 = w 275 81) := Hid.mk (Eq.trans (e1895.out.1 275 81 (by decide)) u1874.out)
                have u1900 : Hid (w1893 275 82 = w 275 82) := Hid.mk (Eq.trans (e1895.out.1 275 82 (by decide)) u1875.out)
                have u1901 : Hid (w1893 275 83 = w 275 83) := Hid.mk (e1895.out.2)
                have u1904 : Hid (w1893 275 86 = w 275 86) := Hid.mk (Eq.trans (e1895.out.1 275 86 (by decide)) u1879.out)
                have u1906 : Hid (w1893 275 88 = w5 275 88) := Hid.mk (Eq.trans (e1895.out.1 275 88 (by decide)) u1881.out)
                have u1907 : Hid (w1893 275 94 = w 275 94) := Hid.mk (Eq.trans (e1895.out.1 275 94 (by decide)) u1882.out)
                have c1908 := cSt.up c1883 hw1893
                refine e_Ok.rets rfl rfl ?_
                exact ⟨rfl, f1894, c1908, (by unfold stL; rw [u1896.out, u1897.out, u1898.out, u1899.out, u1900.out, u1901.out, u1904.out, u1906.out, u1907.out]; omega), (fun z => by rw [u1906.out] at z; exact absurd z (by omega))⟩
              · rw [u1881.out] at q1892z; exact absurd q1892z (by omega)
              · rw [u1881.out] at q1892z; exact absurd q1892z (by omega)
            · show e_Ok 20 elay ecode eI (d + 1) 351 (127, [(4, (0, w 275 78 + 1)), (3, (0, w 275 78)), (2, (0, w 275 82)), (1, (0, w 275 80)), (0, (1, 275))], [(0, 0), (1, 275)], w1869) _
              clear q1888n
              refine e_Ok.callV rfl (Nat.le_trans (by decide) hdq) rfl rfl rfl rfl (c_334 (Nat.le_trans (by decide) hdq) c1883.1 c1883.2.1 c1883.2.2.1 hNr c1883.2.2.2.1 (by decide)) (fun r1909 w1910 h1911 => ?_)
              obtain ⟨rfl, q1912⟩ := h1911
              obtain ⟨rfl, q1912z⟩ | ⟨q1912z, q1912b, q1912, q1912s, q1912t⟩ | ⟨q1912z, q1912b, q1912, q1912T, q1912H, q1912r⟩ := q1912
              · show e_Ok 20 elay ecode eI (d + 1) 351 (130, [(4, (0, w 275 78 + 1)), (3, (0, w 275 78)), (2, (0, w 275 82)), (1, (0, w 275 80)), (0, (1, 275))], [], w1869) _
                rw [u1881.out] at q1912z
                refine e_Ok.run (t' := (132, [(4, (0, w 275 78 + 1)), (3, (0, w 275 78)), (2, (0, w 275 82)), (1, (0, w 275 80)), (0, (1, 275))], [(1, 275), (1, 275)], w1869)) 2 rfl ?_
                refine e_Ok.getf (z := w 275 83 + 1) rfl (el_o rfl) rfl rfl u1876.out (by omega) ?_
                refine e_Ok.run (t' := (136, [(4, (0, w 275 78 + 1)), (3, (0, w 275 78)), (2, (0, w 275 82)), (1, (0, w 275 80)), (0, (1, 275))], [(0, 1), (0, w 275 83 + 1), (1, 275)], w1869)) 1 rfl ?_
                refine e_Ok.sub' (z := w 275 83) rfl (by omega) (by omega) ?_
                refine e_Ok.putf rfl (el_o rfl) rfl rfl ?_
                generalize hw1913 : e_up w1869 275 83 (w 275 83) = w1913
                have f1914 : e_fr (mStm (w 275 78) (w 275 79) (w 275 80) (w 275 94)) w w1913 := e_fr.up f1870 hw1913 (by unfold mStm; omega)
                have e1915 := up83 hw1913
                replace e1915 := (show Hid _ from e1915)
                have u1916 : Hid (w1913 275 78 = w 275 78 + 3) := Hid.mk (Eq.trans (e1915.out.1 275 78 (by decide)) u1871.out)
                have u1917 : Hid (w1913 275 79 = w 275 79) := Hid.mk (Eq.trans (e1915.out.1 275 79 (by decide)) u1872.out)
                have u1918 : Hid (w1913 275 80 = w 275 80 + 1) := Hid.mk (Eq.trans (e1915.out.1 275 80 (by decide)) u1873.out)
                have u1919 : Hid (w1913 275 81 = w 275 81) := Hid.mk (Eq.trans (e1915.out.1 275 81 (by decide)) u1874.out)
                have u1920 : Hid (w1913 275 82 = w 275 82) := Hid.mk (Eq.trans (e1915.out.1 275 82 (by decide)) u1875.out)
                have u1921 : Hid (w1913 275 83 = w 275 83) := Hid.mk (e1915.out.2)
                have u1924 : Hid (w1913 275 86 = w 275 86) := Hid.mk (Eq.trans (e1915.out.1 275 86 (by decide)) u1879.out)
                have u1926 : Hid (w1913 275 88 = w5 275 88) := Hid.mk (Eq.trans (e1915.out.1 275 88 (by decide)) u1881.out)
                have u1927 : Hid (w1913 275 94 = w 275 94) := Hid.mk (Eq.trans (e1915.out.1 275 94 (by decide)) u1882.out)
                have c1928 := cSt.up c1883 hw1913
                refine e_Ok.rets rfl rfl ?_
                exact ⟨rfl, f1914, c1928, (by unfold stL; rw [u1916.out, u1917.out, u1918.out, u1919.out, u1920.out, u1921.out, u1924.out, u1926.out, u1927.out]; omega), (fun z => by rw [u1926.out] at z; exact absurd z (by omega))⟩
              · rw [u1881.out] at q1912z; exact absurd q1912z (by omega)
              · rw [u1881.out] at q1912z; exact absurd q1912z (by omega)
          · rw [u1292.out] at q1781z; exact absurd q1781z (by omega)
          · rw [u1292.out] at q1781z; exact absurd q1781z (by omega)
      · rw [u1292.out] at q1618z; exact absurd q1618z (by omega)
      · rw [u1292.out] at q1618z; exact absurd q1618z (by omega)
end
