noncomputable section
theorem no_bb_0 {n : Int} {nt : Int} {nw : Int} {m : Int} : ¬ mStm n nt nw m 275 72 := by unfold mStm; omega
theorem no_bb_1 {n : Int} {nt : Int} {nw : Int} {m : Int} : ¬ mStm n nt nw m 275 73 := by unfold mStm; omega
set_option maxHeartbeats 4000000 in
theorem c_351 {d : Nat} (hd : 309 ≤ d) {w : eW} {N o O F : Int} {P OW : Int → Prop} (hc : cSt w N) (hNr : 0 ≤ N ∧ N ≤ 4000) (h0 : w 275 88 = 0) (ho : w 275 83 = o) (hv : w 275 82 = -1 ∨ OW (w 275 82)) (hb : stB w N o) (hO : O ≤ o) (hG : GB w N (w 275 78) (w 275 94) (w 275 79) (w 275 80) P (w 275 81) OW O) (hor : 0 ≤ o ∧ o ≤ 30) (hF : 300 ≤ F ∧ F ≤ 700) (hS : o < 30 → ∀ k, d = k + 1 → stC 348 0 (o + 1) F k) : e_Ok 20 elay ecode eI d 351 (0, [(0, (1, 275))], [], w) (fun r w' => r = [] ∧ stQ w w' N P OW O 1 (F + 10)) := by
  obtain ⟨d, rfl⟩ : ∃ e, d = e + 1 := ⟨d - 1, by omega⟩
  have hdq : 308 ≤ d := by omega
  have hct := tkS.lin hc.2.2.2.1
  have hcf := e_Has.get hc.2.1 (c := 275) (k := 88) (lo := 0) (hi := 7) rfl (by decide)
  have hsb := hc.2.2.2.2
  unfold stB at hb
  have hvr : -1 ≤ w 275 82 ∧ w 275 82 ≤ 900 := by rcases hv with g | g; omega; have := hG.1.2.2.2.2.2.2.2.1 _ g; omega
  replace hv := (show Hid _ from hv)
  have hgH : Hid (w 275 88 = 0 → GB w N (w 275 78) (w 275 94) (w 275 79) (w 275 80) P (w 275 81) OW O) := Hid.mk (fun _ => hG)
  refine e_Ok.ps1 (x := (1, 275)) (q := 1) 1 rfl ?_
  refine e_Ok.callV rfl (Nat.le_trans (by decide) hdq) rfl rfl rfl rfl (c_335 (Nat.le_trans (by decide) hdq) hc.1 hc.2.1 hc.2.2.1 hNr hc.2.2.2.1 (o := w 275 83) rfl (by omega)) (fun r1 w2 h3 => ?_)
  obtain ⟨rfl, -, q4⟩ := h3
  obtain ⟨q4, q4n⟩ | ⟨q4z, q4n, w5, q4u, q4, q4T, q4H, q4r⟩ := q4
  · refine e_Ok.nrm (q := 4) (st' := []) rfl rfl ?_
    have e6 := up83 q4
    replace e6 := (show Hid _ from e6)
    refine e_Ok.ps1 (x := (1, 275)) (q := 5) 1 rfl ?_
    refine e_Ok.getf (z := w 275 80) rfl (el_o rfl) rfl (ef_o rfl) (show Hid (w2 275 80 = w 275 80) from Hid.mk (e6.out.1 275 80 (by decide))).out (by omega) ?_
    refine e_Ok.run (t' := (11, [(1, (0, w 275 80)), (0, (1, 275))], [(1, 275), (1, 275)], w2)) 3 rfl ?_
    refine e_Ok.getf (z := w 275 80) rfl (el_o rfl) rfl (ef_o rfl) (show Hid (w2 275 80 = w 275 80) from Hid.mk (e6.out.1 275 80 (by decide))).out (by omega) ?_
    refine e_Ok.ps1 (x := (0, 1)) (q := 15) 1 rfl ?_
    refine e_Ok.add (z := w 275 80 + 1) rfl rfl (by omega) ?_
    refine e_Ok.putf rfl (el_o rfl) rfl (ef_o rfl) ?_
    generalize hw22 : e_up w2 275 80 (w 275 80 + 1) = w22
    have f23 : e_fr (mStm (w 275 78) (w 275 79) (w 275 80) (w 275 94)) w w22 := e_fr.up (show e_fr (mStm (w 275 78) (w 275 79) (w 275 80) (w 275 94)) w w2 from e_fr.trans (e_fr.refl w) (fun c k g => e6.out.1 c k (fun g2 => g (mU_St g2)))) hw22 (by first | exact Or.inr (Or.inr (Or.inr (Or.inr ⟨rfl, Or.inl ⟨(by decide), (by decide)⟩⟩))) | (unfold mStm; omega))
    refine e_Ok.ps1 (x := (1, 275)) (q := 20) 1 rfl ?_
    refine e_Ok.getf (z := w 275 82) rfl (el_o rfl) rfl (ef_o rfl) (Hid.upn hw22 (Or.inr (by decide)) (show Hid (w2 275 82 = w 275 82) from Hid.mk (e6.out.1 275 82 (by decide)))).out (by omega) ?_
    refine e_Ok.run (t' := (25, [(2, (0, w 275 82)), (1, (0, w 275 80)), (0, (1, 275))], [(1, 275)], w22)) 2 rfl ?_
    refine e_Ok.getr (z := 335) rfl (el_o rfl) rfl (ef_o rfl) ((f23 275 72 (by first | exact no_bb_0 | (unfold mStm; omega))).trans (e_Has.eq hc.1 rfl)) ⟨by decide, by decide⟩ ?_
    refine e_Ok.ps2 (x := (0, w 275 80)) (y := (0, 3600)) (q := 32) 2 rfl ?_
    refine e_Ok.add (z := w 275 80 + 3600) rfl (Int.add_comm _ _) (by omega) ?_
    refine e_Ok.ps1 (x := (1, 275)) (q := 34) 1 rfl ?_
    refine e_Ok.getf (z := w 275 81) rfl (el_o rfl) rfl (ef_o rfl) (Hid.upn hw22 (Or.inr (by decide)) (show Hid (w2 275 81 = w 275 81) from Hid.mk (e6.out.1 275 81 (by decide)))).out (by omega) ?_
    refine e_Ok.ast rfl (el_o rfl) rfl rfl (by omega) ?_
    generalize hw38 : e_up w22 335 (w 275 80 + 3600) (w 275 81) = w38
    have c53 := cSt.wr (cSt.wr (cSt.up hc q4) hw22 (Or.inr rfl) (by omega) rfl (fun _ => ⟨⟨by decide, by decide⟩, fun y => absurd y (by decide)⟩)) hw38 (Or.inl rfl) (by omega) rfl (fun y => absurd y (by decide))
    have g55 : Hid (w 275 88 = 0 → GB w38 N (w 275 78) (w 275 94) (w 275 79) (w 275 80 + 1) P (w 275 81) (fun v => OW v ∨ v = w 275 80) O) := Hid.mk (fun z => (GB.wb ((show Hid (w 275 88 = 0 → GB w22 N (w 275 78) (w 275 94) (w 275 79) (w 275 80) P (w 275 81) OW O) from Hid.mk (fun z => GB.pr ((show Hid (w 275 88 = 0 → GB w2 N (w 275 78) (w 275 94) (w 275 79) (w 275 80) P (w 275 81) OW O) from Hid.mk (fun z => GB.pr (hgH.out z) (prE.up q4))).out z) (fun c k q => by rw [← hw22]; exact e_up_ne _ _ (by omega)))).out (by omega)) (Eq.trans (Hid.upe hw38).out (show _ = w 275 81 from by omega)) (fun c k y1 y2 => by rw [← hw38]; exact e_up_ne _ _ (by omega))))
    refine e_Ok.ps3 (x := (0, 0)) (y := (0, 30)) (z := (1, 275)) (q := 42) 3 rfl ?_
    refine e_Ok.callV rfl (Nat.le_trans (by decide) hdq) rfl rfl rfl rfl (c_336 c53.1 (n := w 275 78) (Hid.upn hw38 (Or.inl (by decide)) (Hid.upn hw22 (Or.inr (by decide)) (show Hid (w2 275 78 = w 275 78) from Hid.mk (e6.out.1 275 78 (by decide))))).out (by omega) (s := w 275 81) (Hid.upn hw38 (Or.inl (by decide)) (Hid.upn hw22 (Or.inr (by decide)) (show Hid (w2 275 81 = w 275 81) from Hid.mk (e6.out.1 275 81 (by decide))))).out (by omega)) (fun r57 w58 h59 => ?_)
    obtain ⟨rfl, q60⟩ := h59
    replace q60 := (show Hid (EM w38 w58 (w 275 78) 30 (0) (w 275 81)) from q60)
    have u61 : Hid (w58 275 78 = w 275 78 + 1) := Hid.mk (Eq.trans q60.out.2.2.2.2 (by omega))
    have u67 : Hid (w58 275 84 = w 275 84) := Hid.mk (Eq.trans (q60.out.fld (by decide)) (Hid.upn hw38 (Or.inl (by decide)) (Hid.upn hw22 (Or.inr (by decide)) (show Hid (w2 275 84 = w 275 84) from Hid.mk (e6.out.1 275 84 (by decide))))).out)
    have u71 : Hid (w58 275 88 = w 275 88) := Hid.mk (Eq.trans (q60.out.fld (by decide)) (Hid.upn hw38 (Or.inl (by decide)) (Hid.upn hw22 (Or.inr (by decide)) (show Hid (w2 275 88 = w 275 88) from Hid.mk (e6.out.1 275 88 (by decide))))).out)
    have f73 : e_fr (mStm (w 275 78) (w 275 79) (w 275 80) (w 275 94)) w w58 := e_fr.trans (show e_fr (mStm (w 275 78) (w 275 79) (w 275 80) (w 275 94)) w w38 from e_fr.up f23 hw38 (by first | exact Or.inr (Or.inr (Or.inl ⟨⟨(by decide), (by decide)⟩, (by omega)⟩)) | (unfold mStm; omega))) (q60.out.st (by omega))
    have c74 := cSt.em c53 q60.out (by decide) (by omega) (by omega)
    have df79 : Hid (dp w58 (w 275 78) = 0) := Hid.mk (Eq.trans (q60.out.dq (Int.le_refl _)) (g55.out (by omega)).2.1)
    refine e_Ok.nrm (q := 45) (st' := [(0, w 275 78)]) rfl rfl ?_
    refine e_Ok.run (t' := (50, [(3, (0, w 275 78)), (2, (0, w 275 82)), (1, (0, w 275 80)), (0, (1, 275))], [(0, 20), (1, 275), (1, 275)], w58)) 4 rfl ?_
    refine e_Ok.callV rfl (Nat.le_trans (by decide) hdq) rfl rfl rfl rfl (c_332 c74.1 (N := N) c74.2.2.2.1) (fun r80 w81 h82 => ?_)
    obtain ⟨z83, rfl, rfl, q84⟩ := h82
    obtain ⟨rfl, q84, q84b⟩ | ⟨rfl, q84n⟩ := q84
    · refine e_Ok.nrm (q := 53) (st' := [(0, 1), (1, 275)]) rfl rfl ?_
      rw [u67.out] at q84
      rw [(show Hid (w58 275 85 = w 275 85) from Hid.mk (Eq.trans (q60.out.fld (by decide)) (Hid.upn hw38 (Or.inl (by decide)) (Hid.upn hw22 (Or.inr (by decide)) (show Hid (w2 275 85 = w 275 85) from Hid.mk (e6.out.1 275 85 (by decide))))).out)).out] at q84b
      refine e_Ok.callV rfl (Nat.le_trans (by decide) hdq) rfl rfl rfl rfl (c_334 (Nat.le_trans (by decide) hdq) c74.1 c74.2.1 c74.2.2.1 hNr c74.2.2.2.1 (by decide)) (fun r85 w86 h87 => ?_)
      obtain ⟨rfl, q88⟩ := h87
      obtain ⟨rfl, q88z⟩ | ⟨q88z, q88b, q88, q88s, q88t⟩ | ⟨q88z, q88b, q88, q88T, q88H, q88r⟩ := q88
      · rw [u71.out] at q88z; exact absurd q88z (by omega)
      · show e_Ok 20 elay ecode eI (d + 1) 351 (56, [(3, (0, w 275 78)), (2, (0, w 275 82)), (1, (0, w 275 80)), (0, (1, 275))], [], w86) _
        rw [u71.out] at q88z
        rw [(show Hid (w58 275 87 = w 275 87) from Hid.mk (Eq.trans (q60.out.fld (by decide)) (Hid.upn hw38 (Or.inl (by decide)) (Hid.upn hw22 (Or.inr (by decide)) (show Hid (w2 275 87 = w 275 87) from Hid.mk (e6.out.1 275 87 (by decide))))).out)).out] at q88t
        have p89 := tkS.pos c74.2.2.2.1 (by rw [u67.out] <;> omega)
        rw [(show Hid (w58 275 86 = w 275 86) from Hid.mk (Eq.trans (q60.out.fld (by decide)) (Hid.upn hw38 (Or.inl (by decide)) (Hid.upn hw22 (Or.inr (by decide)) (show Hid (w2 275 86 = w 275 86) from Hid.mk (e6.out.1 275 86 (by decide))))).out)).out, (show Hid (w58 275 87 = w 275 87) from Hid.mk (Eq.trans (q60.out.fld (by decide)) (Hid.upn hw38 (Or.inl (by decide)) (Hid.upn hw22 (Or.inr (by decide)) (show Hid (w2 275 87 = w 275 87) from Hid.mk (e6.out.1 275 87 (by decide))))).out)).out] at p89
        have p90 := tkS.key c74.2.2.2.1 (by rw [u67.out] <;> omega)
        rw [(show Hid (w58 275 86 = w 275 86) from Hid.mk (Eq.trans (q60.out.fld (by decide)) (Hid.upn hw38 (Or.inl (by decide)) (Hid.upn hw22 (Or.inr (by decide)) (show Hid (w2 275 86 = w 275 86) from Hid.mk (e6.out.1 275 86 (by decide))))).out)).out, (show Hid (w58 275 87 = w 275 87) from Hid.mk (Eq.trans (q60.out.fld (by decide)) (Hid.upn hw38 (Or.inl (by decide)) (Hid.upn hw22 (Or.inr (by decide)) (show Hid (w2 275 87 = w 275 87) from Hid.mk (e6.out.1 275 87 (by decide))))).out)).out, (show Hid (w58 275 85 = w 275 85) from Hid.mk (Eq.trans (q60.out.fld (by decide)) (Hid.upn hw38 (Or.inl (by decide)) (Hid.upn hw22 (Or.inr (by decide)) (show Hid (w2 275 85 = w 275 85) from Hid.mk (e6.out.1 275 85 (by decide))))).out)).out] at p90
        have u91 : Hid (w86 275 78 = w 275 78 + 1) := Hid.mk (Eq.trans (q88 275 78 (mTq_fld (by decide))) u61.out)
        have u104 : Hid (w86 275 94 = w 275 94) := Hid.mk (Eq.trans (q88 275 94 (mTq_fld (by decide))) (show Hid (w58 275 94 = w 275 94) from Hid.mk (Eq.trans (q60.out.fld (by decide)) (Hid.upn hw38 (Or.inl (by decide)) (Hid.upn hw22 (Or.inr (by decide)) (show Hid (w2 275 94 = w 275 94) from Hid.mk (e6.out.1 275 94 (by decide))))).out)).out)
        have c105 := cSt.tk c74 q88 q88s
        have t106 := tkS.lin c105.2.2.2.1
        have df112 : Hid (dp w86 (w 275 78) = 0) := Hid.mk (Eq.trans (dp_eq (fun k k1 k2 => q88 328 (k + 40000) (mTq_not (by decide)))) df79.out)
        refine e_Ok.run (t' := (57, [(3, (0, w 275 78)), (2, (0, w 275 82)), (1, (0, w 275 80)), (0, (1, 275))], [(1, 275)], w86)) 1 rfl ?_
        refine e_Ok.callV rfl (Nat.le_trans (by decide) hdq) rfl rfl rfl rfl (c_exp (o := w 275 83 + 1) (Nat.le_trans (by decide) hdq) (by omega) w86 N (w 275 79) (w 275 81) (0) (enc P (w 275 78 + 1) (w 275 94)) c105 hNr (by rw [(show Hid (w86 275 88 = w 275 88) from Hid.mk (Eq.trans (q88 275 88 (mTq_fld (by decide))) u71.out)).out] <;> omega) (show Hid (w86 275 83 = w 275 83 + 1) from Hid.mk (Eq.trans (q88 275 83 (mTq_fld (by decide))) (show Hid (w58 275 83 = w 275 83 + 1) from Hid.mk (Eq.trans (q60.out.fld (by decide)) (Hid.upn hw38 (Or.inl (by decide)) (Hid.upn hw22 (Or.inr (by decide)) (show Hid (w2 275 83 = w 275 83 + 1) from Hid.mk (e6.out.2)))).out)).out)).out (show Hid (w86 275 81 = w 275 81) from Hid.mk (Eq.trans (q88 275 81 (mTq_fld (by decide))) (show Hid (w58 275 81 = w 275 81) from Hid.mk (Eq.trans (q60.out.fld (by decide)) (Hid.upn hw38 (Or.inl (by decide)) (Hid.upn hw22 (Or.inr (by decide)) (show Hid (w2 275 81 = w 275 81) from Hid.mk (e6.out.1 275 81 (by decide))))).out)).out)).out (by rw [u91.out, u104.out] <;> omega) (by rw [u91.out, u104.out] <;> exact GS.wf (GA.gs ((show Hid (w 275 88 = 0 → GA w86 N (w 275 78 + 1) (w 275 94) (w 275 79) (w 275 80 + 1) P (w 275 81) (fun v => OW v ∨ v = w 275 80) O) from Hid.mk (fun z => GA.pr ((show Hid (w 275 88 = 0 → GA w58 N (w 275 78 + 1) (w 275 94) (w 275 79) (w 275 80 + 1) P (w 275 81) (fun v => OW v ∨ v = w 275 80) O) from Hid.mk (fun z => (GB.beg (g55.out (by omega)) q60.out))).out z) (prE.tk q88))).out (by omega)))) (by omega)) (fun r113 w114 h115 => ?_)
        obtain ⟨rfl, q116F, q116c, q116l, q116w⟩ := h115
        unfold cLn at q116l
        rw [u91.out, (show Hid (w86 275 83 = w 275 83 + 1) from Hid.mk (Eq.trans (q88 275 83 (mTq_fld (by decide))) (show Hid (w58 275 83 = w 275 83 + 1) from Hid.mk (Eq.trans (q60.out.fld (by decide)) (Hid.upn hw38 (Or.inl (by decide)) (Hid.upn hw22 (Or.inr (by decide)) (show Hid (w2 275 83 = w 275 83 + 1) from Hid.mk (e6.out.2)))).out)).out)).out, u104.out] at q116l
        rw [u91.out, u104.out] at q116F
        obtain ⟨q1161, q1162, q1163, q1164, q1165, q1166, q1167, q1168, q1169⟩ := q116l
        replace q116w := (show Hid _ from q116w)
        have u117 : Hid (w114 275 79 = w 275 79) := Hid.mk (Eq.trans (q116F 275 79 (mEx_fld (by decide))) (show Hid (w86 275 79 = w 275 79) from Hid.mk (Eq.trans (q88 275 79 (mTq_fld (by decide))) (show Hid (w58 275 79 = w 275 79) from Hid.mk (Eq.trans (q60.out.fld (by decide)) (Hid.upn hw38 (Or.inl (by decide)) (Hid.upn hw22 (Or.inr (by decide)) (show Hid (w2 275 79 = w 275 79) from Hid.mk (e6.out.1 275 79 (by decide))))).out)).out)).out)
        have u118 : Hid (w114 275 80 = w 275 80 + 1) := Hid.mk (Eq.trans (q116F 275 80 (mEx_fld (by decide))) (show Hid (w86 275 80 = w 275 80 + 1) from Hid.mk (Eq.trans (q88 275 80 (mTq_fld (by decide))) (show Hid (w58 275 80 = w 275 80 + 1) from Hid.mk (Eq.trans (q60.out.fld (by decide)) (Hid.upn hw38 (Or.inl (by decide)) (Hid.upe hw22)).out)).out)).out)
        have u119 : Hid (w114 275 81 = w 275 81) := Hid.mk (Eq.trans (q116F 275 81 (mEx_fld (by decide))) (show Hid (w86 275 81 = w 275 81) from Hid.mk (Eq.trans (q88 275 81 (mTq_fld (by decide))) (show Hid (w58 275 81 = w 275 81) from Hid.mk (Eq.trans (q60.out.fld (by decide)) (Hid.upn hw38 (Or.inl (by decide)) (Hid.upn hw22 (Or.inr (by decide)) (show Hid (w2 275 81 = w 275 81) from Hid.mk (e6.out.1 275 81 (by decide))))).out)).out)).out)
        have t121 := tkS.lin q116c.2.2.2.1
        have t122 := e_Has.get q116c.2.1 (c := 275) (k := 88) (lo := 0) (hi := 7) rfl (by decide)
        have f123 : e_fr (mStm (w 275 78) (w 275 79) (w 275 80) (w 275 94)) w w114 := e_fr.trans (show e_fr (mStm (w 275 78) (w 275 79) (w 275 80) (w 275 94)) w w86 from e_fr.trans f73 (e_fr.mono q88 (fun c k g => mTq_St g))) (e_fr.mono q116F (fun c k g => mEx_St (by omega) (by omega) g))
        have q116x : Hid (w114 275 88 = 0 → GS w114 N (w114 275 78) (w114 275 94) (w 275 79) (w 275 80 + 1) P (w 275 81) (fun v => OW v ∨ v = w 275 80) O (0 + 1) ∧ (∀ p, w 275 78 + 1 ≤ p → p < w114 275 78 → w114 330 (p + 40000) = w 275 81) ∧ dp w114 (w 275 78 + 1) = 0 ∧ ((0 : Int) ≠ 0 + 1 → w 275 78 + 1 < w114 275 78)) := Hid.mk (fun z => GS.ex (GA.gs ((show Hid (w 275 88 = 0 → GA w86 N (w 275 78 + 1) (w 275 94) (w 275 79) (w 275 80 + 1) P (w 275 81) (fun v => OW v ∨ v = w 275 80) O) from Hid.mk (fun z => GA.pr ((show Hid (w 275 88 = 0 → GA w58 N (w 275 78 + 1) (w 275 94) (w 275 79) (w 275 80 + 1) P (w 275 81) (fun v => OW v ∨ v = w 275 80) O) from Hid.mk (fun z => (GB.beg (g55.out (by omega)) q60.out))).out z) (prE.tk q88))).out (by omega))) q116F (by omega) (by omega) (q116w.out z))
        have df128 : Hid (dp w114 (w 275 78) = 0) := Hid.mk (Eq.trans (dp_eq (fun k k1 k2 => q116F 328 (k + 40000) (mEx_lt (by decide) (by omega)))) df112.out)
        show e_Ok 20 elay ecode eI (d + 1) 351 (60, [(3, (0, w 275 78)), (2, (0, w 275 82)), (1, (0, w 275 80)), (0, (1, 275))], [], w114) _
        refine e_Ok.ps3 (x := (0, 58)) (y := (1, 275)) (z := (1, 275)) (q := 64) 3 rfl ?_
        refine e_Ok.callV rfl (Nat.le_trans (by decide) hdq) rfl rfl rfl rfl (c_331 q116c.1 (N := N) q116c.2.2.2.1) (fun r129 w130 h131 => ?_)
        obtain ⟨z132, rfl, rfl, q133⟩ := h131
        obtain ⟨rfl, q133, q133b⟩ | ⟨rfl, q133n⟩ := q133
        · refine e_Ok.nrm (q := 67) (st' := [(0, 1), (1, 275)]) rfl rfl ?_
          refine e_Ok.callV rfl (Nat.le_trans (by decide) hdq) rfl rfl rfl rfl (c_334 (Nat.le_trans (by decide) hdq) q116c.1 q116c.2.1 q116c.2.2.1 hNr q116c.2.2.2.1 (by decide)) (fun r134 w135 h136 => ?_)
          obtain ⟨rfl, q137⟩ := h136
          obtain ⟨rfl, q137z⟩ | ⟨q137z, q137b, q137, q137s, q137t⟩ | ⟨q137z, q137b, q137, q137T, q137H, q137r⟩ := q137
          · refine e_Ok.nrm (q := 70) (st' := []) rfl rfl ?_
            clear q1163
            clear q1169
            refine e_Ok.ps3 (x := (0, 0)) (y := (0, 47)) (z := (1, 275)) (q := 74) 3 rfl ?_
            refine e_Ok.callV rfl (Nat.le_trans (by decide) hdq) rfl rfl rfl rfl (c_336 q116c.1 (n := w114 275 78) rfl (by omega) (s := w 275 81) u119.out (by omega)) (fun r138 w139 h140 => ?_)
            obtain ⟨rfl, q141⟩ := h140
            replace q141 := (show Hid (EM w114 w139 (w114 275 78) 47 (0) (w 275 81)) from q141)
            refine e_Ok.nrm (q := 77) (st' := [(0, w114 275 78)]) rfl rfl ?_
            refine e_Ok.run (t' := (81, [(4, (0, w114 275 78)), (3, (0, w 275 78)), (2, (0, w 275 82)), (1, (0, w 275 80)), (0, (1, 275))], [(0, w 275 80), (1, 275)], w139)) 3 rfl ?_
            refine e_Ok.putf rfl (el_o rfl) rfl (ef_o rfl) ?_
            generalize hw156 : e_up w139 275 82 (w 275 80) = w156
            have c170 := cSt.wr (cSt.em q116c q141.out (by decide) (by omega) (by omega)) hw156 (Or.inr rfl) (by omega) rfl (fun _ => ⟨⟨by decide, by decide⟩, fun y => absurd y (by decide)⟩)
            refine e_Ok.ps1 (x := (1, 275)) (q := 85) 1 rfl ?_
            refine e_Ok.callV rfl (Nat.le_trans (by decide) hdq) rfl rfl rfl rfl (c_348_0 (Nat.le_trans (by decide) hdq) c170 (by rw [(Hid.upn hw156 (Or.inr (by decide)) (show Hid (w139 275 88 = w114 275 88) from Hid.mk (q141.out.fld (by decide)))).out] <;> omega)) (fun r171 w172 h173 => ?_)
            obtain ⟨rfl, rfl⟩ := h173
            refine e_Ok.nrm (q := 88) (st' := []) rfl rfl ?_
            refine e_Ok.ps2 (x := (0, w 275 82)) (y := (1, 275)) (q := 90) 2 rfl ?_
            refine e_Ok.putf rfl (el_o rfl) rfl (ef_o rfl) ?_
            generalize hw174 : e_up w156 275 82 (w 275 82) = w174
            have c188 := cSt.wr c170 hw174 (Or.inr rfl) (by omega) rfl (fun _ => ⟨⟨by decide, by decide⟩, fun y => absurd y (by decide)⟩)
            refine e_Ok.ps3 (x := (0, w 275 78)) (y := (0, 48)) (z := (1, 275)) (q := 97) 3 rfl ?_
            refine e_Ok.callV rfl (Nat.le_trans (by decide) hdq) rfl rfl rfl rfl (c_336 c188.1 (n := w114 275 78 + 1) (Hid.upn hw174 (Or.inr (by decide)) (Hid.upn hw156 (Or.inr (by decide)) (show Hid (w139 275 78 = w114 275 78 + 1) from Hid.mk (Eq.trans q141.out.2.2.2.2 (by omega))))).out (by omega) (s := w 275 81) (Hid.upn hw174 (Or.inr (by decide)) (Hid.upn hw156 (Or.inr (by decide)) (show Hid (w139 275 81 = w 275 81) from Hid.mk (Eq.trans (q141.out.fld (by decide)) u119.out)))).out (by omega)) (fun r189 w190 h191 => ?_)
            obtain ⟨rfl, q192⟩ := h191
            replace q192 := (show Hid (EM w174 w190 (w114 275 78 + 1) 48 (w 275 78) (w 275 81)) from q192)
            have u193 : Hid (w190 275 78 = w114 275 78 + 2) := Hid.mk (Eq.trans q192.out.2.2.2.2 (by omega))
            have c206 := cSt.em c188 q192.out (by decide) (by omega) (by omega)
            refine e_Ok.nrm (q := 100) (st' := [(0, w114 275 78 + 1)]) rfl rfl ?_
            refine e_Ok.run (t' := (104, [(4, (0, w114 275 78)), (3, (0, w 275 78)), (2, (0, w 275 82)), (1, (0, w 275 80)), (0, (1, 275))], [(0, w114 275 78), (1, 275)], w190)) 3 rfl ?_
            refine e_Ok.callV rfl (Nat.le_trans (by decide) hdq) rfl rfl rfl rfl (c_337 c206.1 (n := w114 275 78 + 2) u193.out (by omega) (by omega)) (fun r207 w208 h209 => ?_)
            obtain ⟨rfl, q210⟩ := h209
            have f211 : e_fr (mStm (w 275 78) (w 275 79) (w 275 80) (w 275 94)) w w208 := e_fr.up (show e_fr (mStm (w 275 78) (w 275 79) (w 275 80) (w 275 94)) w w190 from e_fr.trans (show e_fr (mStm (w 275 78) (w 275 79) (w 275 80) (w 275 94)) w w174 from e_fr.up (show e_fr (mStm (w 275 78) (w 275 79) (w 275 80) (w 275 94)) w w156 from e_fr.up (show e_fr (mStm (w 275 78) (w 275 79) (w 275 80) (w 275 94)) w w139 from e_fr.trans f123 (q141.out.st (by omega))) hw156 (by first | exact Or.inr (Or.inr (Or.inr (Or.inr ⟨rfl, Or.inl ⟨(by decide), (by decide)⟩⟩))) | (unfold mStm; omega))) hw174 (by first | exact Or.inr (Or.inr (Or.inr (Or.inr ⟨rfl, Or.inl ⟨(by decide), (by decide)⟩⟩))) | (unfold mStm; omega))) (q192.out.st (by omega))) q210 (by unfold mStm; omega)
            refine e_Ok.nrm (q := 107) (st' := []) rfl rfl ?_
            refine e_Ok.ps1 (x := (1, 275)) (q := 108) 1 rfl ?_
            refine e_Ok.getr (z := 336) rfl (el_o rfl) rfl (ef_o rfl) ((f211 275 73 (by first | exact no_bb_1 | (unfold mStm; omega))).trans (e_Has.eq hc.1 rfl)) ⟨by decide, by decide⟩ ?_
            refine e_Ok.ps2 (x := (0, w 275 80)) (y := (0, 3600)) (q := 115) 2 rfl ?_
            refine e_Ok.add (z := w 275 80 + 3600) rfl (Int.add_comm _ _) (by omega) ?_
            refine e_Ok.ps1 (x := (1, 275)) (q := 117) 1 rfl ?_
            refine e_Ok.getf (z := w114 275 78 + 2) rfl (el_o rfl) rfl (ef_o rfl) (Hid.upn q210 (Or.inl (by decide)) u193).out (by omega) ?_
            refine e_Ok.ast rfl (el_o rfl) rfl rfl (by omega) ?_
            generalize hw225 : e_up w208 336 (w 275 80 + 3600) (w114 275 78 + 2) = w225
            have f226 : e_fr (mStm (w 275 78) (w 275 79) (w 275 80) (w 275 94)) w w225 := e_fr.up f211 hw225 (by first | exact Or.inr (Or.inr (Or.inl ⟨⟨(by decide), (by decide)⟩, (by omega)⟩)) | (unfold mStm; omega))
            have u237 : Hid (w225 275 88 = w114 275 88) := Hid.upn hw225 (Or.inl (by decide)) (Hid.upn q210 (Or.inl (by decide)) (show Hid (w190 275 88 = w114 275 88) from Hid.mk (Eq.trans (q192.out.fld (by decide)) (Hid.upn hw174 (Or.inr (by decide)) (Hid.upn hw156 (Or.inr (by decide)) (show Hid (w139 275 88 = w114 275 88) from Hid.mk (q141.out.fld (by decide))))).out)))
            have c239 := cSt.wr (cSt.wr c206 q210 (Or.inl rfl) (by omega) rfl (fun y => absurd y (by decide))) hw225 (Or.inl rfl) (by omega) rfl (fun y => absurd y (by decide))
            refine e_Ok.ps3 (x := (0, 2)) (y := (1, 275)) (z := (1, 275)) (q := 124) 3 rfl ?_
            refine e_Ok.callV rfl (Nat.le_trans (by decide) hdq) rfl rfl rfl rfl (c_332 c239.1 (N := N) c239.2.2.2.1) (fun r240 w241 h242 => ?_)
            obtain ⟨z243, rfl, rfl, q244⟩ := h242
            obtain ⟨rfl, q244, q244b⟩ | ⟨rfl, q244n⟩ := q244
            · refine e_Ok.nrm (q := 127) (st' := [(0, 1), (1, 275)]) rfl rfl ?_
              rw [(Hid.upn hw225 (Or.inl (by decide)) (Hid.upn q210 (Or.inl (by decide)) (show Hid (w190 275 84 = w114 275 84) from Hid.mk (Eq.trans (q192.out.fld (by decide)) (Hid.upn hw174 (Or.inr (by decide)) (Hid.upn hw156 (Or.inr (by decide)) (show Hid (w139 275 84 = w114 275 84) from Hid.mk (q141.out.fld (by decide))))).out)))).out] at q244
              rw [(Hid.upn hw225 (Or.inl (by decide)) (Hid.upn q210 (Or.inl (by decide)) (show Hid (w190 275 85 = w114 275 85) from Hid.mk (Eq.trans (q192.out.fld (by decide)) (Hid.upn hw174 (Or.inr (by decide)) (Hid.upn hw156 (Or.inr (by decide)) (show Hid (w139 275 85 = w114 275 85) from Hid.mk (q141.out.fld (by decide))))).out)))).out] at q244b
              refine e_Ok.callV rfl (Nat.le_trans (by decide) hdq) rfl rfl rfl rfl (c_334 (Nat.le_trans (by decide) hdq) c239.1 c239.2.1 c239.2.2.1 hNr c239.2.2.2.1 (by decide)) (fun r245 w246 h247 => ?_)
              obtain ⟨rfl, q248⟩ := h247
              obtain ⟨rfl, q248z⟩ | ⟨q248z, q248b, q248, q248s, q248t⟩ | ⟨q248z, q248b, q248, q248T, q248H, q248r⟩ := q248
              · show e_Ok 20 elay ecode eI (d + 1) 351 (130, [(4, (0, w114 275 78)), (3, (0, w 275 78)), (2, (0, w 275 82)), (1, (0, w 275 80)), (0, (1, 275))], [], w225) _
                rw [u237.out] at q248z
                refine e_Ok.run (t' := (132, [(4, (0, w114 275 78)), (3, (0, w 275 78)), (2, (0, w 275 82)), (1, (0, w 275 80)), (0, (1, 275))], [(1, 275), (1, 275)], w225)) 2 rfl ?_
                refine e_Ok.getf (z := w114 275 83) rfl (el_o rfl) rfl (ef_o rfl) (Hid.upn hw225 (Or.inl (by decide)) (Hid.upn q210 (Or.inl (by decide)) (show Hid (w190 275 83 = w114 275 83) from Hid.mk (Eq.trans (q192.out.fld (by decide)) (Hid.upn hw174 (Or.inr (by decide)) (Hid.upn hw156 (Or.inr (by decide)) (show Hid (w139 275 83 = w114 275 83) from Hid.mk (q141.out.fld (by decide))))).out)))).out (by omega) ?_
                refine e_Ok.ps1 (x := (0, 1)) (q := 136) 1 rfl ?_
                refine e_Ok.sub' (z := w114 275 83 - 1) rfl rfl (by omega) ?_
                refine e_Ok.putf rfl (el_o rfl) rfl (ef_o rfl) ?_
                generalize hw249 : e_up w225 275 83 (w114 275 83 - 1) = w249
                have e251 := up83 hw249
                replace e251 := (show Hid _ from e251)
                refine e_Ok.rets rfl rfl ?_
                exact ⟨rfl, (show e_fr (mStm (w 275 78) (w 275 79) (w 275 80) (w 275 94)) w w249 from e_fr.up f226 hw249 (by first | exact Or.inr (Or.inr (Or.inr (Or.inr ⟨rfl, Or.inl ⟨(by decide), (by decide)⟩⟩))) | (unfold mStm; omega))), (cSt.up c239 hw249), (by unfold stL; rw [(show Hid (w249 275 78 = w114 275 78 + 2) from Hid.mk (Eq.trans (e251.out.1 275 78 (by decide)) (Hid.upn hw225 (Or.inl (by decide)) (Hid.upn q210 (Or.inl (by decide)) u193)).out)).out, (show Hid (w249 275 79 = w 275 79) from Hid.mk (Eq.trans (e251.out.1 275 79 (by decide)) (Hid.upn hw225 (Or.inl (by decide)) (Hid.upn q210 (Or.inl (by decide)) (show Hid (w190 275 79 = w 275 79) from Hid.mk (Eq.trans (q192.out.fld (by decide)) (Hid.upn hw174 (Or.inr (by decide)) (Hid.upn hw156 (Or.inr (by decide)) (show Hid (w139 275 79 = w 275 79) from Hid.mk (Eq.trans (q141.out.fld (by decide)) u117.out)))).out)))).out)).out, (show Hid (w249 275 80 = w 275 80 + 1) from Hid.mk (Eq.trans (e251.out.1 275 80 (by decide)) (Hid.upn hw225 (Or.inl (by decide)) (Hid.upn q210 (Or.inl (by decide)) (show Hid (w190 275 80 = w 275 80 + 1) from Hid.mk (Eq.trans (q192.out.fld (by decide)) (Hid.upn hw174 (Or.inr (by decide)) (Hid.upn hw156 (Or.inr (by decide)) (show Hid (w139 275 80 = w 275 80 + 1) from Hid.mk (Eq.trans (q141.out.fld (by decide)) u118.out)))).out)))).out)).out, (show Hid (w249 275 81 = w 275 81) from Hid.mk (Eq.trans (e251.out.1 275 81 (by decide)) (Hid.upn hw225 (Or.inl (by decide)) (Hid.upn q210 (Or.inl (by decide)) (show Hid (w190 275 81 = w 275 81) from Hid.mk (Eq.trans (q192.out.fld (by decide)) (Hid.upn hw174 (Or.inr (by decide)) (Hid.upn hw156 (Or.inr (by decide)) (show Hid (w139 275 81 = w 275 81) from Hid.mk (Eq.trans (q141.out.fld (by decide)) u119.out)))).out)))).out)).out, (show Hid (w249 275 82 = w 275 82) from Hid.mk (Eq.trans (e251.out.1 275 82 (by decide)) (Hid.upn hw225 (Or.inl (by decide)) (Hid.upn q210 (Or.inl (by decide)) (show Hid (w190 275 82 = w 275 82) from Hid.mk (Eq.trans (q192.out.fld (by decide)) (Hid.upe hw174).out)))).out)).out, (show Hid (w249 275 83 = w114 275 83 - 1) from Hid.mk (e251.out.2)).out, (show Hid (w249 275 86 = w114 275 86) from Hid.mk (Eq.trans (e251.out.1 275 86 (by decide)) (Hid.upn hw225 (Or.inl (by decide)) (Hid.upn q210 (Or.inl (by decide)) (show Hid (w190 275 86 = w114 275 86) from Hid.mk (Eq.trans (q192.out.fld (by decide)) (Hid.upn hw174 (Or.inr (by decide)) (Hid.upn hw156 (Or.inr (by decide)) (show Hid (w139 275 86 = w114 275 86) from Hid.mk (q141.out.fld (by decide))))).out)))).out)).out, (show Hid (w249 275 88 = w114 275 88) from Hid.mk (Eq.trans (e251.out.1 275 88 (by decide)) u237.out)).out, (show Hid (w249 275 94 = w114 275 94) from Hid.mk (Eq.trans (e251.out.1 275 94 (by decide)) (Hid.upn hw225 (Or.inl (by decide)) (Hid.upn q210 (Or.inl (by decide)) (show Hid (w190 275 94 = w114 275 94) from Hid.mk (Eq.trans (q192.out.fld (by decide)) (Hid.upn hw174 (Or.inr (by decide)) (Hid.upn hw156 (Or.inr (by decide)) (show Hid (w139 275 94 = w114 275 94) from Hid.mk (q141.out.fld (by decide))))).out)))).out)).out]; omega), (fun z => by rw [(show Hid (w249 275 88 = w114 275 88) from Hid.mk (Eq.trans (e251.out.1 275 88 (by decide)) u237.out)).out] at z; exact absurd z (by omega))⟩
              · rw [u237.out] at q248z; exact absurd q248z (by omega)
              · rw [u237.out] at q248z; exact absurd q248z (by omega)
            · refine e_Ok.nrm (q := 127) (st' := [(0, 0), (1, 275)]) rfl rfl ?_
              clear q244n
              refine e_Ok.callV rfl (Nat.le_trans (by decide) hdq) rfl rfl rfl rfl (c_334 (Nat.le_trans (by decide) hdq) c239.1 c239.2.1 c239.2.2.1 hNr c239.2.2.2.1 (by decide)) (fun r265 w266 h267 => ?_)
              obtain ⟨rfl, q268⟩ := h267
              obtain ⟨rfl, q268z⟩ | ⟨q268z, q268b, q268, q268s, q268t⟩ | ⟨q268z, q268b, q268, q268T, q268H, q268r⟩ := q268
              · refine e_Ok.nrm (q := 130) (st' := []) rfl rfl ?_
                rw [u237.out] at q268z
                refine e_Ok.run (t' := (132, [(4, (0, w114 275 78)), (3, (0, w 275 78)), (2, (0, w 275 82)), (1, (0, w 275 80)), (0, (1, 275))], [(1, 275), (1, 275)], w225)) 2 rfl ?_
                refine e_Ok.getf (z := w114 275 83) rfl (el_o rfl) rfl (ef_o rfl) (Hid.upn hw225 (Or.inl (by decide)) (Hid.upn q210 (Or.inl (by decide)) (show Hid (w190 275 83 = w114 275 83) from Hid.mk (Eq.trans (q192.out.fld (by decide)) (Hid.upn hw174 (Or.inr (by decide)) (Hid.upn hw156 (Or.inr (by decide)) (show Hid (w139 275 83 = w114 275 83) from Hid.mk (q141.out.fld (by decide))))).out)))).out (by omega) ?_
                refine e_Ok.ps1 (x := (0, 1)) (q := 136) 1 rfl ?_
                refine e_Ok.sub' (z := w114 275 83 - 1) rfl rfl (by omega) ?_
                refine e_Ok.putf rfl (el_o rfl) rfl (ef_o rfl) ?_
                generalize hw269 : e_up w225 275 83 (w114 275 83 - 1) = w269
                have e271 := up83 hw269
                replace e271 := (show Hid _ from e271)
                refine e_Ok.rets rfl rfl ?_
                exact ⟨rfl, (show e_fr (mStm (w 275 78) (w 275 79) (w 275 80) (w 275 94)) w w269 from e_fr.up f226 hw269 (by first | exact Or.inr (Or.inr (Or.inr (Or.inr ⟨rfl, Or.inl ⟨(by decide), (by decide)⟩⟩))) | (unfold mStm; omega))), (cSt.up c239 hw269), (by unfold stL; rw [(show Hid (w269 275 78 = w114 275 78 + 2) from Hid.mk (Eq.trans (e271.out.1 275 78 (by decide)) (Hid.upn hw225 (Or.inl (by decide)) (Hid.upn q210 (Or.inl (by decide)) u193)).out)).out, (show Hid (w269 275 79 = w 275 79) from Hid.mk (Eq.trans (e271.out.1 275 79 (by decide)) (Hid.upn hw225 (Or.inl (by decide)) (Hid.upn q210 (Or.inl (by decide)) (show Hid (w190 275 79 = w 275 79) from Hid.mk (Eq.trans (q192.out.fld (by decide)) (Hid.upn hw174 (Or.inr (by decide)) (Hid.upn hw156 (Or.inr (by decide)) (show Hid (w139 275 79 = w 275 79) from Hid.mk (Eq.trans (q141.out.fld (by decide)) u117.out)))).out)))).out)).out, (show Hid (w269 275 80 = w 275 80 + 1) from Hid.mk (Eq.trans (e271.out.1 275 80 (by decide)) (Hid.upn hw225 (Or.inl (by decide)) (Hid.upn q210 (Or.inl (by decide)) (show Hid (w190 275 80 = w 275 80 + 1) from Hid.mk (Eq.trans (q192.out.fld (by decide)) (Hid.upn hw174 (Or.inr (by decide)) (Hid.upn hw156 (Or.inr (by decide)) (show Hid (w139 275 80 = w 275 80 + 1) from Hid.mk (Eq.trans (q141.out.fld (by decide)) u118.out)))).out)))).out)).out, (show Hid (w269 275 81 = w 275 81) from Hid.mk (Eq.trans (e271.out.1 275 81 (by decide)) (Hid.upn hw225 (Or.inl (by decide)) (Hid.upn q210 (Or.inl (by decide)) (show Hid (w190 275 81 = w 275 81) from Hid.mk (Eq.trans (q192.out.fld (by decide)) (Hid.upn hw174 (Or.inr (by decide)) (Hid.upn hw156 (Or.inr (by decide)) (show Hid (w139 275 81 = w 275 81) from Hid.mk (Eq.trans (q141.out.fld (by decide)) u119.out)))).out)))).out)).out, (show Hid (w269 275 82 = w 275 82) from Hid.mk (Eq.trans (e271.out.1 275 82 (by decide)) (Hid.upn hw225 (Or.inl (by decide)) (Hid.upn q210 (Or.inl (by decide)) (show Hid (w190 275 82 = w 275 82) from Hid.mk (Eq.trans (q192.out.fld (by decide)) (Hid.upe hw174).out)))).out)).out, (show Hid (w269 275 83 = w114 275 83 - 1) from Hid.mk (e271.out.2)).out, (show Hid (w269 275 86 = w114 275 86) from Hid.mk (Eq.trans (e271.out.1 275 86 (by decide)) (Hid.upn hw225 (Or.inl (by decide)) (Hid.upn q210 (Or.inl (by decide)) (show Hid (w190 275 86 = w114 275 86) from Hid.mk (Eq.trans (q192.out.fld (by decide)) (Hid.upn hw174 (Or.inr (by decide)) (Hid.upn hw156 (Or.inr (by decide)) (show Hid (w139 275 86 = w114 275 86) from Hid.mk (q141.out.fld (by decide))))).out)))).out)).out, (show Hid (w269 275 88 = w114 275 88) from Hid.mk (Eq.trans (e271.out.1 275 88 (by decide)) u237.out)).out, (show Hid (w269 275 94 = w114 275 94) from Hid.mk (Eq.trans (e271.out.1 275 94 (by decide)) (Hid.upn hw225 (Or.inl (by decide)) (Hid.upn q210 (Or.inl (by decide)) (show Hid (w190 275 94 = w114 275 94) from Hid.mk (Eq.trans (q192.out.fld (by decide)) (Hid.upn hw174 (Or.inr (by decide)) (Hid.upn hw156 (Or.inr (by decide)) (show Hid (w139 275 94 = w114 275 94) from Hid.mk (q141.out.fld (by decide))))).out)))).out)).out]; omega), (fun z => by rw [(show Hid (w269 275 88 = w114 275 88) from Hid.mk (Eq.trans (e271.out.1 275 88 (by decide)) u237.out)).out] at z; exact absurd z (by omega))⟩
              · rw [u237.out] at q268z; exact absurd q268z (by omega)
              · rw [u237.out] at q268z; exact absurd q268z (by omega)
          · refine e_Ok.nrm (q := 70) (st' := []) rfl rfl ?_
            replace q1163 := q1163 (by omega)
            replace q1169 := q1169 (by omega)
            have p285 := tkS.pos q116c.2.2.2.1 (by omega)
            have c294 := cSt.tk q116c q137 q137s
            have t295 := tkS.lin c294.2.2.2.1
            have df301 : Hid (dp w135 (w 275 78) = 0) := Hid.mk (Eq.trans (dp_eq (fun k k1 k2 => q137 328 (k + 40000) (mTq_not (by decide)))) df128.out)
            refine e_Ok.ps3 (x := (0, 0)) (y := (0, 47)) (z := (1, 275)) (q := 74) 3 rfl ?_
            refine e_Ok.callV rfl (Nat.le_trans (by decide) hdq) rfl rfl rfl rfl (c_336 c294.1 (n := w114 275 78) (show Hid (w135 275 78 = w114 275 78) from Hid.mk (q137 275 78 (mTq_fld (by decide)))).out (by omega) (s := w 275 81) (show Hid (w135 275 81 = w 275 81) from Hid.mk (Eq.trans (q137 275 81 (mTq_fld (by decide))) u119.out)).out (by omega)) (fun r302 w303 h304 => ?_)
            obtain ⟨rfl, q305⟩ := h304
            replace q305 := (show Hid (EM w135 w303 (w114 275 78) 47 (0) (w 275 81)) from q305)
            have df323 : Hid (dp w303 (w 275 78) = 0) := Hid.mk (Eq.trans (dp_eq (fun k k1 k2 => q305.out.lt (by decide) (by omega))) df301.out)
            refine e_Ok.nrm (q := 77) (st' := [(0, w114 275 78)]) rfl rfl ?_
            refine e_Ok.run (t' := (81, [(4, (0, w114 275 78)), (3, (0, w 275 78)), (2, (0, w 275 82)), (1, (0, w 275 80)), (0, (1, 275))], [(0, w 275 80), (1, 275)], w303)) 3 rfl ?_
            refine e_Ok.putf rfl (el_o rfl) rfl (ef_o rfl) ?_
            generalize hw327 : e_up w303 275 82 (w 275 80) = w327
            have u331 : Hid (w327 275 78 = w114 275 78 + 1) := Hid.upn hw327 (Or.inr (by decide)) (show Hid (w303 275 78 = w114 275 78 + 1) from Hid.mk (Eq.trans q305.out.2.2.2.2 (by omega)))
            have u332 : Hid (w327 275 79 = w 275 79) := Hid.upn hw327 (Or.inr (by decide)) (show Hid (w303 275 79 = w 275 79) from Hid.mk (Eq.trans (q305.out.fld (by decide)) (show Hid (w135 275 79 = w 275 79) from Hid.mk (Eq.trans (q137 275 79 (mTq_fld (by decide))) u117.out)).out))
            have u333 : Hid (w327 275 80 = w 275 80 + 1) := Hid.upn hw327 (Or.inr (by decide)) (show Hid (w303 275 80 = w 275 80 + 1) from Hid.mk (Eq.trans (q305.out.fld (by decide)) (show Hid (w135 275 80 = w 275 80 + 1) from Hid.mk (Eq.trans (q137 275 80 (mTq_fld (by decide))) u118.out)).out))
            have u336 : Hid (w327 275 83 = w114 275 83) := Hid.upn hw327 (Or.inr (by decide)) (show Hid (w303 275 83 = w114 275 83) from Hid.mk (Eq.trans (q305.out.fld (by decide)) (show Hid (w135 275 83 = w114 275 83) from Hid.mk (q137 275 83 (mTq_fld (by decide)))).out))
            have u340 : Hid (w327 275 86 = w135 275 86) := Hid.upn hw327 (Or.inr (by decide)) (show Hid (w303 275 86 = w135 275 86) from Hid.mk (q305.out.fld (by decide)))
            have u343 : Hid (w327 275 94 = w114 275 94) := Hid.upn hw327 (Or.inr (by decide)) (show Hid (w303 275 94 = w114 275 94) from Hid.mk (Eq.trans (q305.out.fld (by decide)) (show Hid (w135 275 94 = w114 275 94) from Hid.mk (q137 275 94 (mTq_fld (by decide)))).out))
            have df350 : Hid (dp w327 (w 275 78) = 0) := Hid.mk (Eq.trans (dp_eq (fun k k1 k2 => by rw [← hw327]; exact e_up_ne _ _ (Or.inl (by decide)))) df323.out)
            refine e_Ok.ps1 (x := (1, 275)) (q := 85) 1 rfl ?_
            refine e_Ok.callV rfl (Nat.le_trans (by decide) hdq) rfl rfl rfl rfl ((hS (by omega) d rfl) w327 N O (fun p => P p ∨ p = w114 275 78) (fun v => OW v ∨ v = w 275 80) (cSt.wr (cSt.em c294 q305.out (by decide) (by omega) (by omega)) hw327 (Or.inr rfl) (by omega) rfl (fun _ => ⟨⟨by decide, by decide⟩, fun y => absurd y (by decide)⟩)) hNr (by rw [(Hid.upn hw327 (Or.inr (by decide)) (show Hid (w303 275 88 = w114 275 88) from Hid.mk (Eq.trans (q305.out.fld (by decide)) (show Hid (w135 275 88 = w114 275 88) from Hid.mk (q137 275 88 (mTq_fld (by decide)))).out))).out] <;> omega) (Eq.trans u336.out (show _ = o + 1 from by omega)) (Or.inr (Or.inr (by rw [(Hid.upe hw327).out] <;> omega))) (by unfold stB; rw [u331.out, u340.out, u343.out, u332.out, u333.out]; omega) (by omega) (by rw [u331.out, u343.out, u332.out, u333.out, (Hid.upn hw327 (Or.inr (by decide)) (show Hid (w303 275 81 = w 275 81) from Hid.mk (Eq.trans (q305.out.fld (by decide)) (show Hid (w135 275 81 = w 275 81) from Hid.mk (Eq.trans (q137 275 81 (mTq_fld (by decide))) u119.out)).out))).out] <;> exact ((show Hid (w114 275 88 = 0 → GB w327 N (w114 275 78 + 1) (w114 275 94) (w 275 79) (w 275 80 + 1) (fun p => P p ∨ p = w114 275 78) (w 275 81) (fun v => OW v ∨ v = w 275 80) O) from Hid.mk (fun z => GB.pr ((show Hid (w114 275 88 = 0 → GB w303 N (w114 275 78 + 1) (w114 275 94) (w 275 79) (w 275 80 + 1) (fun p => P p ∨ p = w114 275 78) (w 275 81) (fun v => OW v ∨ v = w 275 80) O) from Hid.mk (fun z => (GS.jn (GS.re ((show Hid (w114 275 88 = 0 → GS w135 N (w114 275 78) (w114 275 94) (w 275 79) (w 275 80 + 1) P (w 275 81) (fun v => OW v ∨ v = w 275 80) O (0 + 1)) from Hid.mk (fun z => GS.pr ((show Hid (w114 275 88 = 0 → GS w114 N (w114 275 78) (w114 275 94) (w 275 79) (w 275 80 + 1) P (w 275 81) (fun v => OW v ∨ v = w 275 80) O (0 + 1)) from Hid.mk (fun z => (q116x.out z).1)).out z) (prE.tk q137))).out (by omega)) rfl rfl rfl rfl rfl (show _ = 1 from by omega)) q305.out))).out z) (fun c k q => by rw [← hw327]; exact e_up_ne _ _ (by omega)))).out (by omega)))) (fun r352 w353 h354 => ?_)
            obtain ⟨rfl, q355F, q355c, q355l, q355w⟩ := h354
            unfold stL at q355l
            obtain ⟨q3551, q3552, q3553, q3554, q3555, q3556, q3557, q3558, q3559, q35510, q35511, q35512⟩ := q355l
            replace q3559 := (show Hid _ from q3559)
            replace q35510 := (show Hid _ from q35510)
            replace q355F := (show Hid _ from q355F)
            rw [u340.out] at q3551
            rw [u331.out] at q3552
            rw [u331.out, u340.out, u336.out, u332.out, u333.out] at q3553
            rw [u331.out, u340.out] at q3554
            rw [u343.out] at q3555
            rw [u343.out, u340.out] at q3556
            rw [u336.out] at q3557
            rw [u336.out] at q3558
            rw [u332.out] at q35511
            rw [u333.out] at q35512
            have f356 : Hid (e_fr (mStm (w114 275 78 + 1) (w 275 79) (w 275 80 + 1) (w114 275 94)) w327 w353) := Hid.mk (by have y := q355F.out; rw [u331.out, u332.out, u333.out, u343.out] at y; exact y)
            replace q355w := (show Hid _ from q355w)
            have t359 := tkS.lin q355c.2.2.2.1
            have t360 := e_Has.get q355c.2.1 (c := 275) (k := 88) (lo := 0) (hi := 7) rfl (by decide)
            have df368 : Hid (dp w353 (w 275 78) = 0) := Hid.mk (Eq.trans (dp_eq (fun k k1 k2 => f356.out 328 (k + 40000) (by unfold mStm; omega))) df350.out)
            show e_Ok 20 elay ecode eI (d + 1) 351 (88, [(4, (0, w114 275 78)), (3, (0, w 275 78)), (2, (0, w 275 82)), (1, (0, w 275 80)), (0, (1, 275))], [], w353) _
            refine e_Ok.ps2 (x := (0, w 275 82)) (y := (1, 275)) (q := 90) 2 rfl ?_
            refine e_Ok.putf rfl (el_o rfl) rfl (ef_o rfl) ?_
            generalize hw369 : e_up w353 275 82 (w 275 82) = w369
            have c383 := cSt.wr q355c hw369 (Or.inr rfl) (by omega) rfl (fun _ => ⟨⟨by decide, by decide⟩, fun y => absurd y (by decide)⟩)
            have df389 : Hid (dp w369 (w 275 78) = 0) := Hid.mk (Eq.trans (dp_eq (fun k k1 k2 => by rw [← hw369]; exact e_up_ne _ _ (Or.inl (by decide)))) df368.out)
            have g390 : Hid (w353 275 88 = 0 → GB w369 N (w353 275 78) (w353 275 94) (w353 275 79) (w353 275 80) (fun p => P p ∨ p = w114 275 78) (w 275 81) (fun v => OW v ∨ v = w 275 80) O) := Hid.mk (fun z => GB.pr ((show Hid (w353 275 88 = 0 → GB w353 N (w353 275 78) (w353 275 94) (w353 275 79) (w353 275 80) (fun p => P p ∨ p = w114 275 78) (w 275 81) (fun v => OW v ∨ v = w 275 80) O) from Hid.mk (fun z => by have y := q355w.out z; rw [(show Hid (w353 275 81 = w 275 81) from Hid.mk (Eq.trans (q3559.out) (Hid.upn hw327 (Or.inr (by decide)) (show Hid (w303 275 81 = w 275 81) from Hid.mk (Eq.trans (q305.out.fld (by decide)) (show Hid (w135 275 81 = w 275 81) from Hid.mk (Eq.trans (q137 275 81 (mTq_fld (by decide))) u119.out)).out))).out)).out] at y; exact y)).out z) (fun c k q => by rw [← hw369]; exact e_up_ne _ _ (by omega)))
            refine e_Ok.ps3 (x := (0, w 275 78)) (y := (0, 48)) (z := (1, 275)) (q := 97) 3 rfl ?_
            refine e_Ok.callV rfl (Nat.le_trans (by decide) hdq) rfl rfl rfl rfl (c_336 c383.1 (n := w353 275 78) (show Hid (w369 275 78 = w353 275 78) from Hid.mk (e_un hw369 (Or.inr (by decide)))).out (by omega) (s := w 275 81) (Hid.upn hw369 (Or.inr (by decide)) (show Hid (w353 275 81 = w 275 81) from Hid.mk (Eq.trans (q3559.out) (Hid.upn hw327 (Or.inr (by decide)) (show Hid (w303 275 81 = w 275 81) from Hid.mk (Eq.trans (q305.out.fld (by decide)) (show Hid (w135 275 81 = w 275 81) from Hid.mk (Eq.trans (q137 275 81 (mTq_fld (by decide))) u119.out)).out))).out))).out (by omega)) (fun r391 w392 h393 => ?_)
            obtain ⟨rfl, q394⟩ := h393
            replace q394 := (show Hid (EM w369 w392 (w353 275 78) 48 (w 275 78) (w 275 81)) from q394)
            have u395 : Hid (w392 275 78 = w353 275 78 + 1) := Hid.mk (Eq.trans q394.out.2.2.2.2 (by omega))
            have c408 := cSt.em c383 q394.out (by decide) (by omega) (by omega)
            refine e_Ok.nrm (q := 100) (st' := [(0, w353 275 78)]) rfl rfl ?_
            refine e_Ok.run (t' := (104, [(4, (0, w114 275 78)), (3, (0, w 275 78)), (2, (0, w 275 82)), (1, (0, w 275 80)), (0, (1, 275))], [(0, w114 275 78), (1, 275)], w392)) 3 rfl ?_
            refine e_Ok.callV rfl (Nat.le_trans (by decide) hdq) rfl rfl rfl rfl (c_337 c408.1 (n := w353 275 78 + 1) u395.out (by omega) (by omega)) (fun r417 w418 h419 => ?_)
            obtain ⟨rfl, q420⟩ := h419
            have f421 : e_fr (mStm (w 275 78) (w 275 79) (w 275 80) (w 275 94)) w w418 := e_fr.up (show e_fr (mStm (w 275 78) (w 275 79) (w 275 80) (w 275 94)) w w392 from e_fr.trans (show e_fr (mStm (w 275 78) (w 275 79) (w 275 80) (w 275 94)) w w369 from e_fr.up (show e_fr (mStm (w 275 78) (w 275 79) (w 275 80) (w 275 94)) w w353 from e_fr.trans (show e_fr (mStm (w 275 78) (w 275 79) (w 275 80) (w 275 94)) w w327 from e_fr.up (show e_fr (mStm (w 275 78) (w 275 79) (w 275 80) (w 275 94)) w w303 from e_fr.trans (show e_fr (mStm (w 275 78) (w 275 79) (w 275 80) (w 275 94)) w w135 from e_fr.trans f123 (e_fr.mono q137 (fun c k g => mTq_St g))) (q305.out.st (by omega))) hw327 (by first | exact Or.inr (Or.inr (Or.inr (Or.inr ⟨rfl, Or.inl ⟨(by decide), (by decide)⟩⟩))) | (unfold mStm; omega))) (e_fr.mono f356.out (fun c k g => mSt_St (by omega) (by omega) (by omega) (by omega) g))) hw369 (by first | exact Or.inr (Or.inr (Or.inr (Or.inr ⟨rfl, Or.inl ⟨(by decide), (by decide)⟩⟩))) | (unfold mStm; omega))) (q394.out.st (by omega))) q420 (by unfold mStm; omega)
            have g435 : Hid (w353 275 88 = 0 → GB w418 N (w353 275 78 + 1) (w353 275 94) (w353 275 79) (w353 275 80) P (w 275 81) (fun v => OW v ∨ v = w 275 80) O) := Hid.mk (fun z => GB.patch (GZ.gb ((show Hid (w353 275 88 = 0 → GZ w392 N (w353 275 78 + 1) (w353 275 94) (w353 275 79) (w353 275 80) (fun p => P p ∨ p = w114 275 78) (w 275 81) (fun v => OW v ∨ v = w 275 80) O) from Hid.mk (fun z => (GI.jb (g390.out (by omega)).1 ((g390.out (by omega)).2.2 48 (sg_no (by omega))) (g390.out (by omega)).2.1 q394.out (by omega) (Hid.upn hw369 (Or.inl (by decide)) (show Hid (w353 328 (w 275 78 + 40000) = 30) from Hid.mk (Eq.trans (f356.out 328 (w 275 78 + 40000) (by unfold mStm; omega)) (Hid.upn hw327 (Or.inl (by decide)) (show Hid (w303 328 (w 275 78 + 40000) = 30) from Hid.mk (Eq.trans (q305.out.lt (by decide) (by omega)) (show Hid (w135 328 (w 275 78 + 40000) = 30) from Hid.mk (Eq.trans (q137 328 (w 275 78 + 40000) (mTq_not (by decide))) (show Hid (w114 328 (w 275 78 + 40000) = 30) from Hid.mk (Eq.trans (q116F 328 (w 275 78 + 40000) (mEx_lt (by decide) (by omega))) (show Hid (w86 328 (w 275 78 + 40000) = 30) from Hid.mk (Eq.trans (q88 328 (w 275 78 + 40000) (mTq_not (by decide))) (show Hid (w58 328 (w 275 78 + 40000) = 30) from Hid.mk (q60.out.2.1)).out)).out)).out)).out))).out))).out (Hid.upn hw369 (Or.inl (by decide)) (show Hid (w353 330 (w 275 78 + 40000) = w 275 81) from Hid.mk (Eq.trans (f356.out 330 (w 275 78 + 40000) (by unfold mStm; omega)) (Hid.upn hw327 (Or.inl (by decide)) (show Hid (w303 330 (w 275 78 + 40000) = w 275 81) from Hid.mk (Eq.trans (q305.out.lt (by decide) (by omega)) (show Hid (w135 330 (w 275 78 + 40000) = w 275 81) from Hid.mk (Eq.trans (q137 330 (w 275 78 + 40000) (mTq_not (by decide))) (show Hid (w114 330 (w 275 78 + 40000) = w 275 81) from Hid.mk (Eq.trans (q116F 330 (w 275 78 + 40000) (mEx_lt (by decide) (by omega))) (show Hid (w86 330 (w 275 78 + 40000) = w 275 81) from Hid.mk (Eq.trans (q88 330 (w 275 78 + 40000) (mTq_not (by decide))) (show Hid (w58 330 (w 275 78 + 40000) = w 275 81) from Hid.mk (q60.out.2.2.2.1)).out)).out)).out)).out))).out))).out df389.out))).out (by omega))) q420 (by omega) (Or.inl (show Hid (w392 328 (w114 275 78 + 40000) = 47) from Hid.mk (Eq.trans (q394.out.lt (by decide) (by omega)) (Hid.upn hw369 (Or.inl (by decide)) (show Hid (w353 328 (w114 275 78 + 40000) = 47) from Hid.mk (Eq.trans (f356.out 328 (w114 275 78 + 40000) (by unfold mStm; omega)) (Hid.upn hw327 (Or.inl (by decide)) (show Hid (w303 328 (w114 275 78 + 40000) = 47) from Hid.mk (q305.out.2.1))).out))).out)).out) (show Hid (w392 330 (w114 275 78 + 40000) = w 275 81) from Hid.mk (Eq.trans (q394.out.lt (by decide) (by omega)) (Hid.upn hw369 (Or.inl (by decide)) (show Hid (w353 330 (w114 275 78 + 40000) = w 275 81) from Hid.mk (Eq.trans (f356.out 330 (w114 275 78 + 40000) (by unfold mStm; omega)) (Hid.upn hw327 (Or.inl (by decide)) (show Hid (w303 330 (w114 275 78 + 40000) = w 275 81) from Hid.mk (q305.out.2.2.2.1))).out))).out)).out)
            refine e_Ok.nrm (q := 107) (st' := []) rfl rfl ?_
            refine e_Ok.ps1 (x := (1, 275)) (q := 108) 1 rfl ?_
            refine e_Ok.getr (z := 336) rfl (el_o rfl) rfl (ef_o rfl) ((f421 275 73 (by first | exact no_bb_1 | (unfold mStm; omega))).trans (e_Has.eq hc.1 rfl)) ⟨by decide, by decide⟩ ?_
            refine e_Ok.ps2 (x := (0, w 275 80)) (y := (0, 3600)) (q := 115) 2 rfl ?_
            refine e_Ok.add (z := w 275 80 + 3600) rfl (Int.add_comm _ _) (by omega) ?_
            refine e_Ok.ps1 (x := (1, 275)) (q := 117) 1 rfl ?_
            refine e_Ok.getf (z := w353 275 78 + 1) rfl (el_o rfl) rfl (ef_o rfl) (Hid.upn q420 (Or.inl (by decide)) u395).out (by omega) ?_
            refine e_Ok.ast rfl (el_o rfl) rfl rfl (by omega) ?_
            generalize hw442 : e_up w418 336 (w 275 80 + 3600) (w353 275 78 + 1) = w442
            have f443 : e_fr (mStm (w 275 78) (w 275 79) (w 275 80) (w 275 94)) w w442 := e_fr.up f421 hw442 (by first | exact Or.inr (Or.inr (Or.inl ⟨⟨(by decide), (by decide)⟩, (by omega)⟩)) | (unfold mStm; omega))
            have u444 : Hid (w442 275 78 = w353 275 78 + 1) := Hid.upn hw442 (Or.inl (by decide)) (Hid.upn q420 (Or.inl (by decide)) u395)
            have u445 : Hid (w442 275 79 = w353 275 79) := Hid.upn hw442 (Or.inl (by decide)) (Hid.upn q420 (Or.inl (by decide)) (show Hid (w392 275 79 = w353 275 79) from Hid.mk (Eq.trans (q394.out.fld (by decide)) (show Hid (w369 275 79 = w353 275 79) from Hid.mk (e_un hw369 (Or.inr (by decide)))).out)))
            have u446 : Hid (w442 275 80 = w353 275 80) := Hid.upn hw442 (Or.inl (by decide)) (Hid.upn q420 (Or.inl (by decide)) (show Hid (w392 275 80 = w353 275 80) from Hid.mk (Eq.trans (q394.out.fld (by decide)) (show Hid (w369 275 80 = w353 275 80) from Hid.mk (e_un hw369 (Or.inr (by decide)))).out)))
            have u447 : Hid (w442 275 81 = w 275 81) := Hid.upn hw442 (Or.inl (by decide)) (Hid.upn q420 (Or.inl (by decide)) (show Hid (w392 275 81 = w 275 81) from Hid.mk (Eq.trans (q394.out.fld (by decide)) (Hid.upn hw369 (Or.inr (by decide)) (show Hid (w353 275 81 = w 275 81) from Hid.mk (Eq.trans (q3559.out) (Hid.upn hw327 (Or.inr (by decide)) (show Hid (w303 275 81 = w 275 81) from Hid.mk (Eq.trans (q305.out.fld (by decide)) (show Hid (w135 275 81 = w 275 81) from Hid.mk (Eq.trans (q137 275 81 (mTq_fld (by decide))) u119.out)).out))).out))).out)))
            have u448 : Hid (w442 275 82 = w 275 82) := Hid.upn hw442 (Or.inl (by decide)) (Hid.upn q420 (Or.inl (by decide)) (show Hid (w392 275 82 = w 275 82) from Hid.mk (Eq.trans (q394.out.fld (by decide)) (Hid.upe hw369).out)))
            have u449 : Hid (w442 275 83 = w353 275 83) := Hid.upn hw442 (Or.inl (by decide)) (Hid.upn q420 (Or.inl (by decide)) (show Hid (w392 275 83 = w353 275 83) from Hid.mk (Eq.trans (q394.out.fld (by decide)) (show Hid (w369 275 83 = w353 275 83) from Hid.mk (e_un hw369 (Or.inr (by decide)))).out)))
            have u452 : Hid (w442 275 86 = w353 275 86) := Hid.upn hw442 (Or.inl (by decide)) (Hid.upn q420 (Or.inl (by decide)) (show Hid (w392 275 86 = w353 275 86) from Hid.mk (Eq.trans (q394.out.fld (by decide)) (show Hid (w369 275 86 = w353 275 86) from Hid.mk (e_un hw369 (Or.inr (by decide)))).out)))
            have u454 : Hid (w442 275 88 = w353 275 88) := Hid.upn hw442 (Or.inl (by decide)) (Hid.upn q420 (Or.inl (by decide)) (show Hid (w392 275 88 = w353 275 88) from Hid.mk (Eq.trans (q394.out.fld (by decide)) (show Hid (w369 275 88 = w353 275 88) from Hid.mk (e_un hw369 (Or.inr (by decide)))).out)))
            have u455 : Hid (w442 275 94 = w353 275 94) := Hid.upn hw442 (Or.inl (by decide)) (Hid.upn q420 (Or.inl (by decide)) (show Hid (w392 275 94 = w353 275 94) from Hid.mk (Eq.trans (q394.out.fld (by decide)) (show Hid (w369 275 94 = w353 275 94) from Hid.mk (e_un hw369 (Or.inr (by decide)))).out)))
            have c456 := cSt.wr (cSt.wr c408 q420 (Or.inl rfl) (by omega) rfl (fun y => absurd y (by decide))) hw442 (Or.inl rfl) (by omega) rfl (fun y => absurd y (by decide))
            refine e_Ok.ps3 (x := (0, 2)) (y := (1, 275)) (z := (1, 275)) (q := 124) 3 rfl ?_
            refine e_Ok.callV rfl (Nat.le_trans (by decide) hdq) rfl rfl rfl rfl (c_332 c456.1 (N := N) c456.2.2.2.1) (fun r465 w466 h467 => ?_)
            obtain ⟨z468, rfl, rfl, q469⟩ := h467
            obtain ⟨rfl, q469, q469b⟩ | ⟨rfl, q469n⟩ := q469
            · refine e_Ok.nrm (q := 127) (st' := [(0, 1), (1, 275)]) rfl rfl ?_
              rw [(Hid.upn hw442 (Or.inl (by decide)) (Hid.upn q420 (Or.inl (by decide)) (show Hid (w392 275 84 = w353 275 84) from Hid.mk (Eq.trans (q394.out.fld (by decide)) (show Hid (w369 275 84 = w353 275 84) from Hid.mk (e_un hw369 (Or.inr (by decide)))).out)))).out] at q469
              rw [(Hid.upn hw442 (Or.inl (by decide)) (Hid.upn q420 (Or.inl (by decide)) (show Hid (w392 275 85 = w353 275 85) from Hid.mk (Eq.trans (q394.out.fld (by decide)) (show Hid (w369 275 85 = w353 275 85) from Hid.mk (e_un hw369 (Or.inr (by decide)))).out)))).out] at q469b
              refine e_Ok.callV rfl (Nat.le_trans (by decide) hdq) rfl rfl rfl rfl (c_334 (Nat.le_trans (by decide) hdq) c456.1 c456.2.1 c456.2.2.1 hNr c456.2.2.2.1 (by decide)) (fun r470 w471 h472 => ?_)
              obtain ⟨rfl, q473⟩ := h472
              obtain ⟨rfl, q473z⟩ | ⟨q473z, q473b, q473, q473s, q473t⟩ | ⟨q473z, q473b, q473, q473T, q473H, q473r⟩ := q473
              · show e_Ok 20 elay ecode eI (d + 1) 351 (130, [(4, (0, w114 275 78)), (3, (0, w 275 78)), (2, (0, w 275 82)), (1, (0, w 275 80)), (0, (1, 275))], [], w442) _
                rw [u454.out] at q473z
                clear q3553
                refine e_Ok.run (t' := (132, [(4, (0, w114 275 78)), (3, (0, w 275 78)), (2, (0, w 275 82)), (1, (0, w 275 80)), (0, (1, 275))], [(1, 275), (1, 275)], w442)) 2 rfl ?_
                refine e_Ok.getf (z := w353 275 83) rfl (el_o rfl) rfl (ef_o rfl) u449.out (by omega) ?_
                refine e_Ok.ps1 (x := (0, 1)) (q := 136) 1 rfl ?_
                refine e_Ok.sub' (z := w353 275 83 - 1) rfl rfl (by omega) ?_
                refine e_Ok.putf rfl (el_o rfl) rfl (ef_o rfl) ?_
                generalize hw474 : e_up w442 275 83 (w353 275 83 - 1) = w474
                have e476 := up83 hw474
                replace e476 := (show Hid _ from e476)
                refine e_Ok.rets rfl rfl ?_
                exact ⟨rfl, (show e_fr (mStm (w 275 78) (w 275 79) (w 275 80) (w 275 94)) w w474 from e_fr.up f443 hw474 (by first | exact Or.inr (Or.inr (Or.inr (Or.inr ⟨rfl, Or.inl ⟨(by decide), (by decide)⟩⟩))) | (unfold mStm; omega))), (cSt.up c456 hw474), (by unfold stL; rw [(show Hid (w474 275 78 = w353 275 78 + 1) from Hid.mk (Eq.trans (e476.out.1 275 78 (by decide)) u444.out)).out, (show Hid (w474 275 79 = w353 275 79) from Hid.mk (Eq.trans (e476.out.1 275 79 (by decide)) u445.out)).out, (show Hid (w474 275 80 = w353 275 80) from Hid.mk (Eq.trans (e476.out.1 275 80 (by decide)) u446.out)).out, (show Hid (w474 275 81 = w 275 81) from Hid.mk (Eq.trans (e476.out.1 275 81 (by decide)) u447.out)).out, (show Hid (w474 275 82 = w 275 82) from Hid.mk (Eq.trans (e476.out.1 275 82 (by decide)) u448.out)).out, (show Hid (w474 275 83 = w353 275 83 - 1) from Hid.mk (e476.out.2)).out, (show Hid (w474 275 86 = w353 275 86) from Hid.mk (Eq.trans (e476.out.1 275 86 (by decide)) u452.out)).out, (show Hid (w474 275 88 = w353 275 88) from Hid.mk (Eq.trans (e476.out.1 275 88 (by decide)) u454.out)).out, (show Hid (w474 275 94 = w353 275 94) from Hid.mk (Eq.trans (e476.out.1 275 94 (by decide)) u455.out)).out]; omega), (fun z => by rw [(show Hid (w474 275 88 = w353 275 88) from Hid.mk (Eq.trans (e476.out.1 275 88 (by decide)) u454.out)).out] at z; exact absurd z (by omega))⟩
              · show e_Ok 20 elay ecode eI (d + 1) 351 (130, [(4, (0, w114 275 78)), (3, (0, w 275 78)), (2, (0, w 275 82)), (1, (0, w 275 80)), (0, (1, 275))], [], w471) _
                rw [u454.out] at q473z
                rw [(Hid.upn hw442 (Or.inl (by decide)) (Hid.upn q420 (Or.inl (by decide)) (show Hid (w392 275 87 = w353 275 87) from Hid.mk (Eq.trans (q394.out.fld (by decide)) (show Hid (w369 275 87 = w353 275 87) from Hid.mk (e_un hw369 (Or.inr (by decide)))).out)))).out] at q473t
                replace q3553 := q3553 (by omega)
                have p490 := tkS.pos c456.2.2.2.1 (by rw [(Hid.upn hw442 (Or.inl (by decide)) (Hid.upn q420 (Or.inl (by decide)) (show Hid (w392 275 84 = w353 275 84) from Hid.mk (Eq.trans (q394.out.fld (by decide)) (show Hid (w369 275 84 = w353 275 84) from Hid.mk (e_un hw369 (Or.inr (by decide)))).out)))).out] <;> omega)
                rw [u452.out, (Hid.upn hw442 (Or.inl (by decide)) (Hid.upn q420 (Or.inl (by decide)) (show Hid (w392 275 87 = w353 275 87) from Hid.mk (Eq.trans (q394.out.fld (by decide)) (show Hid (w369 275 87 = w353 275 87) from Hid.mk (e_un hw369 (Or.inr (by decide)))).out)))).out] at p490
                have p491 := tkS.key c456.2.2.2.1 (by rw [(Hid.upn hw442 (Or.inl (by decide)) (Hid.upn q420 (Or.inl (by decide)) (show Hid (w392 275 84 = w353 275 84) from Hid.mk (Eq.trans (q394.out.fld (by decide)) (show Hid (w369 275 84 = w353 275 84) from Hid.mk (e_un hw369 (Or.inr (by decide)))).out)))).out] <;> omega)
                rw [u452.out, (Hid.upn hw442 (Or.inl (by decide)) (Hid.upn q420 (Or.inl (by decide)) (show Hid (w392 275 87 = w353 275 87) from Hid.mk (Eq.trans (q394.out.fld (by decide)) (show Hid (w369 275 87 = w353 275 87) from Hid.mk (e_un hw369 (Or.inr (by decide)))).out)))).out, (Hid.upn hw442 (Or.inl (by decide)) (Hid.upn q420 (Or.inl (by decide)) (show Hid (w392 275 85 = w353 275 85) from Hid.mk (Eq.trans (q394.out.fld (by decide)) (show Hid (w369 275 85 = w353 275 85) from Hid.mk (e_un hw369 (Or.inr (by decide)))).out)))).out] at p491
                have c500 := cSt.tk c456 q473 q473s
                have t501 := tkS.lin c500.2.2.2.1
                refine e_Ok.run (t' := (132, [(4, (0, w114 275 78)), (3, (0, w 275 78)), (2, (0, w 275 82)), (1, (0, w 275 80)), (0, (1, 275))], [(1, 275), (1, 275)], w471)) 2 rfl ?_
                refine e_Ok.getf (z := w353 275 83) rfl (el_o rfl) rfl (ef_o rfl) (show Hid (w471 275 83 = w353 275 83) from Hid.mk (Eq.trans (q473 275 83 (mTq_fld (by decide))) u449.out)).out (by omega) ?_
                refine e_Ok.ps1 (x := (0, 1)) (q := 136) 1 rfl ?_
                refine e_Ok.sub' (z := w353 275 83 - 1) rfl rfl (by omega) ?_
                refine e_Ok.putf rfl (el_o rfl) rfl (ef_o rfl) ?_
                generalize hw510 : e_up w471 275 83 (w353 275 83 - 1) = w510
                have e512 := up83 hw510
                replace e512 := (show Hid _ from e512)
                refine e_Ok.rets rfl rfl ?_
                exact ⟨rfl, (show e_fr (mStm (w 275 78) (w 275 79) (w 275 80) (w 275 94)) w w510 from e_fr.up (show e_fr (mStm (w 275 78) (w 275 79) (w 275 80) (w 275 94)) w w471 from e_fr.trans f443 (e_fr.mono q473 (fun c k g => mTq_St g))) hw510 (by first | exact Or.inr (Or.inr (Or.inr (Or.inr ⟨rfl, Or.inl ⟨(by decide), (by decide)⟩⟩))) | (unfold mStm; omega))), (cSt.up c500 hw510), (by unfold stL; rw [(show Hid (w510 275 78 = w353 275 78 + 1) from Hid.mk (Eq.trans (e512.out.1 275 78 (by decide)) (show Hid (w471 275 78 = w353 275 78 + 1) from Hid.mk (Eq.trans (q473 275 78 (mTq_fld (by decide))) u444.out)).out)).out, (show Hid (w510 275 79 = w353 275 79) from Hid.mk (Eq.trans (e512.out.1 275 79 (by decide)) (show Hid (w471 275 79 = w353 275 79) from Hid.mk (Eq.trans (q473 275 79 (mTq_fld (by decide))) u445.out)).out)).out, (show Hid (w510 275 80 = w353 275 80) from Hid.mk (Eq.trans (e512.out.1 275 80 (by decide)) (show Hid (w471 275 80 = w353 275 80) from Hid.mk (Eq.trans (q473 275 80 (mTq_fld (by decide))) u446.out)).out)).out, (show Hid (w510 275 81 = w 275 81) from Hid.mk (Eq.trans (e512.out.1 275 81 (by decide)) (show Hid (w471 275 81 = w 275 81) from Hid.mk (Eq.trans (q473 275 81 (mTq_fld (by decide))) u447.out)).out)).out, (show Hid (w510 275 82 = w 275 82) from Hid.mk (Eq.trans (e512.out.1 275 82 (by decide)) (show Hid (w471 275 82 = w 275 82) from Hid.mk (Eq.trans (q473 275 82 (mTq_fld (by decide))) u448.out)).out)).out, (show Hid (w510 275 83 = w353 275 83 - 1) from Hid.mk (e512.out.2)).out, (show Hid (w510 275 86 = w471 275 86) from Hid.mk (e512.out.1 275 86 (by decide))).out, (show Hid (w510 275 88 = w353 275 88) from Hid.mk (Eq.trans (e512.out.1 275 88 (by decide)) (show Hid (w471 275 88 = w353 275 88) from Hid.mk (Eq.trans (q473 275 88 (mTq_fld (by decide))) u454.out)).out)).out, (show Hid (w510 275 94 = w353 275 94) from Hid.mk (Eq.trans (e512.out.1 275 94 (by decide)) (show Hid (w471 275 94 = w353 275 94) from Hid.mk (Eq.trans (q473 275 94 (mTq_fld (by decide))) u455.out)).out)).out]; omega), (fun z => by rw [(show Hid (w510 275 88 = w353 275 88) from Hid.mk (Eq.trans (e512.out.1 275 88 (by decide)) (show Hid (w471 275 88 = w353 275 88) from Hid.mk (Eq.trans (q473 275 88 (mTq_fld (by decide))) u454.out)).out)).out] at z; rw [(show Hid (w510 275 78 = w353 275 78 + 1) from Hid.mk (Eq.trans (e512.out.1 275 78 (by decide)) (show Hid (w471 275 78 = w353 275 78 + 1) from Hid.mk (Eq.trans (q473 275 78 (mTq_fld (by decide))) u444.out)).out)).out, (show Hid (w510 275 94 = w353 275 94) from Hid.mk (Eq.trans (e512.out.1 275 94 (by decide)) (show Hid (w471 275 94 = w353 275 94) from Hid.mk (Eq.trans (q473 275 94 (mTq_fld (by decide))) u455.out)).out)).out, (show Hid (w510 275 79 = w353 275 79) from Hid.mk (Eq.trans (e512.out.1 275 79 (by decide)) (show Hid (w471 275 79 = w353 275 79) from Hid.mk (Eq.trans (q473 275 79 (mTq_fld (by decide))) u445.out)).out)).out, (show Hid (w510 275 80 = w353 275 80) from Hid.mk (Eq.trans (e512.out.1 275 80 (by decide)) (show Hid (w471 275 80 = w353 275 80) from Hid.mk (Eq.trans (q473 275 80 (mTq_fld (by decide))) u446.out)).out)).out, (show Hid (w510 275 81 = w 275 81) from Hid.mk (Eq.trans (e512.out.1 275 81 (by decide)) (show Hid (w471 275 81 = w 275 81) from Hid.mk (Eq.trans (q473 275 81 (mTq_fld (by decide))) u447.out)).out)).out]; exact ((show Hid (w353 275 88 = 0 → GB w510 N (w353 275 78 + 1) (w353 275 94) (w353 275 79) (w353 275 80) P (w 275 81) OW O) from Hid.mk (fun z => GB.pr ((show Hid (w353 275 88 = 0 → GB w471 N (w353 275 78 + 1) (w353 275 94) (w353 275 79) (w353 275 80) P (w 275 81) OW O) from Hid.mk (fun z => GB.pr ((show Hid (w353 275 88 = 0 → GB w442 N (w353 275 78 + 1) (w353 275 94) (w353 275 79) (w353 275 80) P (w 275 81) OW O) from Hid.mk (fun z => GB.we (g435.out (by omega)) (Eq.trans (Hid.upn q420 (Or.inl (by decide)) (show Hid (w392 335 (w 275 80 + 3600) = w 275 81) from Hid.mk (Eq.trans (q394.out.far (by decide)) (Hid.upn hw369 (Or.inl (by decide)) (show Hid (w353 335 (w 275 80 + 3600) = w 275 81) from Hid.mk (Eq.trans (f356.out 335 (w 275 80 + 3600) (by unfold mStm; omega)) (Hid.upn hw327 (Or.inl (by decide)) (show Hid (w303 335 (w 275 80 + 3600) = w 275 81) from Hid.mk (Eq.trans (q305.out.far (by decide)) (show Hid (w135 335 (w 275 80 + 3600) = w 275 81) from Hid.mk (Eq.trans (q137 335 (w 275 80 + 3600) (mTq_not (by decide))) (show Hid (w114 335 (w 275 80 + 3600) = w 275 81) from Hid.mk (Eq.trans (q116F 335 (w 275 80 + 3600) (mEx_far (by decide))) (show Hid (w86 335 (w 275 80 + 3600) = w 275 81) from Hid.mk (Eq.trans (q88 335 (w 275 80 + 3600) (mTq_not (by decide))) (show Hid (w58 335 (w 275 80 + 3600) = w 275 81) from Hid.mk (Eq.trans (q60.out.far (by decide)) (show Hid (w38 335 (w 275 80 + 3600) = w 275 81) from Hid.mk ((Hid.upe hw38).out)).out)).out)).out)).out)).out))).out))).out))).out (show _ = w 275 81 from by omega)) (fun y => by have := hG.1.2.2.2.2.2.2.2.1 _ y; omega) (Eq.trans (Hid.upe hw442).out (show _ = w353 275 78 + 1 from by omega)) (fun c k y1 y2 => by rw [← hw442]; exact e_up_ne _ _ (by omega)))).out z) (prE.tk q473))).out z) (prE.up hw510))).out (by omega)))⟩
              · exact absurd q473b (by decide)
            · refine e_Ok.nrm (q := 127) (st' := [(0, 0), (1, 275)]) rfl rfl ?_
              clear q469n
              refine e_Ok.callV rfl (Nat.le_trans (by decide) hdq) rfl rfl rfl rfl (c_334 (Nat.le_trans (by decide) hdq) c456.1 c456.2.1 c456.2.2.1 hNr c456.2.2.2.1 (by decide)) (fun r533 w534 h535 => ?_)
              obtain ⟨rfl, q536⟩ := h535
              obtain ⟨rfl, q536z⟩ | ⟨q536z, q536b, q536, q536s, q536t⟩ | ⟨q536z, q536b, q536, q536T, q536H, q536r⟩ := q536
              · refine e_Ok.nrm (q := 130) (st' := []) rfl rfl ?_
                rw [u454.out] at q536z
                clear q3553
                refine e_Ok.run (t' := (132, [(4, (0, w114 275 78)), (3, (0, w 275 78)), (2, (0, w 275 82)), (1, (0, w 275 80)), (0, (1, 275))], [(1, 275), (1, 275)], w442)) 2 rfl ?_
                refine e_Ok.getf (z := w353 275 83) rfl (el_o rfl) rfl (ef_o rfl) u449.out (by omega) ?_
                refine e_Ok.ps1 (x := (0, 1)) (q := 136) 1 rfl ?_
                refine e_Ok.sub' (z := w353 275 83 - 1) rfl rfl (by omega) ?_
                refine e_Ok.putf rfl (el_o rfl) rfl (ef_o rfl) ?_
                generalize hw537 : e_up w442 275 83 (w353 275 83 - 1) = w537
                have e539 := up83 hw537
                replace e539 := (show Hid _ from e539)
                refine e_Ok.rets rfl rfl ?_
                exact ⟨rfl, (show e_fr (mStm (w 275 78) (w 275 79) (w 275 80) (w 275 94)) w w537 from e_fr.up f443 hw537 (by first | exact Or.inr (Or.inr (Or.inr (Or.inr ⟨rfl, Or.inl ⟨(by decide), (by decide)⟩⟩))) | (unfold mStm; omega))), (cSt.up c456 hw537), (by unfold stL; rw [(show Hid (w537 275 78 = w353 275 78 + 1) from Hid.mk (Eq.trans (e539.out.1 275 78 (by decide)) u444.out)).out, (show Hid (w537 275 79 = w353 275 79) from Hid.mk (Eq.trans (e539.out.1 275 79 (by decide)) u445.out)).out, (show Hid (w537 275 80 = w353 275 80) from Hid.mk (Eq.trans (e539.out.1 275 80 (by decide)) u446.out)).out, (show Hid (w537 275 81 = w 275 81) from Hid.mk (Eq.trans (e539.out.1 275 81 (by decide)) u447.out)).out, (show Hid (w537 275 82 = w 275 82) from Hid.mk (Eq.trans (e539.out.1 275 82 (by decide)) u448.out)).out, (show Hid (w537 275 83 = w353 275 83 - 1) from Hid.mk (e539.out.2)).out, (show Hid (w537 275 86 = w353 275 86) from Hid.mk (Eq.trans (e539.out.1 275 86 (by decide)) u452.out)).out, (show Hid (w537 275 88 = w353 275 88) from Hid.mk (Eq.trans (e539.out.1 275 88 (by decide)) u454.out)).out, (show Hid (w537 275 94 = w353 275 94) from Hid.mk (Eq.trans (e539.out.1 275 94 (by decide)) u455.out)).out]; omega), (fun z => by rw [(show Hid (w537 275 88 = w353 275 88) from Hid.mk (Eq.trans (e539.out.1 275 88 (by decide)) u454.out)).out] at z; exact absurd z (by omega))⟩
              · exact absurd q536b (by decide)
              · refine e_Ok.nrm (q := 130) (st' := []) rfl rfl ?_
                rw [u454.out] at q536z
                replace q3553 := q3553 (by omega)
                refine e_Ok.run (t' := (132, [(4, (0, w114 275 78)), (3, (0, w 275 78)), (2, (0, w 275 82)), (1, (0, w 275 80)), (0, (1, 275))], [(1, 275), (1, 275)], w534)) 2 rfl ?_
                refine e_Ok.getf (z := w353 275 83) rfl (el_o rfl) rfl (ef_o rfl) (show Hid (w534 275 83 = w353 275 83) from Hid.mk (Eq.trans (q536 275 83 (mRf_fld (by decide))) u449.out)).out (by omega) ?_
                refine e_Ok.ps1 (x := (0, 1)) (q := 136) 1 rfl ?_
                refine e_Ok.sub' (z := w353 275 83 - 1) rfl rfl (by omega) ?_
                refine e_Ok.putf rfl (el_o rfl) rfl (ef_o rfl) ?_
                generalize hw566 : e_up w534 275 83 (w353 275 83 - 1) = w566
                have e568 := up83 hw566
                replace e568 := (show Hid _ from e568)
                refine e_Ok.rets rfl rfl ?_
                exact ⟨rfl, (show e_fr (mStm (w 275 78) (w 275 79) (w 275 80) (w 275 94)) w w566 from e_fr.up (show e_fr (mStm (w 275 78) (w 275 79) (w 275 80) (w 275 94)) w w534 from e_fr.trans f443 (e_fr.mono q536 (fun c k g => mRf_St g))) hw566 (by first | exact Or.inr (Or.inr (Or.inr (Or.inr ⟨rfl, Or.inl ⟨(by decide), (by decide)⟩⟩))) | (unfold mStm; omega))), (cSt.up (cSt.rf c456 q536 q536T q536H) hw566), (by unfold stL; rw [(show Hid (w566 275 78 = w353 275 78 + 1) from Hid.mk (Eq.trans (e568.out.1 275 78 (by decide)) (show Hid (w534 275 78 = w353 275 78 + 1) from Hid.mk (Eq.trans (q536 275 78 (mRf_fld (by decide))) u444.out)).out)).out, (show Hid (w566 275 79 = w353 275 79) from Hid.mk (Eq.trans (e568.out.1 275 79 (by decide)) (show Hid (w534 275 79 = w353 275 79) from Hid.mk (Eq.trans (q536 275 79 (mRf_fld (by decide))) u445.out)).out)).out, (show Hid (w566 275 80 = w353 275 80) from Hid.mk (Eq.trans (e568.out.1 275 80 (by decide)) (show Hid (w534 275 80 = w353 275 80) from Hid.mk (Eq.trans (q536 275 80 (mRf_fld (by decide))) u446.out)).out)).out, (show Hid (w566 275 81 = w 275 81) from Hid.mk (Eq.trans (e568.out.1 275 81 (by decide)) (show Hid (w534 275 81 = w 275 81) from Hid.mk (Eq.trans (q536 275 81 (mRf_fld (by decide))) u447.out)).out)).out, (show Hid (w566 275 82 = w 275 82) from Hid.mk (Eq.trans (e568.out.1 275 82 (by decide)) (show Hid (w534 275 82 = w 275 82) from Hid.mk (Eq.trans (q536 275 82 (mRf_fld (by decide))) u448.out)).out)).out, (show Hid (w566 275 83 = w353 275 83 - 1) from Hid.mk (e568.out.2)).out, (show Hid (w566 275 86 = w353 275 86) from Hid.mk (Eq.trans (e568.out.1 275 86 (by decide)) (show Hid (w534 275 86 = w353 275 86) from Hid.mk (Eq.trans (q536 275 86 (mRf_fld (by decide))) u452.out)).out)).out, (show Hid (w566 275 88 = w534 275 88) from Hid.mk (e568.out.1 275 88 (by decide))).out, (show Hid (w566 275 94 = w353 275 94) from Hid.mk (Eq.trans (e568.out.1 275 94 (by decide)) (show Hid (w534 275 94 = w353 275 94) from Hid.mk (Eq.trans (q536 275 94 (mRf_fld (by decide))) u455.out)).out)).out]; omega), (fun z => by rw [(show Hid (w566 275 88 = w534 275 88) from Hid.mk (e568.out.1 275 88 (by decide))).out] at z; exact absurd z (by omega))⟩
          · exact absurd q137b (by decide)
        · refine e_Ok.nrm (q := 67) (st' := [(0, 0), (1, 275)]) rfl rfl ?_
          clear q133n
          refine e_Ok.callV rfl (Nat.le_trans (by decide) hdq) rfl rfl rfl rfl (c_334 (Nat.le_trans (by decide) hdq) q116c.1 q116c.2.1 q116c.2.2.1 hNr q116c.2.2.2.1 (by decide)) (fun r582 w583 h584 => ?_)
          obtain ⟨rfl, q585⟩ := h584
          obtain ⟨rfl, q585z⟩ | ⟨q585z, q585b, q585, q585s, q585t⟩ | ⟨q585z, q585b, q585, q585T, q585H, q585r⟩ := q585
          · refine e_Ok.nrm (q := 70) (st' := []) rfl rfl ?_
            clear q1163
            clear q1169
            refine e_Ok.ps3 (x := (0, 0)) (y := (0, 47)) (z := (1, 275)) (q := 74) 3 rfl ?_
            refine e_Ok.callV rfl (Nat.le_trans (by decide) hdq) rfl rfl rfl rfl (c_336 q116c.1 (n := w114 275 78) rfl (by omega) (s := w 275 81) u119.out (by omega)) (fun r586 w587 h588 => ?_)
            obtain ⟨rfl, q589⟩ := h588
            replace q589 := (show Hid (EM w114 w587 (w114 275 78) 47 (0) (w 275 81)) from q589)
            refine e_Ok.nrm (q := 77) (st' := [(0, w114 275 78)]) rfl rfl ?_
            refine e_Ok.run (t' := (81, [(4, (0, w114 275 78)), (3, (0, w 275 78)), (2, (0, w 275 82)), (1, (0, w 275 80)), (0, (1, 275))], [(0, w 275 80), (1, 275)], w587)) 3 rfl ?_
            refine e_Ok.putf rfl (el_o rfl) rfl (ef_o rfl) ?_
            generalize hw604 : e_up w587 275 82 (w 275 80) = w604
            have c618 := cSt.wr (cSt.em q116c q589.out (by decide) (by omega) (by omega)) hw604 (Or.inr rfl) (by omega) rfl (fun _ => ⟨⟨by decide, by decide⟩, fun y => absurd y (by decide)⟩)
            refine e_Ok.ps1 (x := (1, 275)) (q := 85) 1 rfl ?_
            refine e_Ok.callV rfl (Nat.le_trans (by decide) hdq) rfl rfl rfl rfl (c_348_0 (Nat.le_trans (by decide) hdq) c618 (by rw [(Hid.upn hw604 (Or.inr (by decide)) (show Hid (w587 275 88 = w114 275 88) from Hid.mk (q589.out.fld (by decide)))).out] <;> omega)) (fun r619 w620 h621 => ?_)
            obtain ⟨rfl, rfl⟩ := h621
            refine e_Ok.nrm (q := 88) (st' := []) rfl rfl ?_
            refine e_Ok.ps2 (x := (0, w 275 82)) (y := (1, 275)) (q := 90) 2 rfl ?_
            refine e_Ok.putf rfl (el_o rfl) rfl (ef_o rfl) ?_
            generalize hw622 : e_up w604 275 82 (w 275 82) = w622
            have c636 := cSt.wr c618 hw622 (Or.inr rfl) (by omega) rfl (fun _ => ⟨⟨by decide, by decide⟩, fun y => absurd y (by decide)⟩)
            refine e_Ok.ps3 (x := (0, w 275 78)) (y := (0, 48)) (z := (1, 275)) (q := 97) 3 rfl ?_
            refine e_Ok.callV rfl (Nat.le_trans (by decide) hdq) rfl rfl rfl rfl (c_336 c636.1 (n := w114 275 78 + 1) (Hid.upn hw622 (Or.inr (by decide)) (Hid.upn hw604 (Or.inr (by decide)) (show Hid (w587 275 78 = w114 275 78 + 1) from Hid.mk (Eq.trans q589.out.2.2.2.2 (by omega))))).out (by omega) (s := w 275 81) (Hid.upn hw622 (Or.inr (by decide)) (Hid.upn hw604 (Or.inr (by decide)) (show Hid (w587 275 81 = w 275 81) from Hid.mk (Eq.trans (q589.out.fld (by decide)) u119.out)))).out (by omega)) (fun r637 w638 h639 => ?_)
            obtain ⟨rfl, q640⟩ := h639
            replace q640 := (show Hid (EM w622 w638 (w114 275 78 + 1) 48 (w 275 78) (w 275 81)) from q640)
            have u641 : Hid (w638 275 78 = w114 275 78 + 2) := Hid.mk (Eq.trans q640.out.2.2.2.2 (by omega))
            have c654 := cSt.em c636 q640.out (by decide) (by omega) (by omega)
            refine e_Ok.nrm (q := 100) (st' := [(0, w114 275 78 + 1)]) rfl rfl ?_
            refine e_Ok.run (t' := (104, [(4, (0, w114 275 78)), (3, (0, w 275 78)), (2, (0, w 275 82)), (1, (0, w 275 80)), (0, (1, 275))], [(0, w114 275 78), (1, 275)], w638)) 3 rfl ?_
            refine e_Ok.callV rfl (Nat.le_trans (by decide) hdq) rfl rfl rfl rfl (c_337 c654.1 (n := w114 275 78 + 2) u641.out (by omega) (by omega)) (fun r655 w656 h657 => ?_)
            obtain ⟨rfl, q658⟩ := h657
            have f659 : e_fr (mStm (w 275 78) (w 275 79) (w 275 80) (w 275 94)) w w656 := e_fr.up (show e_fr (mStm (w 275 78) (w 275 79) (w 275 80) (w 275 94)) w w638 from e_fr.trans (show e_fr (mStm (w 275 78) (w 275 79) (w 275 80) (w 275 94)) w w622 from e_fr.up (show e_fr (mStm (w 275 78) (w 275 79) (w 275 80) (w 275 94)) w w604 from e_fr.up (show e_fr (mStm (w 275 78) (w 275 79) (w 275 80) (w 275 94)) w w587 from e_fr.trans f123 (q589.out.st (by omega))) hw604 (by first | exact Or.inr (Or.inr (Or.inr (Or.inr ⟨rfl, Or.inl ⟨(by decide), (by decide)⟩⟩))) | (unfold mStm; omega))) hw622 (by first | exact Or.inr (Or.inr (Or.inr (Or.inr ⟨rfl, Or.inl ⟨(by decide), (by decide)⟩⟩))) | (unfold mStm; omega))) (q640.out.st (by omega))) q658 (by unfold mStm; omega)
            refine e_Ok.nrm (q := 107) (st' := []) rfl rfl ?_
            refine e_Ok.ps1 (x := (1, 275)) (q := 108) 1 rfl ?_
            refine e_Ok.getr (z := 336) rfl (el_o rfl) rfl (ef_o rfl) ((f659 275 73 (by first | exact no_bb_1 | (unfold mStm; omega))).trans (e_Has.eq hc.1 rfl)) ⟨by decide, by decide⟩ ?_
            refine e_Ok.ps2 (x := (0, w 275 80)) (y := (0, 3600)) (q := 115) 2 rfl ?_
            refine e_Ok.add (z := w 275 80 + 3600) rfl (Int.add_comm _ _) (by omega) ?_
            refine e_Ok.ps1 (x := (1, 275)) (q := 117) 1 rfl ?_
            refine e_Ok.getf (z := w114 275 78 + 2) rfl (el_o rfl) rfl (ef_o rfl) (Hid.upn q658 (Or.inl (by decide)) u641).out (by omega) ?_
            refine e_Ok.ast rfl (el_o rfl) rfl rfl (by omega) ?_
            generalize hw673 : e_up w656 336 (w 275 80 + 3600) (w114 275 78 + 2) = w673
            have f674 : e_fr (mStm (w 275 78) (w 275 79) (w 275 80) (w 275 94)) w w673 := e_fr.up f659 hw673 (by first | exact Or.inr (Or.inr (Or.inl ⟨⟨(by decide), (by decide)⟩, (by omega)⟩)) | (unfold mStm; omega))
            have u685 : Hid (w673 275 88 = w114 275 88) := Hid.upn hw673 (Or.inl (by decide)) (Hid.upn q658 (Or.inl (by decide)) (show Hid (w638 275 88 = w114 275 88) from Hid.mk (Eq.trans (q640.out.fld (by decide)) (Hid.upn hw622 (Or.inr (by decide)) (Hid.upn hw604 (Or.inr (by decide)) (show Hid (w587 275 88 = w114 275 88) from Hid.mk (q589.out.fld (by decide))))).out)))
            have c687 := cSt.wr (cSt.wr c654 q658 (Or.inl rfl) (by omega) rfl (fun y => absurd y (by decide))) hw673 (Or.inl rfl) (by omega) rfl (fun y => absurd y (by decide))
            refine e_Ok.ps3 (x := (0, 2)) (y := (1, 275)) (z := (1, 275)) (q := 124) 3 rfl ?_
            refine e_Ok.callV rfl (Nat.le_trans (by decide) hdq) rfl rfl rfl rfl (c_332 c687.1 (N := N) c687.2.2.2.1) (fun r688 w689 h690 => ?_)
            obtain ⟨z691, rfl, rfl, q692⟩ := h690
            obtain ⟨rfl, q692, q692b⟩ | ⟨rfl, q692n⟩ := q692
            · refine e_Ok.nrm (q := 127) (st' := [(0, 1), (1, 275)]) rfl rfl ?_
              rw [(Hid.upn hw673 (Or.inl (by decide)) (Hid.upn q658 (Or.inl (by decide)) (show Hid (w638 275 84 = w114 275 84) from Hid.mk (Eq.trans (q640.out.fld (by decide)) (Hid.upn hw622 (Or.inr (by decide)) (Hid.upn hw604 (Or.inr (by decide)) (show Hid (w587 275 84 = w114 275 84) from Hid.mk (q589.out.fld (by decide))))).out)))).out] at q692
              rw [(Hid.upn hw673 (Or.inl (by decide)) (Hid.upn q658 (Or.inl (by decide)) (show Hid (w638 275 85 = w114 275 85) from Hid.mk (Eq.trans (q640.out.fld (by decide)) (Hid.upn hw622 (Or.inr (by decide)) (Hid.upn hw604 (Or.inr (by decide)) (show Hid (w587 275 85 = w114 275 85) from Hid.mk (q589.out.fld (by decide))))).out)))).out] at q692b
              refine e_Ok.callV rfl (Nat.le_trans (by decide) hdq) rfl rfl rfl rfl (c_334 (Nat.le_trans (by decide) hdq) c687.1 c687.2.1 c687.2.2.1 hNr c687.2.2.2.1 (by decide)) (fun r693 w694 h695 => ?_)
              obtain ⟨rfl, q696⟩ := h695
              obtain ⟨rfl, q696z⟩ | ⟨q696z, q696b, q696, q696s, q696t⟩ | ⟨q696z, q696b, q696, q696T, q696H, q696r⟩ := q696
              · show e_Ok 20 elay ecode eI (d + 1) 351 (130, [(4, (0, w114 275 78)), (3, (0, w 275 78)), (2, (0, w 275 82)), (1, (0, w 275 80)), (0, (1, 275))], [], w673) _
                rw [u685.out] at q696z
                refine e_Ok.run (t' := (132, [(4, (0, w114 275 78)), (3, (0, w 275 78)), (2, (0, w 275 82)), (1, (0, w 275 80)), (0, (1, 275))], [(1, 275), (1, 275)], w673)) 2 rfl ?_
                refine e_Ok.getf (z := w114 275 83) rfl (el_o rfl) rfl (ef_o rfl) (Hid.upn hw673 (Or.inl (by decide)) (Hid.upn q658 (Or.inl (by decide)) (show Hid (w638 275 83 = w114 275 83) from Hid.mk (Eq.trans (q640.out.fld (by decide)) (Hid.upn hw622 (Or.inr (by decide)) (Hid.upn hw604 (Or.inr (by decide)) (show Hid (w587 275 83 = w114 275 83) from Hid.mk (q589.out.fld (by decide))))).out)))).out (by omega) ?_
                refine e_Ok.ps1 (x := (0, 1)) (q := 136) 1 rfl ?_
                refine e_Ok.sub' (z := w114 275 83 - 1) rfl rfl (by omega) ?_
                refine e_Ok.putf rfl (el_o rfl) rfl (ef_o rfl) ?_
                generalize hw697 : e_up w673 275 83 (w114 275 83 - 1) = w697
                have e699 := up83 hw697
                replace e699 := (show Hid _ from e699)
                refine e_Ok.rets rfl rfl ?_
                exact ⟨rfl, (show e_fr (mStm (w 275 78) (w 275 79) (w 275 80) (w 275 94)) w w697 from e_fr.up f674 hw697 (by first | exact Or.inr (Or.inr (Or.inr (Or.inr ⟨rfl, Or.inl ⟨(by decide), (by decide)⟩⟩))) | (unfold mStm; omega))), (cSt.up c687 hw697), (by unfold stL; rw [(show Hid (w697 275 78 = w114 275 78 + 2) from Hid.mk (Eq.trans (e699.out.1 275 78 (by decide)) (Hid.upn hw673 (Or.inl (by decide)) (Hid.upn q658 (Or.inl (by decide)) u641)).out)).out, (show Hid (w697 275 79 = w 275 79) from Hid.mk (Eq.trans (e699.out.1 275 79 (by decide)) (Hid.upn hw673 (Or.inl (by decide)) (Hid.upn q658 (Or.inl (by decide)) (show Hid (w638 275 79 = w 275 79) from Hid.mk (Eq.trans (q640.out.fld (by decide)) (Hid.upn hw622 (Or.inr (by decide)) (Hid.upn hw604 (Or.inr (by decide)) (show Hid (w587 275 79 = w 275 79) from Hid.mk (Eq.trans (q589.out.fld (by decide)) u117.out)))).out)))).out)).out, (show Hid (w697 275 80 = w 275 80 + 1) from Hid.mk (Eq.trans (e699.out.1 275 80 (by decide)) (Hid.upn hw673 (Or.inl (by decide)) (Hid.upn q658 (Or.inl (by decide)) (show Hid (w638 275 80 = w 275 80 + 1) from Hid.mk (Eq.trans (q640.out.fld (by decide)) (Hid.upn hw622 (Or.inr (by decide)) (Hid.upn hw604 (Or.inr (by decide)) (show Hid (w587 275 80 = w 275 80 + 1) from Hid.mk (Eq.trans (q589.out.fld (by decide)) u118.out)))).out)))).out)).out, (show Hid (w697 275 81 = w 275 81) from Hid.mk (Eq.trans (e699.out.1 275 81 (by decide)) (Hid.upn hw673 (Or.inl (by decide)) (Hid.upn q658 (Or.inl (by decide)) (show Hid (w638 275 81 = w 275 81) from Hid.mk (Eq.trans (q640.out.fld (by decide)) (Hid.upn hw622 (Or.inr (by decide)) (Hid.upn hw604 (Or.inr (by decide)) (show Hid (w587 275 81 = w 275 81) from Hid.mk (Eq.trans (q589.out.fld (by decide)) u119.out)))).out)))).out)).out, (show Hid (w697 275 82 = w 275 82) from Hid.mk (Eq.trans (e699.out.1 275 82 (by decide)) (Hid.upn hw673 (Or.inl (by decide)) (Hid.upn q658 (Or.inl (by decide)) (show Hid (w638 275 82 = w 275 82) from Hid.mk (Eq.trans (q640.out.fld (by decide)) (Hid.upe hw622).out)))).out)).out, (show Hid (w697 275 83 = w114 275 83 - 1) from Hid.mk (e699.out.2)).out, (show Hid (w697 275 86 = w114 275 86) from Hid.mk (Eq.trans (e699.out.1 275 86 (by decide)) (Hid.upn hw673 (Or.inl (by decide)) (Hid.upn q658 (Or.inl (by decide)) (show Hid (w638 275 86 = w114 275 86) from Hid.mk (Eq.trans (q640.out.fld (by decide)) (Hid.upn hw622 (Or.inr (by decide)) (Hid.upn hw604 (Or.inr (by decide)) (show Hid (w587 275 86 = w114 275 86) from Hid.mk (q589.out.fld (by decide))))).out)))).out)).out, (show Hid (w697 275 88 = w114 275 88) from Hid.mk (Eq.trans (e699.out.1 275 88 (by decide)) u685.out)).out, (show Hid (w697 275 94 = w114 275 94) from Hid.mk (Eq.trans (e699.out.1 275 94 (by decide)) (Hid.upn hw673 (Or.inl (by decide)) (Hid.upn q658 (Or.inl (by decide)) (show Hid (w638 275 94 = w114 275 94) from Hid.mk (Eq.trans (q640.out.fld (by decide)) (Hid.upn hw622 (Or.inr (by decide)) (Hid.upn hw604 (Or.inr (by decide)) (show Hid (w587 275 94 = w114 275 94) from Hid.mk (q589.out.fld (by decide))))).out)))).out)).out]; omega), (fun z => by rw [(show Hid (w697 275 88 = w114 275 88) from Hid.mk (Eq.trans (e699.out.1 275 88 (by decide)) u685.out)).out] at z; exact absurd z (by omega))⟩
              · rw [u685.out] at q696z; exact absurd q696z (by omega)
              · rw [u685.out] at q696z; exact absurd q696z (by omega)
            · refine e_Ok.nrm (q := 127) (st' := [(0, 0), (1, 275)]) rfl rfl ?_
              clear q692n
              refine e_Ok.callV rfl (Nat.le_trans (by decide) hdq) rfl rfl rfl rfl (c_334 (Nat.le_trans (by decide) hdq) c687.1 c687.2.1 c687.2.2.1 hNr c687.2.2.2.1 (by decide)) (fun r713 w714 h715 => ?_)
              obtain ⟨rfl, q716⟩ := h715
              obtain ⟨rfl, q716z⟩ | ⟨q716z, q716b, q716, q716s, q716t⟩ | ⟨q716z, q716b, q716, q716T, q716H, q716r⟩ := q716
              · refine e_Ok.nrm (q := 130) (st' := []) rfl rfl ?_
                rw [u685.out] at q716z
                refine e_Ok.run (t' := (132, [(4, (0, w114 275 78)), (3, (0, w 275 78)), (2, (0, w 275 82)), (1, (0, w 275 80)), (0, (1, 275))], [(1, 275), (1, 275)], w673)) 2 rfl ?_
                refine e_Ok.getf (z := w114 275 83) rfl (el_o rfl) rfl (ef_o rfl) (Hid.upn hw673 (Or.inl (by decide)) (Hid.upn q658 (Or.inl (by decide)) (show Hid (w638 275 83 = w114 275 83) from Hid.mk (Eq.trans (q640.out.fld (by decide)) (Hid.upn hw622 (Or.inr (by decide)) (Hid.upn hw604 (Or.inr (by decide)) (show Hid (w587 275 83 = w114 275 83) from Hid.mk (q589.out.fld (by decide))))).out)))).out (by omega) ?_
                refine e_Ok.ps1 (x := (0, 1)) (q := 136) 1 rfl ?_
                refine e_Ok.sub' (z := w114 275 83 - 1) rfl rfl (by omega) ?_
                refine e_Ok.putf rfl (el_o rfl) rfl (ef_o rfl) ?_
                generalize hw717 : e_up w673 275 83 (w114 275 83 - 1) = w717
                have e719 := up83 hw717
                replace e719 := (show Hid _ from e719)
                refine e_Ok.rets rfl rfl ?_
                exact ⟨rfl, (show e_fr (mStm (w 275 78) (w 275 79) (w 275 80) (w 275 94)) w w717 from e_fr.up f674 hw717 (by first | exact Or.inr (Or.inr (Or.inr (Or.inr ⟨rfl, Or.inl ⟨(by decide), (by decide)⟩⟩))) | (unfold mStm; omega))), (cSt.up c687 hw717), (by unfold stL; rw [(show Hid (w717 275 78 = w114 275 78 + 2) from Hid.mk (Eq.trans (e719.out.1 275 78 (by decide)) (Hid.upn hw673 (Or.inl (by decide)) (Hid.upn q658 (Or.inl (by decide)) u641)).out)).out, (show Hid (w717 275 79 = w 275 79) from Hid.mk (Eq.trans (e719.out.1 275 79 (by decide)) (Hid.upn hw673 (Or.inl (by decide)) (Hid.upn q658 (Or.inl (by decide)) (show Hid (w638 275 79 = w 275 79) from Hid.mk (Eq.trans (q640.out.fld (by decide)) (Hid.upn hw622 (Or.inr (by decide)) (Hid.upn hw604 (Or.inr (by decide)) (show Hid (w587 275 79 = w 275 79) from Hid.mk (Eq.trans (q589.out.fld (by decide)) u117.out)))).out)))).out)).out, (show Hid (w717 275 80 = w 275 80 + 1) from Hid.mk (Eq.trans (e719.out.1 275 80 (by decide)) (Hid.upn hw673 (Or.inl (by decide)) (Hid.upn q658 (Or.inl (by decide)) (show Hid (w638 275 80 = w 275 80 + 1) from Hid.mk (Eq.trans (q640.out.fld (by decide)) (Hid.upn hw622 (Or.inr (by decide)) (Hid.upn hw604 (Or.inr (by decide)) (show Hid (w587 275 80 = w 275 80 + 1) from Hid.mk (Eq.trans (q589.out.fld (by decide)) u118.out)))).out)))).out)).out, (show Hid (w717 275 81 = w 275 81) from Hid.mk (Eq.trans (e719.out.1 275 81 (by decide)) (Hid.upn hw673 (Or.inl (by decide)) (Hid.upn q658 (Or.inl (by decide)) (show Hid (w638 275 81 = w 275 81) from Hid.mk (Eq.trans (q640.out.fld (by decide)) (Hid.upn hw622 (Or.inr (by decide)) (Hid.upn hw604 (Or.inr (by decide)) (show Hid (w587 275 81 = w 275 81) from Hid.mk (Eq.trans (q589.out.fld (by decide)) u119.out)))).out)))).out)).out, (show Hid (w717 275 82 = w 275 82) from Hid.mk (Eq.trans (e719.out.1 275 82 (by decide)) (Hid.upn hw673 (Or.inl (by decide)) (Hid.upn q658 (Or.inl (by decide)) (show Hid (w638 275 82 = w 275 82) from Hid.mk (Eq.trans (q640.out.fld (by decide)) (Hid.upe hw622).out)))).out)).out, (show Hid (w717 275 83 = w114 275 83 - 1) from Hid.mk (e719.out.2)).out, (show Hid (w717 275 86 = w114 275 86) from Hid.mk (Eq.trans (e719.out.1 275 86 (by decide)) (Hid.upn hw673 (Or.inl (by decide)) (Hid.upn q658 (Or.inl (by decide)) (show Hid (w638 275 86 = w114 275 86) from Hid.mk (Eq.trans (q640.out.fld (by decide)) (Hid.upn hw622 (Or.inr (by decide)) (Hid.upn hw604 (Or.inr (by decide)) (show Hid (w587 275 86 = w114 275 86) from Hid.mk (q589.out.fld (by decide))))).out)))).out)).out, (show Hid (w717 275 88 = w114 275 88) from Hid.mk (Eq.trans (e719.out.1 275 88 (by decide)) u685.out)).out, (show Hid (w717 275 94 = w114 275 94) from Hid.mk (Eq.trans (e719.out.1 275 94 (by decide)) (Hid.upn hw673 (Or.inl (by decide)) (Hid.upn q658 (Or.inl (by decide)) (show Hid (w638 275 94 = w114 275 94) from Hid.mk (Eq.trans (q640.out.fld (by decide)) (Hid.upn hw622 (Or.inr (by decide)) (Hid.upn hw604 (Or.inr (by decide)) (show Hid (w587 275 94 = w114 275 94) from Hid.mk (q589.out.fld (by decide))))).out)))).out)).out]; omega), (fun z => by rw [(show Hid (w717 275 88 = w114 275 88) from Hid.mk (Eq.trans (e719.out.1 275 88 (by decide)) u685.out)).out] at z; exact absurd z (by omega))⟩
              · rw [u685.out] at q716z; exact absurd q716z (by omega)
              · rw [u685.out] at q716z; exact absurd q716z (by omega)
          · exact absurd q585b (by decide)
          · refine e_Ok.nrm (q := 70) (st' := []) rfl rfl ?_
            replace q1163 := q1163 (by omega)
            replace q1169 := q1169 (by omega)
            have c744 := cSt.rf q116c q585 q585T q585H
            refine e_Ok.ps3 (x := (0, 0)) (y := (0, 47)) (z := (1, 275)) (q := 74) 3 rfl ?_
            refine e_Ok.callV rfl (Nat.le_trans (by decide) hdq) rfl rfl rfl rfl (c_336 c744.1 (n := w114 275 78) (show Hid (w583 275 78 = w114 275 78) from Hid.mk (q585 275 78 (mRf_fld (by decide)))).out (by omega) (s := w 275 81) (show Hid (w583 275 81 = w 275 81) from Hid.mk (Eq.trans (q585 275 81 (mRf_fld (by decide))) u119.out)).out (by omega)) (fun r746 w747 h748 => ?_)
            obtain ⟨rfl, q749⟩ := h748
            replace q749 := (show Hid (EM w583 w747 (w114 275 78) 47 (0) (w 275 81)) from q749)
            refine e_Ok.nrm (q := 77) (st' := [(0, w114 275 78)]) rfl rfl ?_
            refine e_Ok.run (t' := (81, [(4, (0, w114 275 78)), (3, (0, w 275 78)), (2, (0, w 275 82)), (1, (0, w 275 80)), (0, (1, 275))], [(0, w 275 80), (1, 275)], w747)) 3 rfl ?_
            refine e_Ok.putf rfl (el_o rfl) rfl (ef_o rfl) ?_
            generalize hw764 : e_up w747 275 82 (w 275 80) = w764
            have c778 := cSt.wr (cSt.em c744 q749.out (by decide) (by omega) (by omega)) hw764 (Or.inr rfl) (by omega) rfl (fun _ => ⟨⟨by decide, by decide⟩, fun y => absurd y (by decide)⟩)
            refine e_Ok.ps1 (x := (1, 275)) (q := 85) 1 rfl ?_
            refine e_Ok.callV rfl (Nat.le_trans (by decide) hdq) rfl rfl rfl rfl (c_348_0 (Nat.le_trans (by decide) hdq) c778 (by rw [(Hid.upn hw764 (Or.inr (by decide)) (show Hid (w747 275 88 = w583 275 88) from Hid.mk (q749.out.fld (by decide)))).out] <;> omega)) (fun r779 w780 h781 => ?_)
            obtain ⟨rfl, rfl⟩ := h781
            refine e_Ok.nrm (q := 88) (st' := []) rfl rfl ?_
            refine e_Ok.ps2 (x := (0, w 275 82)) (y := (1, 275)) (q := 90) 2 rfl ?_
            refine e_Ok.putf rfl (el_o rfl) rfl (ef_o rfl) ?_
            generalize hw782 : e_up w764 275 82 (w 275 82) = w782
            have c796 := cSt.wr c778 hw782 (Or.inr rfl) (by omega) rfl (fun _ => ⟨⟨by decide, by decide⟩, fun y => absurd y (by decide)⟩)
            refine e_Ok.ps3 (x := (0, w 275 78)) (y := (0, 48)) (z := (1, 275)) (q := 97) 3 rfl ?_
            refine e_Ok.callV rfl (Nat.le_trans (by decide) hdq) rfl rfl rfl rfl (c_336 c796.1 (n := w114 275 78 + 1) (Hid.upn hw782 (Or.inr (by decide)) (Hid.upn hw764 (Or.inr (by decide)) (show Hid (w747 275 78 = w114 275 78 + 1) from Hid.mk (Eq.trans q749.out.2.2.2.2 (by omega))))).out (by omega) (s := w 275 81) (Hid.upn hw782 (Or.inr (by decide)) (Hid.upn hw764 (Or.inr (by decide)) (show Hid (w747 275 81 = w 275 81) from Hid.mk (Eq.trans (q749.out.fld (by decide)) (show Hid (w583 275 81 = w 275 81) from Hid.mk (Eq.trans (q585 275 81 (mRf_fld (by decide))) u119.out)).out)))).out (by omega)) (fun r797 w798 h799 => ?_)
            obtain ⟨rfl, q800⟩ := h799
            replace q800 := (show Hid (EM w782 w798 (w114 275 78 + 1) 48 (w 275 78) (w 275 81)) from q800)
            have u801 : Hid (w798 275 78 = w114 275 78 + 2) := Hid.mk (Eq.trans q800.out.2.2.2.2 (by omega))
            have c814 := cSt.em c796 q800.out (by decide) (by omega) (by omega)
            refine e_Ok.nrm (q := 100) (st' := [(0, w114 275 78 + 1)]) rfl rfl ?_
            refine e_Ok.run (t' := (104, [(4, (0, w114 275 78)), (3, (0, w 275 78)), (2, (0, w 275 82)), (1, (0, w 275 80)), (0, (1, 275))], [(0, w114 275 78), (1, 275)], w798)) 3 rfl ?_
            refine e_Ok.callV rfl (Nat.le_trans (by decide) hdq) rfl rfl rfl rfl (c_337 c814.1 (n := w114 275 78 + 2) u801.out (by omega) (by omega)) (fun r815 w816 h817 => ?_)
            obtain ⟨rfl, q818⟩ := h817
            have f819 : e_fr (mStm (w 275 78) (w 275 79) (w 275 80) (w 275 94)) w w816 := e_fr.up (show e_fr (mStm (w 275 78) (w 275 79) (w 275 80) (w 275 94)) w w798 from e_fr.trans (show e_fr (mStm (w 275 78) (w 275 79) (w 275 80) (w 275 94)) w w782 from e_fr.up (show e_fr (mStm (w 275 78) (w 275 79) (w 275 80) (w 275 94)) w w764 from e_fr.up (show e_fr (mStm (w 275 78) (w 275 79) (w 275 80) (w 275 94)) w w747 from e_fr.trans (show e_fr (mStm (w 275 78) (w 275 79) (w 275 80) (w 275 94)) w w583 from e_fr.trans f123 (e_fr.mono q585 (fun c k g => mRf_St g))) (q749.out.st (by omega))) hw764 (by first | exact Or.inr (Or.inr (Or.inr (Or.inr ⟨rfl, Or.inl ⟨(by decide), (by decide)⟩⟩))) | (unfold mStm; omega))) hw782 (by first | exact Or.inr (Or.inr (Or.inr (Or.inr ⟨rfl, Or.inl ⟨(by decide), (by decide)⟩⟩))) | (unfold mStm; omega))) (q800.out.st (by omega))) q818 (by unfold mStm; omega)
            refine e_Ok.nrm (q := 107) (st' := []) rfl rfl ?_
            refine e_Ok.ps1 (x := (1, 275)) (q := 108) 1 rfl ?_
            refine e_Ok.getr (z := 336) rfl (el_o rfl) rfl (ef_o rfl) ((f819 275 73 (by first | exact no_bb_1 | (unfold mStm; omega))).trans (e_Has.eq hc.1 rfl)) ⟨by decide, by decide⟩ ?_
            refine e_Ok.ps2 (x := (0, w 275 80)) (y := (0, 3600)) (q := 115) 2 rfl ?_
            refine e_Ok.add (z := w 275 80 + 3600) rfl (Int.add_comm _ _) (by omega) ?_
            refine e_Ok.ps1 (x := (1, 275)) (q := 117) 1 rfl ?_
            refine e_Ok.getf (z := w114 275 78 + 2) rfl (el_o rfl) rfl (ef_o rfl) (Hid.upn q818 (Or.inl (by decide)) u801).out (by omega) ?_
            refine e_Ok.ast rfl (el_o rfl) rfl rfl (by omega) ?_
            generalize hw833 : e_up w816 336 (w 275 80 + 3600) (w114 275 78 + 2) = w833
            have f834 : e_fr (mStm (w 275 78) (w 275 79) (w 275 80) (w 275 94)) w w833 := e_fr.up f819 hw833 (by first | exact Or.inr (Or.inr (Or.inl ⟨⟨(by decide), (by decide)⟩, (by omega)⟩)) | (unfold mStm; omega))
            have u845 : Hid (w833 275 88 = w583 275 88) := Hid.upn hw833 (Or.inl (by decide)) (Hid.upn q818 (Or.inl (by decide)) (show Hid (w798 275 88 = w583 275 88) from Hid.mk (Eq.trans (q800.out.fld (by decide)) (Hid.upn hw782 (Or.inr (by decide)) (Hid.upn hw764 (Or.inr (by decide)) (show Hid (w747 275 88 = w583 275 88) from Hid.mk (q749.out.fld (by decide))))).out)))
            have c847 := cSt.wr (cSt.wr c814 q818 (Or.inl rfl) (by omega) rfl (fun y => absurd y (by decide))) hw833 (Or.inl rfl) (by omega) rfl (fun y => absurd y (by decide))
            refine e_Ok.ps3 (x := (0, 2)) (y := (1, 275)) (z := (1, 275)) (q := 124) 3 rfl ?_
            refine e_Ok.callV rfl (Nat.le_trans (by decide) hdq) rfl rfl rfl rfl (c_332 c847.1 (N := N) c847.2.2.2.1) (fun r848 w849 h850 => ?_)
            obtain ⟨z851, rfl, rfl, q852⟩ := h850
            obtain ⟨rfl, q852, q852b⟩ | ⟨rfl, q852n⟩ := q852
            · refine e_Ok.nrm (q := 127) (st' := [(0, 1), (1, 275)]) rfl rfl ?_
              rw [(Hid.upn hw833 (Or.inl (by decide)) (Hid.upn q818 (Or.inl (by decide)) (show Hid (w798 275 84 = w114 275 84) from Hid.mk (Eq.trans (q800.out.fld (by decide)) (Hid.upn hw782 (Or.inr (by decide)) (Hid.upn hw764 (Or.inr (by decide)) (show Hid (w747 275 84 = w114 275 84) from Hid.mk (Eq.trans (q749.out.fld (by decide)) (show Hid (w583 275 84 = w114 275 84) from Hid.mk (q585 275 84 (mRf_fld (by decide)))).out)))).out)))).out] at q852
              rw [(Hid.upn hw833 (Or.inl (by decide)) (Hid.upn q818 (Or.inl (by decide)) (show Hid (w798 275 85 = w114 275 85) from Hid.mk (Eq.trans (q800.out.fld (by decide)) (Hid.upn hw782 (Or.inr (by decide)) (Hid.upn hw764 (Or.inr (by decide)) (show Hid (w747 275 85 = w114 275 85) from Hid.mk (Eq.trans (q749.out.fld (by decide)) (show Hid (w583 275 85 = w114 275 85) from Hid.mk (q585 275 85 (mRf_fld (by decide)))).out)))).out)))).out] at q852b
              refine e_Ok.callV rfl (Nat.le_trans (by decide) hdq) rfl rfl rfl rfl (c_334 (Nat.le_trans (by decide) hdq) c847.1 c847.2.1 c847.2.2.1 hNr c847.2.2.2.1 (by decide)) (fun r853 w854 h855 => ?_)
              obtain ⟨rfl, q856⟩ := h855
              obtain ⟨rfl, q856z⟩ | ⟨q856z, q856b, q856, q856s, q856t⟩ | ⟨q856z, q856b, q856, q856T, q856H, q856r⟩ := q856
              · show e_Ok 20 elay ecode eI (d + 1) 351 (130, [(4, (0, w114 275 78)), (3, (0, w 275 78)), (2, (0, w 275 82)), (1, (0, w 275 80)), (0, (1, 275))], [], w833) _
                rw [u845.out] at q856z
                refine e_Ok.run (t' := (132, [(4, (0, w114 275 78)), (3, (0, w 275 78)), (2, (0, w 275 82)), (1, (0, w 275 80)), (0, (1, 275))], [(1, 275), (1, 275)], w833)) 2 rfl ?_
                refine e_Ok.getf (z := w114 275 83) rfl (el_o rfl) rfl (ef_o rfl) (Hid.upn hw833 (Or.inl (by decide)) (Hid.upn q818 (Or.inl (by decide)) (show Hid (w798 275 83 = w114 275 83) from Hid.mk (Eq.trans (q800.out.fld (by decide)) (Hid.upn hw782 (Or.inr (by decide)) (Hid.upn hw764 (Or.inr (by decide)) (show Hid (w747 275 83 = w114 275 83) from Hid.mk (Eq.trans (q749.out.fld (by decide)) (show Hid (w583 275 83 = w114 275 83) from Hid.mk (q585 275 83 (mRf_fld (by decide)))).out)))).out)))).out (by omega) ?_
                refine e_Ok.ps1 (x := (0, 1)) (q := 136) 1 rfl ?_
                refine e_Ok.sub' (z := w114 275 83 - 1) rfl rfl (by omega) ?_
                refine e_Ok.putf rfl (el_o rfl) rfl (ef_o rfl) ?_
                generalize hw857 : e_up w833 275 83 (w114 275 83 - 1) = w857
                have e859 := up83 hw857
                replace e859 := (show Hid _ from e859)
                refine e_Ok.rets rfl rfl ?_
                exact ⟨rfl, (show e_fr (mStm (w 275 78) (w 275 79) (w 275 80) (w 275 94)) w w857 from e_fr.up f834 hw857 (by first | exact Or.inr (Or.inr (Or.inr (Or.inr ⟨rfl, Or.inl ⟨(by decide), (by decide)⟩⟩))) | (unfold mStm; omega))), (cSt.up c847 hw857), (by unfold stL; rw [(show Hid (w857 275 78 = w114 275 78 + 2) from Hid.mk (Eq.trans (e859.out.1 275 78 (by decide)) (Hid.upn hw833 (Or.inl (by decide)) (Hid.upn q818 (Or.inl (by decide)) u801)).out)).out, (show Hid (w857 275 79 = w 275 79) from Hid.mk (Eq.trans (e859.out.1 275 79 (by decide)) (Hid.upn hw833 (Or.inl (by decide)) (Hid.upn q818 (Or.inl (by decide)) (show Hid (w798 275 79 = w 275 79) from Hid.mk (Eq.trans (q800.out.fld (by decide)) (Hid.upn hw782 (Or.inr (by decide)) (Hid.upn hw764 (Or.inr (by decide)) (show Hid (w747 275 79 = w 275 79) from Hid.mk (Eq.trans (q749.out.fld (by decide)) (show Hid (w583 275 79 = w 275 79) from Hid.mk (Eq.trans (q585 275 79 (mRf_fld (by decide))) u117.out)).out)))).out)))).out)).out, (show Hid (w857 275 80 = w 275 80 + 1) from Hid.mk (Eq.trans (e859.out.1 275 80 (by decide)) (Hid.upn hw833 (Or.inl (by decide)) (Hid.upn q818 (Or.inl (by decide)) (show Hid (w798 275 80 = w 275 80 + 1) from Hid.mk (Eq.trans (q800.out.fld (by decide)) (Hid.upn hw782 (Or.inr (by decide)) (Hid.upn hw764 (Or.inr (by decide)) (show Hid (w747 275 80 = w 275 80 + 1) from Hid.mk (Eq.trans (q749.out.fld (by decide)) (show Hid (w583 275 80 = w 275 80 + 1) from Hid.mk (Eq.trans (q585 275 80 (mRf_fld (by decide))) u118.out)).out)))).out)))).out)).out, (show Hid (w857 275 81 = w 275 81) from Hid.mk (Eq.trans (e859.out.1 275 81 (by decide)) (Hid.upn hw833 (Or.inl (by decide)) (Hid.upn q818 (Or.inl (by decide)) (show Hid (w798 275 81 = w 275 81) from Hid.mk (Eq.trans (q800.out.fld (by decide)) (Hid.upn hw782 (Or.inr (by decide)) (Hid.upn hw764 (Or.inr (by decide)) (show Hid (w747 275 81 = w 275 81) from Hid.mk (Eq.trans (q749.out.fld (by decide)) (show Hid (w583 275 81 = w 275 81) from Hid.mk (Eq.trans (q585 275 81 (mRf_fld (by decide))) u119.out)).out)))).out)))).out)).out, (show Hid (w857 275 82 = w 275 82) from Hid.mk (Eq.trans (e859.out.1 275 82 (by decide)) (Hid.upn hw833 (Or.inl (by decide)) (Hid.upn q818 (Or.inl (by decide)) (show Hid (w798 275 82 = w 275 82) from Hid.mk (Eq.trans (q800.out.fld (by decide)) (Hid.upe hw782).out)))).out)).out, (show Hid (w857 275 83 = w114 275 83 - 1) from Hid.mk (e859.out.2)).out, (show Hid (w857 275 86 = w114 275 86) from Hid.mk (Eq.trans (e859.out.1 275 86 (by decide)) (Hid.upn hw833 (Or.inl (by decide)) (Hid.upn q818 (Or.inl (by decide)) (show Hid (w798 275 86 = w114 275 86) from Hid.mk (Eq.trans (q800.out.fld (by decide)) (Hid.upn hw782 (Or.inr (by decide)) (Hid.upn hw764 (Or.inr (by decide)) (show Hid (w747 275 86 = w114 275 86) from Hid.mk (Eq.trans (q749.out.fld (by decide)) (show Hid (w583 275 86 = w114 275 86) from Hid.mk (q585 275 86 (mRf_fld (by decide)))).out)))).out)))).out)).out, (show Hid (w857 275 88 = w583 275 88) from Hid.mk (Eq.trans (e859.out.1 275 88 (by decide)) u845.out)).out, (show Hid (w857 275 94 = w114 275 94) from Hid.mk (Eq.trans (e859.out.1 275 94 (by decide)) (Hid.upn hw833 (Or.inl (by decide)) (Hid.upn q818 (Or.inl (by decide)) (show Hid (w798 275 94 = w114 275 94) from Hid.mk (Eq.trans (q800.out.fld (by decide)) (Hid.upn hw782 (Or.inr (by decide)) (Hid.upn hw764 (Or.inr (by decide)) (show Hid (w747 275 94 = w114 275 94) from Hid.mk (Eq.trans (q749.out.fld (by decide)) (show Hid (w583 275 94 = w114 275 94) from Hid.mk (q585 275 94 (mRf_fld (by decide)))).out)))).out)))).out)).out]; omega), (fun z => by rw [(show Hid (w857 275 88 = w583 275 88) from Hid.mk (Eq.trans (e859.out.1 275 88 (by decide)) u845.out)).out] at z; exact absurd z (by omega))⟩
              · rw [u845.out] at q856z; exact absurd q856z (by omega)
              · rw [u845.out] at q856z; exact absurd q856z (by omega)
            · refine e_Ok.nrm (q := 127) (st' := [(0, 0), (1, 275)]) rfl rfl ?_
              clear q852n
              refine e_Ok.callV rfl (Nat.le_trans (by decide) hdq) rfl rfl rfl rfl (c_334 (Nat.le_trans (by decide) hdq) c847.1 c847.2.1 c847.2.2.1 hNr c847.2.2.2.1 (by decide)) (fun r873 w874 h875 => ?_)
              obtain ⟨rfl, q876⟩ := h875
              obtain ⟨rfl, q876z⟩ | ⟨q876z, q876b, q876, q876s, q876t⟩ | ⟨q876z, q876b, q876, q876T, q876H, q876r⟩ := q876
              · refine e_Ok.nrm (q := 130) (st' := []) rfl rfl ?_
                rw [u845.out] at q876z
                refine e_Ok.run (t' := (132, [(4, (0, w114 275 78)), (3, (0, w 275 78)), (2, (0, w 275 82)), (1, (0, w 275 80)), (0, (1, 275))], [(1, 275), (1, 275)], w833)) 2 rfl ?_
                refine e_Ok.getf (z := w114 275 83) rfl (el_o rfl) rfl (ef_o rfl) (Hid.upn hw833 (Or.inl (by decide)) (Hid.upn q818 (Or.inl (by decide)) (show Hid (w798 275 83 = w114 275 83) from Hid.mk (Eq.trans (q800.out.fld (by decide)) (Hid.upn hw782 (Or.inr (by decide)) (Hid.upn hw764 (Or.inr (by decide)) (show Hid (w747 275 83 = w114 275 83) from Hid.mk (Eq.trans (q749.out.fld (by decide)) (show Hid (w583 275 83 = w114 275 83) from Hid.mk (q585 275 83 (mRf_fld (by decide)))).out)))).out)))).out (by omega) ?_
                refine e_Ok.ps1 (x := (0, 1)) (q := 136) 1 rfl ?_
                refine e_Ok.sub' (z := w114 275 83 - 1) rfl rfl (by omega) ?_
                refine e_Ok.putf rfl (el_o rfl) rfl (ef_o rfl) ?_
                generalize hw877 : e_up w833 275 83 (w114 275 83 - 1) = w877
                have e879 := up83 hw877
                replace e879 := (show Hid _ from e879)
                refine e_Ok.rets rfl rfl ?_
                exact ⟨rfl, (show e_fr (mStm (w 275 78) (w 275 79) (w 275 80) (w 275 94)) w w877 from e_fr.up f834 hw877 (by first | exact Or.inr (Or.inr (Or.inr (Or.inr ⟨rfl, Or.inl ⟨(by decide), (by decide)⟩⟩))) | (unfold mStm; omega))), (cSt.up c847 hw877), (by unfold stL; rw [(show Hid (w877 275 78 = w114 275 78 + 2) from Hid.mk (Eq.trans (e879.out.1 275 78 (by decide)) (Hid.upn hw833 (Or.inl (by decide)) (Hid.upn q818 (Or.inl (by decide)) u801)).out)).out, (show Hid (w877 275 79 = w 275 79) from Hid.mk (Eq.trans (e879.out.1 275 79 (by decide)) (Hid.upn hw833 (Or.inl (by decide)) (Hid.upn q818 (Or.inl (by decide)) (show Hid (w798 275 79 = w 275 79) from Hid.mk (Eq.trans (q800.out.fld (by decide)) (Hid.upn hw782 (Or.inr (by decide)) (Hid.upn hw764 (Or.inr (by decide)) (show Hid (w747 275 79 = w 275 79) from Hid.mk (Eq.trans (q749.out.fld (by decide)) (show Hid (w583 275 79 = w 275 79) from Hid.mk (Eq.trans (q585 275 79 (mRf_fld (by decide))) u117.out)).out)))).out)))).out)).out, (show Hid (w877 275 80 = w 275 80 + 1) from Hid.mk (Eq.trans (e879.out.1 275 80 (by decide)) (Hid.upn hw833 (Or.inl (by decide)) (Hid.upn q818 (Or.inl (by decide)) (show Hid (w798 275 80 = w 275 80 + 1) from Hid.mk (Eq.trans (q800.out.fld (by decide)) (Hid.upn hw782 (Or.inr (by decide)) (Hid.upn hw764 (Or.inr (by decide)) (show Hid (w747 275 80 = w 275 80 + 1) from Hid.mk (Eq.trans (q749.out.fld (by decide)) (show Hid (w583 275 80 = w 275 80 + 1) from Hid.mk (Eq.trans (q585 275 80 (mRf_fld (by decide))) u118.out)).out)))).out)))).out)).out, (show Hid (w877 275 81 = w 275 81) from Hid.mk (Eq.trans (e879.out.1 275 81 (by decide)) (Hid.upn hw833 (Or.inl (by decide)) (Hid.upn q818 (Or.inl (by decide)) (show Hid (w798 275 81 = w 275 81) from Hid.mk (Eq.trans (q800.out.fld (by decide)) (Hid.upn hw782 (Or.inr (by decide)) (Hid.upn hw764 (Or.inr (by decide)) (show Hid (w747 275 81 = w 275 81) from Hid.mk (Eq.trans (q749.out.fld (by decide)) (show Hid (w583 275 81 = w 275 81) from Hid.mk (Eq.trans (q585 275 81 (mRf_fld (by decide))) u119.out)).out)))).out)))).out)).out, (show Hid (w877 275 82 = w 275 82) from Hid.mk (Eq.trans (e879.out.1 275 82 (by decide)) (Hid.upn hw833 (Or.inl (by decide)) (Hid.upn q818 (Or.inl (by decide)) (show Hid (w798 275 82 = w 275 82) from Hid.mk (Eq.trans (q800.out.fld (by decide)) (Hid.upe hw782).out)))).out)).out, (show Hid (w877 275 83 = w114 275 83 - 1) from Hid.mk (e879.out.2)).out, (show Hid (w877 275 86 = w114 275 86) from Hid.mk (Eq.trans (e879.out.1 275 86 (by decide)) (Hid.upn hw833 (Or.inl (by decide)) (Hid.upn q818 (Or.inl (by decide)) (show Hid (w798 275 86 = w114 275 86) from Hid.mk (Eq.trans (q800.out.fld (by decide)) (Hid.upn hw782 (Or.inr (by decide)) (Hid.upn hw764 (Or.inr (by decide)) (show Hid (w747 275 86 = w114 275 86) from Hid.mk (Eq.trans (q749.out.fld (by decide)) (show Hid (w583 275 86 = w114 275 86) from Hid.mk (q585 275 86 (mRf_fld (by decide)))).out)))).out)))).out)).out, (show Hid (w877 275 88 = w583 275 88) from Hid.mk (Eq.trans (e879.out.1 275 88 (by decide)) u845.out)).out, (show Hid (w877 275 94 = w114 275 94) from Hid.mk (Eq.trans (e879.out.1 275 94 (by decide)) (Hid.upn hw833 (Or.inl (by decide)) (Hid.upn q818 (Or.inl (by decide)) (show Hid (w798 275 94 = w114 275 94) from Hid.mk (Eq.trans (q800.out.fld (by decide)) (Hid.upn hw782 (Or.inr (by decide)) (Hid.upn hw764 (Or.inr (by decide)) (show Hid (w747 275 94 = w114 275 94) from Hid.mk (Eq.trans (q749.out.fld (by decide)) (show Hid (w583 275 94 = w114 275 94) from Hid.mk (q585 275 94 (mRf_fld (by decide)))).out)))).out)))).out)).out]; omega), (fun z => by rw [(show Hid (w877 275 88 = w583 275 88) from Hid.mk (Eq.trans (e879.out.1 275 88 (by decide)) u845.out)).out] at z; exact absurd z (by omega))⟩
              · rw [u845.out] at q876z; exact absurd q876z (by omega)
              · rw [u845.out] at q876z; exact absurd q876z (by omega)
      · exact absurd q88b (by decide)
    · refine e_Ok.nrm (q := 53) (st' := [(0, 0), (1, 275)]) rfl rfl ?_
      clear q84n
      refine e_Ok.callV rfl (Nat.le_trans (by decide) hdq) rfl rfl rfl rfl (c_334 (Nat.le_trans (by decide) hdq) c74.1 c74.2.1 c74.2.2.1 hNr c74.2.2.2.1 (by decide)) (fun r893 w894 h895 => ?_)
      obtain ⟨rfl, q896⟩ := h895
      obtain ⟨rfl, q896z⟩ | ⟨q896z, q896b, q896, q896s, q896t⟩ | ⟨q896z, q896b, q896, q896T, q896H, q896r⟩ := q896
      · rw [u71.out] at q896z; exact absurd q896z (by omega)
      · exact absurd q896b (by decide)
      · refine e_Ok.nrm (q := 56) (st' := []) rfl rfl ?_
        rw [u71.out] at q896z
        have u900 : Hid (w894 275 81 = w 275 81) := Hid.mk (Eq.trans (q896 275 81 (mRf_fld (by decide))) (show Hid (w58 275 81 = w 275 81) from Hid.mk (Eq.trans (q60.out.fld (by decide)) (Hid.upn hw38 (Or.inl (by decide)) (Hid.upn hw22 (Or.inr (by decide)) (show Hid (w2 275 81 = w 275 81) from Hid.mk (e6.out.1 275 81 (by decide))))).out)).out)
        have c908 := cSt.rf c74 q896 q896T q896H
        have f909 : e_fr (mStm (w 275 78) (w 275 79) (w 275 80) (w 275 94)) w w894 := e_fr.trans f73 (e_fr.mono q896 (fun c k g => mRf_St g))
        refine e_Ok.run (t' := (57, [(3, (0, w 275 78)), (2, (0, w 275 82)), (1, (0, w 275 80)), (0, (1, 275))], [(1, 275)], w894)) 1 rfl ?_
        refine e_Ok.callV rfl (Nat.le_trans (by decide) hdq) rfl rfl rfl rfl (c_339_0 (Nat.le_trans (by decide) hdq) c908 (by omega)) (fun r910 w911 h912 => ?_)
        obtain ⟨rfl, rfl⟩ := h912
        refine e_Ok.nrm (q := 60) (st' := []) rfl rfl ?_
        refine e_Ok.ps3 (x := (0, 58)) (y := (1, 275)) (z := (1, 275)) (q := 64) 3 rfl ?_
        refine e_Ok.callV rfl (Nat.le_trans (by decide) hdq) rfl rfl rfl rfl (c_331 c908.1 (N := N) c908.2.2.2.1) (fun r913 w914 h915 => ?_)
        obtain ⟨z916, rfl, rfl, q917⟩ := h915
        obtain ⟨rfl, q917, q917b⟩ | ⟨rfl, q917n⟩ := q917
        · refine e_Ok.nrm (q := 67) (st' := [(0, 1), (1, 275)]) rfl rfl ?_
          rw [(show Hid (w894 275 84 = w 275 84) from Hid.mk (Eq.trans (q896 275 84 (mRf_fld (by decide))) u67.out)).out] at q917
          rw [(show Hid (w894 275 85 = w 275 85) from Hid.mk (Eq.trans (q896 275 85 (mRf_fld (by decide))) (show Hid (w58 275 85 = w 275 85) from Hid.mk (Eq.trans (q60.out.fld (by decide)) (Hid.upn hw38 (Or.inl (by decide)) (Hid.upn hw22 (Or.inr (by decide)) (show Hid (w2 275 85 = w 275 85) from Hid.mk (e6.out.1 275 85 (by decide))))).out)).out)).out] at q917b
          refine e_Ok.callV rfl (Nat.le_trans (by decide) hdq) rfl rfl rfl rfl (c_334 (Nat.le_trans (by decide) hdq) c908.1 c908.2.1 c908.2.2.1 hNr c908.2.2.2.1 (by decide)) (fun r918 w919 h920 => ?_)
          obtain ⟨rfl, q921⟩ := h920
          obtain ⟨rfl, q921z⟩ | ⟨q921z, q921b, q921, q921s, q921t⟩ | ⟨q921z, q921b, q921, q921T, q921H, q921r⟩ := q921
          · show e_Ok 20 elay ecode eI (d + 1) 351 (70, [(3, (0, w 275 78)), (2, (0, w 275 82)), (1, (0, w 275 80)), (0, (1, 275))], [], w894) _
            refine e_Ok.ps3 (x := (0, 0)) (y := (0, 47)) (z := (1, 275)) (q := 74) 3 rfl ?_
            refine e_Ok.callV rfl (Nat.le_trans (by decide) hdq) rfl rfl rfl rfl (c_336 c908.1 (n := w 275 78 + 1) (show Hid (w894 275 78 = w 275 78 + 1) from Hid.mk (Eq.trans (q896 275 78 (mRf_fld (by decide))) u61.out)).out (by omega) (s := w 275 81) u900.out (by omega)) (fun r922 w923 h924 => ?_)
            obtain ⟨rfl, q925⟩ := h924
            replace q925 := (show Hid (EM w894 w923 (w 275 78 + 1) 47 (0) (w 275 81)) from q925)
            refine e_Ok.nrm (q := 77) (st' := [(0, w 275 78 + 1)]) rfl rfl ?_
            refine e_Ok.run (t' := (81, [(4, (0, w 275 78 + 1)), (3, (0, w 275 78)), (2, (0, w 275 82)), (1, (0, w 275 80)), (0, (1, 275))], [(0, w 275 80), (1, 275)], w923)) 3 rfl ?_
            refine e_Ok.putf rfl (el_o rfl) rfl (ef_o rfl) ?_
            generalize hw940 : e_up w923 275 82 (w 275 80) = w940
            have c954 := cSt.wr (cSt.em c908 q925.out (by decide) (by omega) (by omega)) hw940 (Or.inr rfl) (by omega) rfl (fun _ => ⟨⟨by decide, by decide⟩, fun y => absurd y (by decide)⟩)
            refine e_Ok.ps1 (x := (1, 275)) (q := 85) 1 rfl ?_
            refine e_Ok.callV rfl (Nat.le_trans (by decide) hdq) rfl rfl rfl rfl (c_348_0 (Nat.le_trans (by decide) hdq) c954 (by rw [(Hid.upn hw940 (Or.inr (by decide)) (show Hid (w923 275 88 = w894 275 88) from Hid.mk (q925.out.fld (by decide)))).out] <;> omega)) (fun r955 w956 h957 => ?_)
            obtain ⟨rfl, rfl⟩ := h957
            refine e_Ok.nrm (q := 88) (st' := []) rfl rfl ?_
            refine e_Ok.ps2 (x := (0, w 275 82)) (y := (1, 275)) (q := 90) 2 rfl ?_
            refine e_Ok.putf rfl (el_o rfl) rfl (ef_o rfl) ?_
            generalize hw958 : e_up w940 275 82 (w 275 82) = w958
            have c972 := cSt.wr c954 hw958 (Or.inr rfl) (by omega) rfl (fun _ => ⟨⟨by decide, by decide⟩, fun y => absurd y (by decide)⟩)
            refine e_Ok.ps3 (x := (0, w 275 78)) (y := (0, 48)) (z := (1, 275)) (q := 97) 3 rfl ?_
            refine e_Ok.callV rfl (Nat.le_trans (by decide) hdq) rfl rfl rfl rfl (c_336 c972.1 (n := w 275 78 + 2) (Hid.upn hw958 (Or.inr (by decide)) (Hid.upn hw940 (Or.inr (by decide)) (show Hid (w923 275 78 = w 275 78 + 2) from Hid.mk (Eq.trans q925.out.2.2.2.2 (by omega))))).out (by omega) (s := w 275 81) (Hid.upn hw958 (Or.inr (by decide)) (Hid.upn hw940 (Or.inr (by decide)) (show Hid (w923 275 81 = w 275 81) from Hid.mk (Eq.trans (q925.out.fld (by decide)) u900.out)))).out (by omega)) (fun r973 w974 h975 => ?_)
            obtain ⟨rfl, q976⟩ := h975
            replace q976 := (show Hid (EM w958 w974 (w 275 78 + 2) 48 (w 275 78) (w 275 81)) from q976)
            have u977 : Hid (w974 275 78 = w 275 78 + 3) := Hid.mk (Eq.trans q976.out.2.2.2.2 (by omega))
            have c990 := cSt.em c972 q976.out (by decide) (by omega) (by omega)
            refine e_Ok.nrm (q := 100) (st' := [(0, w 275 78 + 2)]) rfl rfl ?_
            refine e_Ok.run (t' := (104, [(4, (0, w 275 78 + 1)), (3, (0, w 275 78)), (2, (0, w 275 82)), (1, (0, w 275 80)), (0, (1, 275))], [(0, w 275 78 + 1), (1, 275)], w974)) 3 rfl ?_
            refine e_Ok.callV rfl (Nat.le_trans (by decide) hdq) rfl rfl rfl rfl (c_337 c990.1 (n := w 275 78 + 3) u977.out (by omega) (by omega)) (fun r991 w992 h993 => ?_)
            obtain ⟨rfl, q994⟩ := h993
            have f995 : e_fr (mStm (w 275 78) (w 275 79) (w 275 80) (w 275 94)) w w992 := e_fr.up (show e_fr (mStm (w 275 78) (w 275 79) (w 275 80) (w 275 94)) w w974 from e_fr.trans (show e_fr (mStm (w 275 78) (w 275 79) (w 275 80) (w 275 94)) w w958 from e_fr.up (show e_fr (mStm (w 275 78) (w 275 79) (w 275 80) (w 275 94)) w w940 from e_fr.up (show e_fr (mStm (w 275 78) (w 275 79) (w 275 80) (w 275 94)) w w923 from e_fr.trans f909 (q925.out.st (by omega))) hw940 (by first | exact Or.inr (Or.inr (Or.inr (Or.inr ⟨rfl, Or.inl ⟨(by decide), (by decide)⟩⟩))) | (unfold mStm; omega))) hw958 (by first | exact Or.inr (Or.inr (Or.inr (Or.inr ⟨rfl, Or.inl ⟨(by decide), (by decide)⟩⟩))) | (unfold mStm; omega))) (q976.out.st (by omega))) q994 (by unfold mStm; omega)
            refine e_Ok.nrm (q := 107) (st' := []) rfl rfl ?_
            refine e_Ok.ps1 (x := (1, 275)) (q := 108) 1 rfl ?_
            refine e_Ok.getr (z := 336) rfl (el_o rfl) rfl (ef_o rfl) ((f995 275 73 (by first | exact no_bb_1 | (unfold mStm; omega))).trans (e_Has.eq hc.1 rfl)) ⟨by decide, by decide⟩ ?_
            refine e_Ok.ps2 (x := (0, w 275 80)) (y := (0, 3600)) (q := 115) 2 rfl ?_
            refine e_Ok.add (z := w 275 80 + 3600) rfl (Int.add_comm _ _) (by omega) ?_
            refine e_Ok.ps1 (x := (1, 275)) (q := 117) 1 rfl ?_
            refine e_Ok.getf (z := w 275 78 + 3) rfl (el_o rfl) rfl (ef_o rfl) (Hid.upn q994 (Or.inl (by decide)) u977).out (by omega) ?_
            refine e_Ok.ast rfl (el_o rfl) rfl rfl (by omega) ?_
            generalize hw1009 : e_up w992 336 (w 275 80 + 3600) (w 275 78 + 3) = w1009
            have f1010 : e_fr (mStm (w 275 78) (w 275 79) (w 275 80) (w 275 94)) w w1009 := e_fr.up f995 hw1009 (by first | exact Or.inr (Or.inr (Or.inl ⟨⟨(by decide), (by decide)⟩, (by omega)⟩)) | (unfold mStm; omega))
            have u1021 : Hid (w1009 275 88 = w894 275 88) := Hid.upn hw1009 (Or.inl (by decide)) (Hid.upn q994 (Or.inl (by decide)) (show Hid (w974 275 88 = w894 275 88) from Hid.mk (Eq.trans (q976.out.fld (by decide)) (Hid.upn hw958 (Or.inr (by decide)) (Hid.upn hw940 (Or.inr (by decide)) (show Hid (w923 275 88 = w894 275 88) from Hid.mk (q925.out.fld (by decide))))).out)))
            have c1023 := cSt.wr (cSt.wr c990 q994 (Or.inl rfl) (by omega) rfl (fun y => absurd y (by decide))) hw1009 (Or.inl rfl) (by omega) rfl (fun y => absurd y (by decide))
            refine e_Ok.ps3 (x := (0, 2)) (y := (1, 275)) (z := (1, 275)) (q := 124) 3 rfl ?_
            refine e_Ok.callV rfl (Nat.le_trans (by decide) hdq) rfl rfl rfl rfl (c_332 c1023.1 (N := N) c1023.2.2.2.1) (fun r1024 w1025 h1026 => ?_)
            obtain ⟨z1027, rfl, rfl, q1028⟩ := h1026
            obtain ⟨rfl, q1028, q1028b⟩ | ⟨rfl, q1028n⟩ := q1028
            · refine e_Ok.nrm (q := 127) (st' := [(0, 1), (1, 275)]) rfl rfl ?_
              rw [(Hid.upn hw1009 (Or.inl (by decide)) (Hid.upn q994 (Or.inl (by decide)) (show Hid (w974 275 84 = w 275 84) from Hid.mk (Eq.trans (q976.out.fld (by decide)) (Hid.upn hw958 (Or.inr (by decide)) (Hid.upn hw940 (Or.inr (by decide)) (show Hid (w923 275 84 = w 275 84) from Hid.mk (Eq.trans (q925.out.fld (by decide)) (show Hid (w894 275 84 = w 275 84) from Hid.mk (Eq.trans (q896 275 84 (mRf_fld (by decide))) u67.out)).out)))).out)))).out] at q1028
              rw [(Hid.upn hw1009 (Or.inl (by decide)) (Hid.upn q994 (Or.inl (by decide)) (show Hid (w974 275 85 = w 275 85) from Hid.mk (Eq.trans (q976.out.fld (by decide)) (Hid.upn hw958 (Or.inr (by decide)) (Hid.upn hw940 (Or.inr (by decide)) (show Hid (w923 275 85 = w 275 85) from Hid.mk (Eq.trans (q925.out.fld (by decide)) (show Hid (w894 275 85 = w 275 85) from Hid.mk (Eq.trans (q896 275 85 (mRf_fld (by decide))) (show Hid (w58 275 85 = w 275 85) from Hid.mk (Eq.trans (q60.out.fld (by decide)) (Hid.upn hw38 (Or.inl (by decide)) (Hid.upn hw22 (Or.inr (by decide)) (show Hid (w2 275 85 = w 275 85) from Hid.mk (e6.out.1 275 85 (by decide))))).out)).out)).out)))).out)))).out] at q1028b
              refine e_Ok.callV rfl (Nat.le_trans (by decide) hdq) rfl rfl rfl rfl (c_334 (Nat.le_trans (by decide) hdq) c1023.1 c1023.2.1 c1023.2.2.1 hNr c1023.2.2.2.1 (by decide)) (fun r1029 w1030 h1031 => ?_)
              obtain ⟨rfl, q1032⟩ := h1031
              obtain ⟨rfl, q1032z⟩ | ⟨q1032z, q1032b, q1032, q1032s, q1032t⟩ | ⟨q1032z, q1032b, q1032, q1032T, q1032H, q1032r⟩ := q1032
              · show e_Ok 20 elay ecode eI (d + 1) 351 (130, [(4, (0, w 275 78 + 1)), (3, (0, w 275 78)), (2, (0, w 275 82)), (1, (0, w 275 80)), (0, (1, 275))], [], w1009) _
                rw [u1021.out] at q1032z
                refine e_Ok.run (t' := (132, [(4, (0, w 275 78 + 1)), (3, (0, w 275 78)), (2, (0, w 275 82)), (1, (0, w 275 80)), (0, (1, 275))], [(1, 275), (1, 275)], w1009)) 2 rfl ?_
                refine e_Ok.getf (z := w 275 83 + 1) rfl (el_o rfl) rfl (ef_o rfl) (Hid.upn hw1009 (Or.inl (by decide)) (Hid.upn q994 (Or.inl (by decide)) (show Hid (w974 275 83 = w 275 83 + 1) from Hid.mk (Eq.trans (q976.out.fld (by decide)) (Hid.upn hw958 (Or.inr (by decide)) (Hid.upn hw940 (Or.inr (by decide)) (show Hid (w923 275 83 = w 275 83 + 1) from Hid.mk (Eq.trans (q925.out.fld (by decide)) (show Hid (w894 275 83 = w 275 83 + 1) from Hid.mk (Eq.trans (q896 275 83 (mRf_fld (by decide))) (show Hid (w58 275 83 = w 275 83 + 1) from Hid.mk (Eq.trans (q60.out.fld (by decide)) (Hid.upn hw38 (Or.inl (by decide)) (Hid.upn hw22 (Or.inr (by decide)) (show Hid (w2 275 83 = w 275 83 + 1) from Hid.mk (e6.out.2)))).out)).out)).out)))).out)))).out (by omega) ?_
                refine e_Ok.ps1 (x := (0, 1)) (q := 136) 1 rfl ?_
                refine e_Ok.sub' (z := w 275 83) rfl (by omega) (by omega) ?_
                refine e_Ok.putf rfl (el_o rfl) rfl (ef_o rfl) ?_
                generalize hw1033 : e_up w1009 275 83 (w 275 83) = w1033
                have e1035 := up83 hw1033
                replace e1035 := (show Hid _ from e1035)
                refine e_Ok.rets rfl rfl ?_
                exact ⟨rfl, (show e_fr (mStm (w 275 78) (w 275 79) (w 275 80) (w 275 94)) w w1033 from e_fr.up f1010 hw1033 (by first | exact Or.inr (Or.inr (Or.inr (Or.inr ⟨rfl, Or.inl ⟨(by decide), (by decide)⟩⟩))) | (unfold mStm; omega))), (cSt.up c1023 hw1033), (by unfold stL; rw [(show Hid (w1033 275 78 = w 275 78 + 3) from Hid.mk (Eq.trans (e1035.out.1 275 78 (by decide)) (Hid.upn hw1009 (Or.inl (by decide)) (Hid.upn q994 (Or.inl (by decide)) u977)).out)).out, (show Hid (w1033 275 79 = w 275 79) from Hid.mk (Eq.trans (e1035.out.1 275 79 (by decide)) (Hid.upn hw1009 (Or.inl (by decide)) (Hid.upn q994 (Or.inl (by decide)) (show Hid (w974 275 79 = w 275 79) from Hid.mk (Eq.trans (q976.out.fld (by decide)) (Hid.upn hw958 (Or.inr (by decide)) (Hid.upn hw940 (Or.inr (by decide)) (show Hid (w923 275 79 = w 275 79) from Hid.mk (Eq.trans (q925.out.fld (by decide)) (show Hid (w894 275 79 = w 275 79) from Hid.mk (Eq.trans (q896 275 79 (mRf_fld (by decide))) (show Hid (w58 275 79 = w 275 79) from Hid.mk (Eq.trans (q60.out.fld (by decide)) (Hid.upn hw38 (Or.inl (by decide)) (Hid.upn hw22 (Or.inr (by decide)) (show Hid (w2 275 79 = w 275 79) from Hid.mk (e6.out.1 275 79 (by decide))))).out)).out)).out)))).out)))).out)).out, (show Hid (w1033 275 80 = w 275 80 + 1) from Hid.mk (Eq.trans (e1035.out.1 275 80 (by decide)) (Hid.upn hw1009 (Or.inl (by decide)) (Hid.upn q994 (Or.inl (by decide)) (show Hid (w974 275 80 = w 275 80 + 1) from Hid.mk (Eq.trans (q976.out.fld (by decide)) (Hid.upn hw958 (Or.inr (by decide)) (Hid.upn hw940 (Or.inr (by decide)) (show Hid (w923 275 80 = w 275 80 + 1) from Hid.mk (Eq.trans (q925.out.fld (by decide)) (show Hid (w894 275 80 = w 275 80 + 1) from Hid.mk (Eq.trans (q896 275 80 (mRf_fld (by decide))) (show Hid (w58 275 80 = w 275 80 + 1) from Hid.mk (Eq.trans (q60.out.fld (by decide)) (Hid.upn hw38 (Or.inl (by decide)) (Hid.upe hw22)).out)).out)).out)))).out)))).out)).out, (show Hid (w1033 275 81 = w 275 81) from Hid.mk (Eq.trans (e1035.out.1 275 81 (by decide)) (Hid.upn hw1009 (Or.inl (by decide)) (Hid.upn q994 (Or.inl (by decide)) (show Hid (w974 275 81 = w 275 81) from Hid.mk (Eq.trans (q976.out.fld (by decide)) (Hid.upn hw958 (Or.inr (by decide)) (Hid.upn hw940 (Or.inr (by decide)) (show Hid (w923 275 81 = w 275 81) from Hid.mk (Eq.trans (q925.out.fld (by decide)) u900.out)))).out)))).out)).out, (show Hid (w1033 275 82 = w 275 82) from Hid.mk (Eq.trans (e1035.out.1 275 82 (by decide)) (Hid.upn hw1009 (Or.inl (by decide)) (Hid.upn q994 (Or.inl (by decide)) (show Hid (w974 275 82 = w 275 82) from Hid.mk (Eq.trans (q976.out.fld (by decide)) (Hid.upe hw958).out)))).out)).out, (show Hid (w1033 275 83 = w 275 83) from Hid.mk (e1035.out.2)).out, (show Hid (w1033 275 86 = w 275 86) from Hid.mk (Eq.trans (e1035.out.1 275 86 (by decide)) (Hid.upn hw1009 (Or.inl (by decide)) (Hid.upn q994 (Or.inl (by decide)) (show Hid (w974 275 86 = w 275 86) from Hid.mk (Eq.trans (q976.out.fld (by decide)) (Hid.upn hw958 (Or.inr (by decide)) (Hid.upn hw940 (Or.inr (by decide)) (show Hid (w923 275 86 = w 275 86) from Hid.mk (Eq.trans (q925.out.fld (by decide)) (show Hid (w894 275 86 = w 275 86) from Hid.mk (Eq.trans (q896 275 86 (mRf_fld (by decide))) (show Hid (w58 275 86 = w 275 86) from Hid.mk (Eq.trans (q60.out.fld (by decide)) (Hid.upn hw38 (Or.inl (by decide)) (Hid.upn hw22 (Or.inr (by decide)) (show Hid (w2 275 86 = w 275 86) from Hid.mk (e6.out.1 275 86 (by decide))))).out)).out)).out)))).out)))).out)).out, (show Hid (w1033 275 88 = w894 275 88) from Hid.mk (Eq.trans (e1035.out.1 275 88 (by decide)) u1021.out)).out, (show Hid (w1033 275 94 = w 275 94) from Hid.mk (Eq.trans (e1035.out.1 275 94 (by decide)) (Hid.upn hw1009 (Or.inl (by decide)) (Hid.upn q994 (Or.inl (by decide)) (show Hid (w974 275 94 = w 275 94) from Hid.mk (Eq.trans (q976.out.fld (by decide)) (Hid.upn hw958 (Or.inr (by decide)) (Hid.upn hw940 (Or.inr (by decide)) (show Hid (w923 275 94 = w 275 94) from Hid.mk (Eq.trans (q925.out.fld (by decide)) (show Hid (w894 275 94 = w 275 94) from Hid.mk (Eq.trans (q896 275 94 (mRf_fld (by decide))) (show Hid (w58 275 94 = w 275 94) from Hid.mk (Eq.trans (q60.out.fld (by decide)) (Hid.upn hw38 (Or.inl (by decide)) (Hid.upn hw22 (Or.inr (by decide)) (show Hid (w2 275 94 = w 275 94) from Hid.mk (e6.out.1 275 94 (by decide))))).out)).out)).out)))).out)))).out)).out]; omega), (fun z => by rw [(show Hid (w1033 275 88 = w894 275 88) from Hid.mk (Eq.trans (e1035.out.1 275 88 (by decide)) u1021.out)).out] at z; exact absurd z (by omega))⟩
              · rw [u1021.out] at q1032z; exact absurd q1032z (by omega)
              · rw [u1021.out] at q1032z; exact absurd q1032z (by omega)
            · refine e_Ok.nrm (q := 127) (st' := [(0, 0), (1, 275)]) rfl rfl ?_
              clear q1028n
              refine e_Ok.callV rfl (Nat.le_trans (by decide) hdq) rfl rfl rfl rfl (c_334 (Nat.le_trans (by decide) hdq) c1023.1 c1023.2.1 c1023.2.2.1 hNr c1023.2.2.2.1 (by decide)) (fun r1049 w1050 h1051 => ?_)
              obtain ⟨rfl, q1052⟩ := h1051
              obtain ⟨rfl, q1052z⟩ | ⟨q1052z, q1052b, q1052, q1052s, q1052t⟩ | ⟨q1052z, q1052b, q1052, q1052T, q1052H, q1052r⟩ := q1052
              · refine e_Ok.nrm (q := 130) (st' := []) rfl rfl ?_
                rw [u1021.out] at q1052z
                refine e_Ok.run (t' := (132, [(4, (0, w 275 78 + 1)), (3, (0, w 275 78)), (2, (0, w 275 82)), (1, (0, w 275 80)), (0, (1, 275))], [(1, 275), (1, 275)], w1009)) 2 rfl ?_
                refine e_Ok.getf (z := w 275 83 + 1) rfl (el_o rfl) rfl (ef_o rfl) (Hid.upn hw1009 (Or.inl (by decide)) (Hid.upn q994 (Or.inl (by decide)) (show Hid (w974 275 83 = w 275 83 + 1) from Hid.mk (Eq.trans (q976.out.fld (by decide)) (Hid.upn hw958 (Or.inr (by decide)) (Hid.upn hw940 (Or.inr (by decide)) (show Hid (w923 275 83 = w 275 83 + 1) from Hid.mk (Eq.trans (q925.out.fld (by decide)) (show Hid (w894 275 83 = w 275 83 + 1) from Hid.mk (Eq.trans (q896 275 83 (mRf_fld (by decide))) (show Hid (w58 275 83 = w 275 83 + 1) from Hid.mk (Eq.trans (q60.out.fld (by decide)) (Hid.upn hw38 (Or.inl (by decide)) (Hid.upn hw22 (Or.inr (by decide)) (show Hid (w2 275 83 = w 275 83 + 1) from Hid.mk (e6.out.2)))).out)).out)).out)))).out)))).out (by omega) ?_
                refine e_Ok.ps1 (x := (0, 1)) (q := 136) 1 rfl ?_
                refine e_Ok.sub' (z := w 275 83) rfl (by omega) (by omega) ?_
                refine e_Ok.putf rfl (el_o rfl) rfl (ef_o rfl) ?_
                generalize hw1053 : e_up w1009 275 83 (w 275 83) = w1053
                have e1055 := up83 hw1053
                replace e1055 := (show Hid _ from e1055)
                refine e_Ok.rets rfl rfl ?_
                exact ⟨rfl, (show e_fr (mStm (w 275 78) (w 275 79) (w 275 80) (w 275 94)) w w1053 from e_fr.up f1010 hw1053 (by first | exact Or.inr (Or.inr (Or.inr (Or.inr ⟨rfl, Or.inl ⟨(by decide), (by decide)⟩⟩))) | (unfold mStm; omega))), (cSt.up c1023 hw1053), (by unfold stL; rw [(show Hid (w1053 275 78 = w 275 78 + 3) from Hid.mk (Eq.trans (e1055.out.1 275 78 (by decide)) (Hid.upn hw1009 (Or.inl (by decide)) (Hid.upn q994 (Or.inl (by decide)) u977)).out)).out, (show Hid (w1053 275 79 = w 275 79) from Hid.mk (Eq.trans (e1055.out.1 275 79 (by decide)) (Hid.upn hw1009 (Or.inl (by decide)) (Hid.upn q994 (Or.inl (by decide)) (show Hid (w974 275 79 = w 275 79) from Hid.mk (Eq.trans (q976.out.fld (by decide)) (Hid.upn hw958 (Or.inr (by decide)) (Hid.upn hw940 (Or.inr (by decide)) (show Hid (w923 275 79 = w 275 79) from Hid.mk (Eq.trans (q925.out.fld (by decide)) (show Hid (w894 275 79 = w 275 79) from Hid.mk (Eq.trans (q896 275 79 (mRf_fld (by decide))) (show Hid (w58 275 79 = w 275 79) from Hid.mk (Eq.trans (q60.out.fld (by decide)) (Hid.upn hw38 (Or.inl (by decide)) (Hid.upn hw22 (Or.inr (by decide)) (show Hid (w2 275 79 = w 275 79) from Hid.mk (e6.out.1 275 79 (by decide))))).out)).out)).out)))).out)))).out)).out, (show Hid (w1053 275 80 = w 275 80 + 1) from Hid.mk (Eq.trans (e1055.out.1 275 80 (by decide)) (Hid.upn hw1009 (Or.inl (by decide)) (Hid.upn q994 (Or.inl (by decide)) (show Hid (w974 275 80 = w 275 80 + 1) from Hid.mk (Eq.trans (q976.out.fld (by decide)) (Hid.upn hw958 (Or.inr (by decide)) (Hid.upn hw940 (Or.inr (by decide)) (show Hid (w923 275 80 = w 275 80 + 1) from Hid.mk (Eq.trans (q925.out.fld (by decide)) (show Hid (w894 275 80 = w 275 80 + 1) from Hid.mk (Eq.trans (q896 275 80 (mRf_fld (by decide))) (show Hid (w58 275 80 = w 275 80 + 1) from Hid.mk (Eq.trans (q60.out.fld (by decide)) (Hid.upn hw38 (Or.inl (by decide)) (Hid.upe hw22)).out)).out)).out)))).out)))).out)).out, (show Hid (w1053 275 81 = w 275 81) from Hid.mk (Eq.trans (e1055.out.1 275 81 (by decide)) (Hid.upn hw1009 (Or.inl (by decide)) (Hid.upn q994 (Or.inl (by decide)) (show Hid (w974 275 81 = w 275 81) from Hid.mk (Eq.trans (q976.out.fld (by decide)) (Hid.upn hw958 (Or.inr (by decide)) (Hid.upn hw940 (Or.inr (by decide)) (show Hid (w923 275 81 = w 275 81) from Hid.mk (Eq.trans (q925.out.fld (by decide)) u900.out)))).out)))).out)).out, (show Hid (w1053 275 82 = w 275 82) from Hid.mk (Eq.trans (e1055.out.1 275 82 (by decide)) (Hid.upn hw1009 (Or.inl (by decide)) (Hid.upn q994 (Or.inl (by decide)) (show Hid (w974 275 82 = w 275 82) from Hid.mk (Eq.trans (q976.out.fld (by decide)) (Hid.upe hw958).out)))).out)).out, (show Hid (w1053 275 83 = w 275 83) from Hid.mk (e1055.out.2)).out, (show Hid (w1053 275 86 = w 275 86) from Hid.mk (Eq.trans (e1055.out.1 275 86 (by decide)) (Hid.upn hw1009 (Or.inl (by decide)) (Hid.upn q994 (Or.inl (by decide)) (show Hid (w974 275 86 = w 275 86) from Hid.mk (Eq.trans (q976.out.fld (by decide)) (Hid.upn hw958 (Or.inr (by decide)) (Hid.upn hw940 (Or.inr (by decide)) (show Hid (w923 275 86 = w 275 86) from Hid.mk (Eq.trans (q925.out.fld (by decide)) (show Hid (w894 275 86 = w 275 86) from Hid.mk (Eq.trans (q896 275 86 (mRf_fld (by decide))) (show Hid (w58 275 86 = w 275 86) from Hid.mk (Eq.trans (q60.out.fld (by decide)) (Hid.upn hw38 (Or.inl (by decide)) (Hid.upn hw22 (Or.inr (by decide)) (show Hid (w2 275 86 = w 275 86) from Hid.mk (e6.out.1 275 86 (by decide))))).out)).out)).out)))).out)))).out)).out, (show Hid (w1053 275 88 = w894 275 88) from Hid.mk (Eq.trans (e1055.out.1 275 88 (by decide)) u1021.out)).out, (show Hid (w1053 275 94 = w 275 94) from Hid.mk (Eq.trans (e1055.out.1 275 94 (by decide)) (Hid.upn hw1009 (Or.inl (by decide)) (Hid.upn q994 (Or.inl (by decide)) (show Hid (w974 275 94 = w 275 94) from Hid.mk (Eq.trans (q976.out.fld (by decide)) (Hid.upn hw958 (Or.inr (by decide)) (Hid.upn hw940 (Or.inr (by decide)) (show Hid (w923 275 94 = w 275 94) from Hid.mk (Eq.trans (q925.out.fld (by decide)) (show Hid (w894 275 94 = w 275 94) from Hid.mk (Eq.trans (q896 275 94 (mRf_fld (by decide))) (show Hid (w58 275 94 = w 275 94) from Hid.mk (Eq.trans (q60.out.fld (by decide)) (Hid.upn hw38 (Or.inl (by decide)) (Hid.upn hw22 (Or.inr (by decide)) (show Hid (w2 275 94 = w 275 94) from Hid.mk (e6.out.1 275 94 (by decide))))).out)).out)).out)))).out)))).out)).out]; omega), (fun z => by rw [(show Hid (w1053 275 88 = w894 275 88) from Hid.mk (Eq.trans (e1055.out.1 275 88 (by decide)) u1021.out)).out] at z; exact absurd z (by omega))⟩
              · rw [u1021.out] at q1052z; exact absurd q1052z (by omega)
              · rw [u1021.out] at q1052z; exact absurd q1052z (by omega)
          · exact absurd q921z (by omega)
          · exact absurd q921z (by omega)
        · refine e_Ok.nrm (q := 67) (st' := [(0, 0), (1, 275)]) rfl rfl ?_
          clear q917n
          refine e_Ok.callV rfl (Nat.le_trans (by decide) hdq) rfl rfl rfl rfl (c_334 (Nat.le_trans (by decide) hdq) c908.1 c908.2.1 c908.2.2.1 hNr c908.2.2.2.1 (by decide)) (fun r1069 w1070 h1071 => ?_)
          obtain ⟨rfl, q1072⟩ := h1071
          obtain ⟨rfl, q1072z⟩ | ⟨q1072z, q1072b, q1072, q1072s, q1072t⟩ | ⟨q1072z, q1072b, q1072, q1072T, q1072H, q1072r⟩ := q1072
          · refine e_Ok.nrm (q := 70) (st' := []) rfl rfl ?_
            refine e_Ok.ps3 (x := (0, 0)) (y := (0, 47)) (z := (1, 275)) (q := 74) 3 rfl ?_
            refine e_Ok.callV rfl (Nat.le_trans (by decide) hdq) rfl rfl rfl rfl (c_336 c908.1 (n := w 275 78 + 1) (show Hid (w894 275 78 = w 275 78 + 1) from Hid.mk (Eq.trans (q896 275 78 (mRf_fld (by decide))) u61.out)).out (by omega) (s := w 275 81) u900.out (by omega)) (fun r1073 w1074 h1075 => ?_)
            obtain ⟨rfl, q1076⟩ := h1075
            replace q1076 := (show Hid (EM w894 w1074 (w 275 78 + 1) 47 (0) (w 275 81)) from q1076)
            refine e_Ok.nrm (q := 77) (st' := [(0, w 275 78 + 1)]) rfl rfl ?_
            refine e_Ok.run (t' := (81, [(4, (0, w 275 78 + 1)), (3, (0, w 275 78)), (2, (0, w 275 82)), (1, (0, w 275 80)), (0, (1, 275))], [(0, w 275 80), (1, 275)], w1074)) 3 rfl ?_
            refine e_Ok.putf rfl (el_o rfl) rfl (ef_o rfl) ?_
            generalize hw1091 : e_up w1074 275 82 (w 275 80) = w1091
            have c1105 := cSt.wr (cSt.em c908 q1076.out (by decide) (by omega) (by omega)) hw1091 (Or.inr rfl) (by omega) rfl (fun _ => ⟨⟨by decide, by decide⟩, fun y => absurd y (by decide)⟩)
            refine e_Ok.ps1 (x := (1, 275)) (q := 85) 1 rfl ?_
            refine e_Ok.callV rfl (Nat.le_trans (by decide) hdq) rfl rfl rfl rfl (c_348_0 (Nat.le_trans (by decide) hdq) c1105 (by rw [(Hid.upn hw1091 (Or.inr (by decide)) (show Hid (w1074 275 88 = w894 275 88) from Hid.mk (q1076.out.fld (by decide)))).out] <;> omega)) (fun r1106 w1107 h1108 => ?_)
            obtain ⟨rfl, rfl⟩ := h1108
            refine e_Ok.nrm (q := 88) (st' := []) rfl rfl ?_
            refine e_Ok.ps2 (x := (0, w 275 82)) (y := (1, 275)) (q := 90) 2 rfl ?_
            refine e_Ok.putf rfl (el_o rfl) rfl (ef_o rfl) ?_
            generalize hw1109 : e_up w1091 275 82 (w 275 82) = w1109
            have c1123 := cSt.wr c1105 hw1109 (Or.inr rfl) (by omega) rfl (fun _ => ⟨⟨by decide, by decide⟩, fun y => absurd y (by decide)⟩)
            refine e_Ok.ps3 (x := (0, w 275 78)) (y := (0, 48)) (z := (1, 275)) (q := 97) 3 rfl ?_
            refine e_Ok.callV rfl (Nat.le_trans (by decide) hdq) rfl rfl rfl rfl (c_336 c1123.1 (n := w 275 78 + 2) (Hid.upn hw1109 (Or.inr (by decide)) (Hid.upn hw1091 (Or.inr (by decide)) (show Hid (w1074 275 78 = w 275 78 + 2) from Hid.mk (Eq.trans q1076.out.2.2.2.2 (by omega))))).out (by omega) (s := w 275 81) (Hid.upn hw1109 (Or.inr (by decide)) (Hid.upn hw1091 (Or.inr (by decide)) (show Hid (w1074 275 81 = w 275 81) from Hid.mk (Eq.trans (q1076.out.fld (by decide)) u900.out)))).out (by omega)) (fun r1124 w1125 h1126 => ?_)
            obtain ⟨rfl, q1127⟩ := h1126
            replace q1127 := (show Hid (EM w1109 w1125 (w 275 78 + 2) 48 (w 275 78) (w 275 81)) from q1127)
            have u1128 : Hid (w1125 275 78 = w 275 78 + 3) := Hid.mk (Eq.trans q1127.out.2.2.2.2 (by omega))
            have c1141 := cSt.em c1123 q1127.out (by decide) (by omega) (by omega)
            refine e_Ok.nrm (q := 100) (st' := [(0, w 275 78 + 2)]) rfl rfl ?_
            refine e_Ok.run (t' := (104, [(4, (0, w 275 78 + 1)), (3, (0, w 275 78)), (2, (0, w 275 82)), (1, (0, w 275 80)), (0, (1, 275))], [(0, w 275 78 + 1), (1, 275)], w1125)) 3 rfl ?_
            refine e_Ok.callV rfl (Nat.le_trans (by decide) hdq) rfl rfl rfl rfl (c_337 c1141.1 (n := w 275 78 + 3) u1128.out (by omega) (by omega)) (fun r1142 w1143 h1144 => ?_)
            obtain ⟨rfl, q1145⟩ := h1144
            have f1146 : e_fr (mStm (w 275 78) (w 275 79) (w 275 80) (w 275 94)) w w1143 := e_fr.up (show e_fr (mStm (w 275 78) (w 275 79) (w 275 80) (w 275 94)) w w1125 from e_fr.trans (show e_fr (mStm (w 275 78) (w 275 79) (w 275 80) (w 275 94)) w w1109 from e_fr.up (show e_fr (mStm (w 275 78) (w 275 79) (w 275 80) (w 275 94)) w w1091 from e_fr.up (show e_fr (mStm (w 275 78) (w 275 79) (w 275 80) (w 275 94)) w w1074 from e_fr.trans f909 (q1076.out.st (by omega))) hw1091 (by first | exact Or.inr (Or.inr (Or.inr (Or.inr ⟨rfl, Or.inl ⟨(by decide), (by decide)⟩⟩))) | (unfold mStm; omega))) hw1109 (by first | exact Or.inr (Or.inr (Or.inr (Or.inr ⟨rfl, Or.inl ⟨(by decide), (by decide)⟩⟩))) | (unfold mStm; omega))) (q1127.out.st (by omega))) q1145 (by unfold mStm; omega)
            refine e_Ok.nrm (q := 107) (st' := []) rfl rfl ?_
            refine e_Ok.ps1 (x := (1, 275)) (q := 108) 1 rfl ?_
            refine e_Ok.getr (z := 336) rfl (el_o rfl) rfl (ef_o rfl) ((f1146 275 73 (by first | exact no_bb_1 | (unfold mStm; omega))).trans (e_Has.eq hc.1 rfl)) ⟨by decide, by decide⟩ ?_
            refine e_Ok.ps2 (x := (0, w 275 80)) (y := (0, 3600)) (q := 115) 2 rfl ?_
            refine e_Ok.add (z := w 275 80 + 3600) rfl (Int.add_comm _ _) (by omega) ?_
            refine e_Ok.ps1 (x := (1, 275)) (q := 117) 1 rfl ?_
            refine e_Ok.getf (z := w 275 78 + 3) rfl (el_o rfl) rfl (ef_o rfl) (Hid.upn q1145 (Or.inl (by decide)) u1128).out (by omega) ?_
            refine e_Ok.ast rfl (el_o rfl) rfl rfl (by omega) ?_
            generalize hw1160 : e_up w1143 336 (w 275 80 + 3600) (w 275 78 + 3) = w1160
            have f1161 : e_fr (mStm (w 275 78) (w 275 79) (w 275 80) (w 275 94)) w w1160 := e_fr.up f1146 hw1160 (by first | exact Or.inr (Or.inr (Or.inl ⟨⟨(by decide), (by decide)⟩, (by omega)⟩)) | (unfold mStm; omega))
            have u1172 : Hid (w1160 275 88 = w894 275 88) := Hid.upn hw1160 (Or.inl (by decide)) (Hid.upn q1145 (Or.inl (by decide)) (show Hid (w1125 275 88 = w894 275 88) from Hid.mk (Eq.trans (q1127.out.fld (by decide)) (Hid.upn hw1109 (Or.inr (by decide)) (Hid.upn hw1091 (Or.inr (by decide)) (show Hid (w1074 275 88 = w894 275 88) from Hid.mk (q1076.out.fld (by decide))))).out)))
            have c1174 := cSt.wr (cSt.wr c1141 q1145 (Or.inl rfl) (by omega) rfl (fun y => absurd y (by decide))) hw1160 (Or.inl rfl) (by omega) rfl (fun y => absurd y (by decide))
            refine e_Ok.ps3 (x := (0, 2)) (y := (1, 275)) (z := (1, 275)) (q := 124) 3 rfl ?_
            refine e_Ok.callV rfl (Nat.le_trans (by decide) hdq) rfl rfl rfl rfl (c_332 c1174.1 (N := N) c1174.2.2.2.1) (fun r1175 w1176 h1177 => ?_)
            obtain ⟨z1178, rfl, rfl, q1179⟩ := h1177
            obtain ⟨rfl, q1179, q1179b⟩ | ⟨rfl, q1179n⟩ := q1179
            · refine e_Ok.nrm (q := 127) (st' := [(0, 1), (1, 275)]) rfl rfl ?_
              rw [(Hid.upn hw1160 (Or.inl (by decide)) (Hid.upn q1145 (Or.inl (by decide)) (show Hid (w1125 275 84 = w 275 84) from Hid.mk (Eq.trans (q1127.out.fld (by decide)) (Hid.upn hw1109 (Or.inr (by decide)) (Hid.upn hw1091 (Or.inr (by decide)) (show Hid (w1074 275 84 = w 275 84) from Hid.mk (Eq.trans (q1076.out.fld (by decide)) (show Hid (w894 275 84 = w 275 84) from Hid.mk (Eq.trans (q896 275 84 (mRf_fld (by decide))) u67.out)).out)))).out)))).out] at q1179
              rw [(Hid.upn hw1160 (Or.inl (by decide)) (Hid.upn q1145 (Or.inl (by decide)) (show Hid (w1125 275 85 = w 275 85) from Hid.mk (Eq.trans (q1127.out.fld (by decide)) (Hid.upn hw1109 (Or.inr (by decide)) (Hid.upn hw1091 (Or.inr (by decide)) (show Hid (w1074 275 85 = w 275 85) from Hid.mk (Eq.trans (q1076.out.fld (by decide)) (show Hid (w894 275 85 = w 275 85) from Hid.mk (Eq.trans (q896 275 85 (mRf_fld (by decide))) (show Hid (w58 275 85 = w 275 85) from Hid.mk (Eq.trans (q60.out.fld (by decide)) (Hid.upn hw38 (Or.inl (by decide)) (Hid.upn hw22 (Or.inr (by decide)) (show Hid (w2 275 85 = w 275 85) from Hid.mk (e6.out.1 275 85 (by decide))))).out)).out)).out)))).out)))).out] at q1179b
              refine e_Ok.callV rfl (Nat.le_trans (by decide) hdq) rfl rfl rfl rfl (c_334 (Nat.le_trans (by decide) hdq) c1174.1 c1174.2.1 c1174.2.2.1 hNr c1174.2.2.2.1 (by decide)) (fun r1180 w1181 h1182 => ?_)
              obtain ⟨rfl, q1183⟩ := h1182
              obtain ⟨rfl, q1183z⟩ | ⟨q1183z, q1183b, q1183, q1183s, q1183t⟩ | ⟨q1183z, q1183b, q1183, q1183T, q1183H, q1183r⟩ := q1183
              · show e_Ok 20 elay ecode eI (d + 1) 351 (130, [(4, (0, w 275 78 + 1)), (3, (0, w 275 78)), (2, (0, w 275 82)), (1, (0, w 275 80)), (0, (1, 275))], [], w1160) _
                rw [u1172.out] at q1183z
                refine e_Ok.run (t' := (132, [(4, (0, w 275 78 + 1)), (3, (0, w 275 78)), (2, (0, w 275 82)), (1, (0, w 275 80)), (0, (1, 275))], [(1, 275), (1, 275)], w1160)) 2 rfl ?_
                refine e_Ok.getf (z := w 275 83 + 1) rfl (el_o rfl) rfl (ef_o rfl) (Hid.upn hw1160 (Or.inl (by decide)) (Hid.upn q1145 (Or.inl (by decide)) (show Hid (w1125 275 83 = w 275 83 + 1) from Hid.mk (Eq.trans (q1127.out.fld (by decide)) (Hid.upn hw1109 (Or.inr (by decide)) (Hid.upn hw1091 (Or.inr (by decide)) (show Hid (w1074 275 83 = w 275 83 + 1) from Hid.mk (Eq.trans (q1076.out.fld (by decide)) (show Hid (w894 275 83 = w 275 83 + 1) from Hid.mk (Eq.trans (q896 275 83 (mRf_fld (by decide))) (show Hid (w58 275 83 = w 275 83 + 1) from Hid.mk (Eq.trans (q60.out.fld (by decide)) (Hid.upn hw38 (Or.inl (by decide)) (Hid.upn hw22 (Or.inr (by decide)) (show Hid (w2 275 83 = w 275 83 + 1) from Hid.mk (e6.out.2)))).out)).out)).out)))).out)))).out (by omega) ?_
                refine e_Ok.ps1 (x := (0, 1)) (q := 136) 1 rfl ?_
                refine e_Ok.sub' (z := w 275 83) rfl (by omega) (by omega) ?_
                refine e_Ok.putf rfl (el_o rfl) rfl (ef_o rfl) ?_
                generalize hw1184 : e_up w1160 275 83 (w 275 83) = w1184
                have e1186 := up83 hw1184
                replace e1186 := (show Hid _ from e1186)
                refine e_Ok.rets rfl rfl ?_
                exact ⟨rfl, (show e_fr (mStm (w 275 78) (w 275 79) (w 275 80) (w 275 94)) w w1184 from e_fr.up f1161 hw1184 (by first | exact Or.inr (Or.inr (Or.inr (Or.inr ⟨rfl, Or.inl ⟨(by decide), (by decide)⟩⟩))) | (unfold mStm; omega))), (cSt.up c1174 hw1184), (by unfold stL; rw [(show Hid (w1184 275 78 = w 275 78 + 3) from Hid.mk (Eq.trans (e1186.out.1 275 78 (by decide)) (Hid.upn hw1160 (Or.inl (by decide)) (Hid.upn q1145 (Or.inl (by decide)) u1128)).out)).out, (show Hid (w1184 275 79 = w 275 79) from Hid.mk (Eq.trans (e1186.out.1 275 79 (by decide)) (Hid.upn hw1160 (Or.inl (by decide)) (Hid.upn q1145 (Or.inl (by decide)) (show Hid (w1125 275 79 = w 275 79) from Hid.mk (Eq.trans (q1127.out.fld (by decide)) (Hid.upn hw1109 (Or.inr (by decide)) (Hid.upn hw1091 (Or.inr (by decide)) (show Hid (w1074 275 79 = w 275 79) from Hid.mk (Eq.trans (q1076.out.fld (by decide)) (show Hid (w894 275 79 = w 275 79) from Hid.mk (Eq.trans (q896 275 79 (mRf_fld (by decide))) (show Hid (w58 275 79 = w 275 79) from Hid.mk (Eq.trans (q60.out.fld (by decide)) (Hid.upn hw38 (Or.inl (by decide)) (Hid.upn hw22 (Or.inr (by decide)) (show Hid (w2 275 79 = w 275 79) from Hid.mk (e6.out.1 275 79 (by decide))))).out)).out)).out)))).out)))).out)).out, (show Hid (w1184 275 80 = w 275 80 + 1) from Hid.mk (Eq.trans (e1186.out.1 275 80 (by decide)) (Hid.upn hw1160 (Or.inl (by decide)) (Hid.upn q1145 (Or.inl (by decide)) (show Hid (w1125 275 80 = w 275 80 + 1) from Hid.mk (Eq.trans (q1127.out.fld (by decide)) (Hid.upn hw1109 (Or.inr (by decide)) (Hid.upn hw1091 (Or.inr (by decide)) (show Hid (w1074 275 80 = w 275 80 + 1) from Hid.mk (Eq.trans (q1076.out.fld (by decide)) (show Hid (w894 275 80 = w 275 80 + 1) from Hid.mk (Eq.trans (q896 275 80 (mRf_fld (by decide))) (show Hid (w58 275 80 = w 275 80 + 1) from Hid.mk (Eq.trans (q60.out.fld (by decide)) (Hid.upn hw38 (Or.inl (by decide)) (Hid.upe hw22)).out)).out)).out)))).out)))).out)).out, (show Hid (w1184 275 81 = w 275 81) from Hid.mk (Eq.trans (e1186.out.1 275 81 (by decide)) (Hid.upn hw1160 (Or.inl (by decide)) (Hid.upn q1145 (Or.inl (by decide)) (show Hid (w1125 275 81 = w 275 81) from Hid.mk (Eq.trans (q1127.out.fld (by decide)) (Hid.upn hw1109 (Or.inr (by decide)) (Hid.upn hw1091 (Or.inr (by decide)) (show Hid (w1074 275 81 = w 275 81) from Hid.mk (Eq.trans (q1076.out.fld (by decide)) u900.out)))).out)))).out)).out, (show Hid (w1184 275 82 = w 275 82) from Hid.mk (Eq.trans (e1186.out.1 275 82 (by decide)) (Hid.upn hw1160 (Or.inl (by decide)) (Hid.upn q1145 (Or.inl (by decide)) (show Hid (w1125 275 82 = w 275 82) from Hid.mk (Eq.trans (q1127.out.fld (by decide)) (Hid.upe hw1109).out)))).out)).out, (show Hid (w1184 275 83 = w 275 83) from Hid.mk (e1186.out.2)).out, (show Hid (w1184 275 86 = w 275 86) from Hid.mk (Eq.trans (e1186.out.1 275 86 (by decide)) (Hid.upn hw1160 (Or.inl (by decide)) (Hid.upn q1145 (Or.inl (by decide)) (show Hid (w1125 275 86 = w 275 86) from Hid.mk (Eq.trans (q1127.out.fld (by decide)) (Hid.upn hw1109 (Or.inr (by decide)) (Hid.upn hw1091 (Or.inr (by decide)) (show Hid (w1074 275 86 = w 275 86) from Hid.mk (Eq.trans (q1076.out.fld (by decide)) (show Hid (w894 275 86 = w 275 86) from Hid.mk (Eq.trans (q896 275 86 (mRf_fld (by decide))) (show Hid (w58 275 86 = w 275 86) from Hid.mk (Eq.trans (q60.out.fld (by decide)) (Hid.upn hw38 (Or.inl (by decide)) (Hid.upn hw22 (Or.inr (by decide)) (show Hid (w2 275 86 = w 275 86) from Hid.mk (e6.out.1 275 86 (by decide))))).out)).out)).out)))).out)))).out)).out, (show Hid (w1184 275 88 = w894 275 88) from Hid.mk (Eq.trans (e1186.out.1 275 88 (by decide)) u1172.out)).out, (show Hid (w1184 275 94 = w 275 94) from Hid.mk (Eq.trans (e1186.out.1 275 94 (by decide)) (Hid.upn hw1160 (Or.inl (by decide)) (Hid.upn q1145 (Or.inl (by decide)) (show Hid (w1125 275 94 = w 275 94) from Hid.mk (Eq.trans (q1127.out.fld (by decide)) (Hid.upn hw1109 (Or.inr (by decide)) (Hid.upn hw1091 (Or.inr (by decide)) (show Hid (w1074 275 94 = w 275 94) from Hid.mk (Eq.trans (q1076.out.fld (by decide)) (show Hid (w894 275 94 = w 275 94) from Hid.mk (Eq.trans (q896 275 94 (mRf_fld (by decide))) (show Hid (w58 275 94 = w 275 94) from Hid.mk (Eq.trans (q60.out.fld (by decide)) (Hid.upn hw38 (Or.inl (by decide)) (Hid.upn hw22 (Or.inr (by decide)) (show Hid (w2 275 94 = w 275 94) from Hid.mk (e6.out.1 275 94 (by decide))))).out)).out)).out)))).out)))).out)).out]; omega), (fun z => by rw [(show Hid (w1184 275 88 = w894 275 88) from Hid.mk (Eq.trans (e1186.out.1 275 88 (by decide)) u1172.out)).out] at z; exact absurd z (by omega))⟩
              · rw [u1172.out] at q1183z; exact absurd q1183z (by omega)
              · rw [u1172.out] at q1183z; exact absurd q1183z (by omega)
            · refine e_Ok.nrm (q := 127) (st' := [(0, 0), (1, 275)]) rfl rfl ?_
              clear q1179n
              refine e_Ok.callV rfl (Nat.le_trans (by decide) hdq) rfl rfl rfl rfl (c_334 (Nat.le_trans (by decide) hdq) c1174.1 c1174.2.1 c1174.2.2.1 hNr c1174.2.2.2.1 (by decide)) (fun r1200 w1201 h1202 => ?_)
              obtain ⟨rfl, q1203⟩ := h1202
              obtain ⟨rfl, q1203z⟩ | ⟨q1203z, q1203b, q1203, q1203s, q1203t⟩ | ⟨q1203z, q1203b, q1203, q1203T, q1203H, q1203r⟩ := q1203
              · refine e_Ok.nrm (q := 130) (st' := []) rfl rfl ?_
                rw [u1172.out] at q1203z
                refine e_Ok.run (t' := (132, [(4, (0, w 275 78 + 1)), (3, (0, w 275 78)), (2, (0, w 275 82)), (1, (0, w 275 80)), (0, (1, 275))], [(1, 275), (1, 275)], w1160)) 2 rfl ?_
                refine e_Ok.getf (z := w 275 83 + 1) rfl (el_o rfl) rfl (ef_o rfl) (Hid.upn hw1160 (Or.inl (by decide)) (Hid.upn q1145 (Or.inl (by decide)) (show Hid (w1125 275 83 = w 275 83 + 1) from Hid.mk (Eq.trans (q1127.out.fld (by decide)) (Hid.upn hw1109 (Or.inr (by decide)) (Hid.upn hw1091 (Or.inr (by decide)) (show Hid (w1074 275 83 = w 275 83 + 1) from Hid.mk (Eq.trans (q1076.out.fld (by decide)) (show Hid (w894 275 83 = w 275 83 + 1) from Hid.mk (Eq.trans (q896 275 83 (mRf_fld (by decide))) (show Hid (w58 275 83 = w 275 83 + 1) from Hid.mk (Eq.trans (q60.out.fld (by decide)) (Hid.upn hw38 (Or.inl (by decide)) (Hid.upn hw22 (Or.inr (by decide)) (show Hid (w2 275 83 = w 275 83 + 1) from Hid.mk (e6.out.2)))).out)).out)).out)))).out)))).out (by omega) ?_
                refine e_Ok.ps1 (x := (0, 1)) (q := 136) 1 rfl ?_
                refine e_Ok.sub' (z := w 275 83) rfl (by omega) (by omega) ?_
                refine e_Ok.putf rfl (el_o rfl) rfl (ef_o rfl) ?_
                generalize hw1204 : e_up w1160 275 83 (w 275 83) = w1204
                have e1206 := up83 hw1204
                replace e1206 := (show Hid _ from e1206)
                refine e_Ok.rets rfl rfl ?_
                exact ⟨rfl, (show e_fr (mStm (w 275 78) (w 275 79) (w 275 80) (w 275 94)) w w1204 from e_fr.up f1161 hw1204 (by first | exact Or.inr (Or.inr (Or.inr (Or.inr ⟨rfl, Or.inl ⟨(by decide), (by decide)⟩⟩))) | (unfold mStm; omega))), (cSt.up c1174 hw1204), (by unfold stL; rw [(show Hid (w1204 275 78 = w 275 78 + 3) from Hid.mk (Eq.trans (e1206.out.1 275 78 (by decide)) (Hid.upn hw1160 (Or.inl (by decide)) (Hid.upn q1145 (Or.inl (by decide)) u1128)).out)).out, (show Hid (w1204 275 79 = w 275 79) from Hid.mk (Eq.trans (e1206.out.1 275 79 (by decide)) (Hid.upn hw1160 (Or.inl (by decide)) (Hid.upn q1145 (Or.inl (by decide)) (show Hid (w1125 275 79 = w 275 79) from Hid.mk (Eq.trans (q1127.out.fld (by decide)) (Hid.upn hw1109 (Or.inr (by decide)) (Hid.upn hw1091 (Or.inr (by decide)) (show Hid (w1074 275 79 = w 275 79) from Hid.mk (Eq.trans (q1076.out.fld (by decide)) (show Hid (w894 275 79 = w 275 79) from Hid.mk (Eq.trans (q896 275 79 (mRf_fld (by decide))) (show Hid (w58 275 79 = w 275 79) from Hid.mk (Eq.trans (q60.out.fld (by decide)) (Hid.upn hw38 (Or.inl (by decide)) (Hid.upn hw22 (Or.inr (by decide)) (show Hid (w2 275 79 = w 275 79) from Hid.mk (e6.out.1 275 79 (by decide))))).out)).out)).out)))).out)))).out)).out, (show Hid (w1204 275 80 = w 275 80 + 1) from Hid.mk (Eq.trans (e1206.out.1 275 80 (by decide)) (Hid.upn hw1160 (Or.inl (by decide)) (Hid.upn q1145 (Or.inl (by decide)) (show Hid (w1125 275 80 = w 275 80 + 1) from Hid.mk (Eq.trans (q1127.out.fld (by decide)) (Hid.upn hw1109 (Or.inr (by decide)) (Hid.upn hw1091 (Or.inr (by decide)) (show Hid (w1074 275 80 = w 275 80 + 1) from Hid.mk (Eq.trans (q1076.out.fld (by decide)) (show Hid (w894 275 80 = w 275 80 + 1) from Hid.mk (Eq.trans (q896 275 80 (mRf_fld (by decide))) (show Hid (w58 275 80 = w 275 80 + 1) from Hid.mk (Eq.trans (q60.out.fld (by decide)) (Hid.upn hw38 (Or.inl (by decide)) (Hid.upe hw22)).out)).out)).out)))).out)))).out)).out, (show Hid (w1204 275 81 = w 275 81) from Hid.mk (Eq.trans (e1206.out.1 275 81 (by decide)) (Hid.upn hw1160 (Or.inl (by decide)) (Hid.upn q1145 (Or.inl (by decide)) (show Hid (w1125 275 81 = w 275 81) from Hid.mk (Eq.trans (q1127.out.fld (by decide)) (Hid.upn hw1109 (Or.inr (by decide)) (Hid.upn hw1091 (Or.inr (by decide)) (show Hid (w1074 275 81 = w 275 81) from Hid.mk (Eq.trans (q1076.out.fld (by decide)) u900.out)))).out)))).out)).out, (show Hid (w1204 275 82 = w 275 82) from Hid.mk (Eq.trans (e1206.out.1 275 82 (by decide)) (Hid.upn hw1160 (Or.inl (by decide)) (Hid.upn q1145 (Or.inl (by decide)) (show Hid (w1125 275 82 = w 275 82) from Hid.mk (Eq.trans (q1127.out.fld (by decide)) (Hid.upe hw1109).out)))).out)).out, (show Hid (w1204 275 83 = w 275 83) from Hid.mk (e1206.out.2)).out, (show Hid (w1204 275 86 = w 275 86) from Hid.mk (Eq.trans (e1206.out.1 275 86 (by decide)) (Hid.upn hw1160 (Or.inl (by decide)) (Hid.upn q1145 (Or.inl (by decide)) (show Hid (w1125 275 86 = w 275 86) from Hid.mk (Eq.trans (q1127.out.fld (by decide)) (Hid.upn hw1109 (Or.inr (by decide)) (Hid.upn hw1091 (Or.inr (by decide)) (show Hid (w1074 275 86 = w 275 86) from Hid.mk (Eq.trans (q1076.out.fld (by decide)) (show Hid (w894 275 86 = w 275 86) from Hid.mk (Eq.trans (q896 275 86 (mRf_fld (by decide))) (show Hid (w58 275 86 = w 275 86) from Hid.mk (Eq.trans (q60.out.fld (by decide)) (Hid.upn hw38 (Or.inl (by decide)) (Hid.upn hw22 (Or.inr (by decide)) (show Hid (w2 275 86 = w 275 86) from Hid.mk (e6.out.1 275 86 (by decide))))).out)).out)).out)))).out)))).out)).out, (show Hid (w1204 275 88 = w894 275 88) from Hid.mk (Eq.trans (e1206.out.1 275 88 (by decide)) u1172.out)).out, (show Hid (w1204 275 94 = w 275 94) from Hid.mk (Eq.trans (e1206.out.1 275 94 (by decide)) (Hid.upn hw1160 (Or.inl (by decide)) (Hid.upn q1145 (Or.inl (by decide)) (show Hid (w1125 275 94 = w 275 94) from Hid.mk (Eq.trans (q1127.out.fld (by decide)) (Hid.upn hw1109 (Or.inr (by decide)) (Hid.upn hw1091 (Or.inr (by decide)) (show Hid (w1074 275 94 = w 275 94) from Hid.mk (Eq.trans (q1076.out.fld (by decide)) (show Hid (w894 275 94 = w 275 94) from Hid.mk (Eq.trans (q896 275 94 (mRf_fld (by decide))) (show Hid (w58 275 94 = w 275 94) from Hid.mk (Eq.trans (q60.out.fld (by decide)) (Hid.upn hw38 (Or.inl (by decide)) (Hid.upn hw22 (Or.inr (by decide)) (show Hid (w2 275 94 = w 275 94) from Hid.mk (e6.out.1 275 94 (by decide))))).out)).out)).out)))).out)))).out)).out]; omega), (fun z => by rw [(show Hid (w1204 275 88 = w894 275 88) from Hid.mk (Eq.trans (e1206.out.1 275 88 (by decide)) u1172.out)).out] at z; exact absurd z (by omega))⟩
              · rw [u1172.out] at q1203z; exact absurd q1203z (by omega)
              · rw [u1172.out] at q1203z; exact absurd q1203z (by omega)
          · exact absurd q1072z (by omega)
          · exact absurd q1072z (by omega)
  · refine e_Ok.nrm (q := 4) (st' := []) rfl rfl ?_
    have e1233 := up83 q4u
    replace e1233 := (show Hid _ from e1233)
    refine e_Ok.ps1 (x := (1, 275)) (q := 5) 1 rfl ?_
    refine e_Ok.getf (z := w 275 80) rfl (el_o rfl) rfl (ef_o rfl) (show Hid (w2 275 80 = w 275 80) from Hid.mk (Eq.trans (e1233.out.1 275 80 (by decide)) (show Hid (w5 275 80 = w 275 80) from Hid.mk (q4 275 80 (mRf_fld (by decide)))).out)).out (by omega) ?_
    refine e_Ok.run (t' := (11, [(1, (0, w 275 80)), (0, (1, 275))], [(1, 275), (1, 275)], w2)) 3 rfl ?_
    refine e_Ok.getf (z := w 275 80) rfl (el_o rfl) rfl (ef_o rfl) (show Hid (w2 275 80 = w 275 80) from Hid.mk (Eq.trans (e1233.out.1 275 80 (by decide)) (show Hid (w5 275 80 = w 275 80) from Hid.mk (q4 275 80 (mRf_fld (by decide)))).out)).out (by omega) ?_
    refine e_Ok.ps1 (x := (0, 1)) (q := 15) 1 rfl ?_
    refine e_Ok.add (z := w 275 80 + 1) rfl rfl (by omega) ?_
    refine e_Ok.putf rfl (el_o rfl) rfl (ef_o rfl) ?_
    generalize hw1248 : e_up w2 275 80 (w 275 80 + 1) = w1248
    have f1249 : e_fr (mStm (w 275 78) (w 275 79) (w 275 80) (w 275 94)) w w1248 := e_fr.up (show e_fr (mStm (w 275 78) (w 275 79) (w 275 80) (w 275 94)) w w2 from e_fr.trans (show e_fr (mStm (w 275 78) (w 275 79) (w 275 80) (w 275 94)) w w5 from e_fr.trans (e_fr.refl w) (e_fr.mono q4 (fun c k g => mRf_St g))) (fun c k g => e1233.out.1 c k (fun g2 => g (mU_St g2)))) hw1248 (by first | exact Or.inr (Or.inr (Or.inr (Or.inr ⟨rfl, Or.inl ⟨(by decide), (by decide)⟩⟩))) | (unfold mStm; omega))
    refine e_Ok.ps1 (x := (1, 275)) (q := 20) 1 rfl ?_
    refine e_Ok.getf (z := w 275 82) rfl (el_o rfl) rfl (ef_o rfl) (Hid.upn hw1248 (Or.inr (by decide)) (show Hid (w2 275 82 = w 275 82) from Hid.mk (Eq.trans (e1233.out.1 275 82 (by decide)) (show Hid (w5 275 82 = w 275 82) from Hid.mk (q4 275 82 (mRf_fld (by decide)))).out))).out (by omega) ?_
    refine e_Ok.run (t' := (25, [(2, (0, w 275 82)), (1, (0, w 275 80)), (0, (1, 275))], [(1, 275)], w1248)) 2 rfl ?_
    refine e_Ok.getr (z := 335) rfl (el_o rfl) rfl (ef_o rfl) ((f1249 275 72 (by first | exact no_bb_0 | (unfold mStm; omega))).trans (e_Has.eq hc.1 rfl)) ⟨by decide, by decide⟩ ?_
    refine e_Ok.ps2 (x := (0, w 275 80)) (y := (0, 3600)) (q := 32) 2 rfl ?_
    refine e_Ok.add (z := w 275 80 + 3600) rfl (Int.add_comm _ _) (by omega) ?_
    refine e_Ok.ps1 (x := (1, 275)) (q := 34) 1 rfl ?_
    refine e_Ok.getf (z := w 275 81) rfl (el_o rfl) rfl (ef_o rfl) (Hid.upn hw1248 (Or.inr (by decide)) (show Hid (w2 275 81 = w 275 81) from Hid.mk (Eq.trans (e1233.out.1 275 81 (by decide)) (show Hid (w5 275 81 = w 275 81) from Hid.mk (q4 275 81 (mRf_fld (by decide)))).out))).out (by omega) ?_
    refine e_Ok.ast rfl (el_o rfl) rfl rfl (by omega) ?_
    generalize hw1263 : e_up w1248 335 (w 275 80 + 3600) (w 275 81) = w1263
    have c1277 := cSt.wr (cSt.wr (cSt.up (cSt.rf hc q4 q4T q4H) q4u) hw1248 (Or.inr rfl) (by omega) rfl (fun _ => ⟨⟨by decide, by decide⟩, fun y => absurd y (by decide)⟩)) hw1263 (Or.inl rfl) (by omega) rfl (fun y => absurd y (by decide))
    refine e_Ok.ps3 (x := (0, 0)) (y := (0, 30)) (z := (1, 275)) (q := 42) 3 rfl ?_
    refine e_Ok.callV rfl (Nat.le_trans (by decide) hdq) rfl rfl rfl rfl (c_336 c1277.1 (n := w 275 78) (Hid.upn hw1263 (Or.inl (by decide)) (Hid.upn hw1248 (Or.inr (by decide)) (show Hid (w2 275 78 = w 275 78) from Hid.mk (Eq.trans (e1233.out.1 275 78 (by decide)) (show Hid (w5 275 78 = w 275 78) from Hid.mk (q4 275 78 (mRf_fld (by decide)))).out)))).out (by omega) (s := w 275 81) (Hid.upn hw1263 (Or.inl (by decide)) (Hid.upn hw1248 (Or.inr (by decide)) (show Hid (w2 275 81 = w 275 81) from Hid.mk (Eq.trans (e1233.out.1 275 81 (by decide)) (show Hid (w5 275 81 = w 275 81) from Hid.mk (q4 275 81 (mRf_fld (by decide)))).out)))).out (by omega)) (fun r1278 w1279 h1280 => ?_)
    obtain ⟨rfl, q1281⟩ := h1280
    replace q1281 := (show Hid (EM w1263 w1279 (w 275 78) 30 (0) (w 275 81)) from q1281)
    have u1282 : Hid (w1279 275 78 = w 275 78 + 1) := Hid.mk (Eq.trans q1281.out.2.2.2.2 (by omega))
    have u1283 : Hid (w1279 275 79 = w 275 79) := Hid.mk (Eq.trans (q1281.out.fld (by decide)) (Hid.upn hw1263 (Or.inl (by decide)) (Hid.upn hw1248 (Or.inr (by decide)) (show Hid (w2 275 79 = w 275 79) from Hid.mk (Eq.trans (e1233.out.1 275 79 (by decide)) (show Hid (w5 275 79 = w 275 79) from Hid.mk (q4 275 79 (mRf_fld (by decide)))).out)))).out)
    have u1284 : Hid (w1279 275 80 = w 275 80 + 1) := Hid.mk (Eq.trans (q1281.out.fld (by decide)) (Hid.upn hw1263 (Or.inl (by decide)) (Hid.upe hw1248)).out)
    have u1285 : Hid (w1279 275 81 = w 275 81) := Hid.mk (Eq.trans (q1281.out.fld (by decide)) (Hid.upn hw1263 (Or.inl (by decide)) (Hid.upn hw1248 (Or.inr (by decide)) (show Hid (w2 275 81 = w 275 81) from Hid.mk (Eq.trans (e1233.out.1 275 81 (by decide)) (show Hid (w5 275 81 = w 275 81) from Hid.mk (q4 275 81 (mRf_fld (by decide)))).out)))).out)
    have u1287 : Hid (w1279 275 83 = w 275 83 + 1) := Hid.mk (Eq.trans (q1281.out.fld (by decide)) (Hid.upn hw1263 (Or.inl (by decide)) (Hid.upn hw1248 (Or.inr (by decide)) (show Hid (w2 275 83 = w 275 83 + 1) from Hid.mk (e1233.out.2)))).out)
    have u1288 : Hid (w1279 275 84 = w 275 84) := Hid.mk (Eq.trans (q1281.out.fld (by decide)) (Hid.upn hw1263 (Or.inl (by decide)) (Hid.upn hw1248 (Or.inr (by decide)) (show Hid (w2 275 84 = w 275 84) from Hid.mk (Eq.trans (e1233.out.1 275 84 (by decide)) (show Hid (w5 275 84 = w 275 84) from Hid.mk (q4 275 84 (mRf_fld (by decide)))).out)))).out)
    have u1289 : Hid (w1279 275 85 = w 275 85) := Hid.mk (Eq.trans (q1281.out.fld (by decide)) (Hid.upn hw1263 (Or.inl (by decide)) (Hid.upn hw1248 (Or.inr (by decide)) (show Hid (w2 275 85 = w 275 85) from Hid.mk (Eq.trans (e1233.out.1 275 85 (by decide)) (show Hid (w5 275 85 = w 275 85) from Hid.mk (q4 275 85 (mRf_fld (by decide)))).out)))).out)
    have u1290 : Hid (w1279 275 86 = w 275 86) := Hid.mk (Eq.trans (q1281.out.fld (by decide)) (Hid.upn hw1263 (Or.inl (by decide)) (Hid.upn hw1248 (Or.inr (by decide)) (show Hid (w2 275 86 = w 275 86) from Hid.mk (Eq.trans (e1233.out.1 275 86 (by decide)) (show Hid (w5 275 86 = w 275 86) from Hid.mk (q4 275 86 (mRf_fld (by decide)))).out)))).out)
    have u1292 : Hid (w1279 275 88 = w5 275 88) := Hid.mk (Eq.trans (q1281.out.fld (by decide)) (Hid.upn hw1263 (Or.inl (by decide)) (Hid.upn hw1248 (Or.inr (by decide)) (show Hid (w2 275 88 = w5 275 88) from Hid.mk (e1233.out.1 275 88 (by decide))))).out)
    have u1293 : Hid (w1279 275 94 = w 275 94) := Hid.mk (Eq.trans (q1281.out.fld (by decide)) (Hid.upn hw1263 (Or.inl (by decide)) (Hid.upn hw1248 (Or.inr (by decide)) (show Hid (w2 275 94 = w 275 94) from Hid.mk (Eq.trans (e1233.out.1 275 94 (by decide)) (show Hid (w5 275 94 = w 275 94) from Hid.mk (q4 275 94 (mRf_fld (by decide)))).out)))).out)
    have f1294 : e_fr (mStm (w 275 78) (w 275 79) (w 275 80) (w 275 94)) w w1279 := e_fr.trans (show e_fr (mStm (w 275 78) (w 275 79) (w 275 80) (w 275 94)) w w1263 from e_fr.up f1249 hw1263 (by first | exact Or.inr (Or.inr (Or.inl ⟨⟨(by decide), (by decide)⟩, (by omega)⟩)) | (unfold mStm; omega))) (q1281.out.st (by omega))
    have c1295 := cSt.em c1277 q1281.out (by decide) (by omega) (by omega)
    refine e_Ok.nrm (q := 45) (st' := [(0, w 275 78)]) rfl rfl ?_
    refine e_Ok.run (t' := (50, [(3, (0, w 275 78)), (2, (0, w 275 82)), (1, (0, w 275 80)), (0, (1, 275))], [(0, 20), (1, 275), (1, 275)], w1279)) 4 rfl ?_
    refine e_Ok.callV rfl (Nat.le_trans (by decide) hdq) rfl rfl rfl rfl (c_332 c1295.1 (N := N) c1295.2.2.2.1) (fun r1296 w1297 h1298 => ?_)
    obtain ⟨z1299, rfl, rfl, q1300⟩ := h1298
    obtain ⟨rfl, q1300, q1300b⟩ | ⟨rfl, q1300n⟩ := q1300
    · refine e_Ok.nrm (q := 53) (st' := [(0, 1), (1, 275)]) rfl rfl ?_
      rw [u1288.out] at q1300
      rw [u1289.out] at q1300b
      refine e_Ok.callV rfl (Nat.le_trans (by decide) hdq) rfl rfl rfl rfl (c_334 (Nat.le_trans (by decide) hdq) c1295.1 c1295.2.1 c1295.2.2.1 hNr c1295.2.2.2.1 (by decide)) (fun r1301 w1302 h1303 => ?_)
      obtain ⟨rfl, q1304⟩ := h1303
      obtain ⟨rfl, q1304z⟩ | ⟨q1304z, q1304b, q1304, q1304s, q1304t⟩ | ⟨q1304z, q1304b, q1304, q1304T, q1304H, q1304r⟩ := q1304
      · show e_Ok 20 elay ecode eI (d + 1) 351 (56, [(3, (0, w 275 78)), (2, (0, w 275 82)), (1, (0, w 275 80)), (0, (1, 275))], [], w1279) _
        rw [u1292.out] at q1304z
        refine e_Ok.run (t' := (57, [(3, (0, w 275 78)), (2, (0, w 275 82)), (1, (0, w 275 80)), (0, (1, 275))], [(1, 275)], w1279)) 1 rfl ?_
        refine e_Ok.callV rfl (Nat.le_trans (by decide) hdq) rfl rfl rfl rfl (c_339_0 (Nat.le_trans (by decide) hdq) c1295 (by rw [u1292.out] <;> omega)) (fun r1305 w1306 h1307 => ?_)
        obtain ⟨rfl, rfl⟩ := h1307
        refine e_Ok.nrm (q := 60) (st' := []) rfl rfl ?_
        refine e_Ok.ps3 (x := (0, 58)) (y := (1, 275)) (z := (1, 275)) (q := 64) 3 rfl ?_
        refine e_Ok.callV rfl (Nat.le_trans (by decide) hdq) rfl rfl rfl rfl (c_331 c1295.1 (N := N) c1295.2.2.2.1) (fun r1308 w1309 h1310 => ?_)
        obtain ⟨z1311, rfl, rfl, q1312⟩ := h1310
        obtain ⟨rfl, q1312, q1312b⟩ | ⟨rfl, q1312n⟩ := q1312
        · refine e_Ok.nrm (q := 67) (st' := [(0, 1), (1, 275)]) rfl rfl ?_
          rw [u1288.out] at q1312
          rw [u1289.out] at q1312b
          refine e_Ok.callV rfl (Nat.le_trans (by decide) hdq) rfl rfl rfl rfl (c_334 (Nat.le_trans (by decide) hdq) c1295.1 c1295.2.1 c1295.2.2.1 hNr c1295.2.2.2.1 (by decide)) (fun r1313 w1314 h1315 => ?_)
          obtain ⟨rfl, q1316⟩ := h1315
          obtain ⟨rfl, q1316z⟩ | ⟨q1316z, q1316b, q1316, q1316s, q1316t⟩ | ⟨q1316z, q1316b, q1316, q1316T, q1316H, q1316r⟩ := q1316
          · show e_Ok 20 elay ecode eI (d + 1) 351 (70, [(3, (0, w 275 78)), (2, (0, w 275 82)), (1, (0, w 275 80)), (0, (1, 275))], [], w1279) _
            rw [u1292.out] at q1316z
            refine e_Ok.run (t' := (74, [(3, (0, w 275 78)), (2, (0, w 275 82)), (1, (0, w 275 80)), (0, (1, 275))], [(0, 0), (0, 47), (1, 275)], w1279)) 3 rfl ?_
            refine e_Ok.callV rfl (Nat.le_trans (by decide) hdq) rfl rfl rfl rfl (c_336 c1295.1 (n := w 275 78 + 1) u1282.out (by omega) (s := w 275 81) u1285.out (by omega)) (fun r1317 w1318 h1319 => ?_)
            obtain ⟨rfl, q1320⟩ := h1319
            replace q1320 := (show Hid (EM w1279 w1318 (w 275 78 + 1) 47 (0) (w 275 81)) from q1320)
            refine e_Ok.nrm (q := 77) (st' := [(0, w 275 78 + 1)]) rfl rfl ?_
            refine e_Ok.run (t' := (81, [(4, (0, w 275 78 + 1)), (3, (0, w 275 78)), (2, (0, w 275 82)), (1, (0, w 275 80)), (0, (1, 275))], [(0, w 275 80), (1, 275)], w1318)) 3 rfl ?_
            refine e_Ok.putf rfl (el_o rfl) rfl (ef_o rfl) ?_
            generalize hw1335 : e_up w1318 275 82 (w 275 80) = w1335
            have c1349 := cSt.wr (cSt.em c1295 q1320.out (by decide) (by omega) (by omega)) hw1335 (Or.inr rfl) (by omega) rfl (fun _ => ⟨⟨by decide, by decide⟩, fun y => absurd y (by decide)⟩)
            refine e_Ok.ps1 (x := (1, 275)) (q := 85) 1 rfl ?_
            refine e_Ok.callV rfl (Nat.le_trans (by decide) hdq) rfl rfl rfl rfl (c_348_0 (Nat.le_trans (by decide) hdq) c1349 (by rw [(Hid.upn hw1335 (Or.inr (by decide)) (show Hid (w1318 275 88 = w5 275 88) from Hid.mk (Eq.trans (q1320.out.fld (by decide)) u1292.out))).out] <;> omega)) (fun r1350 w1351 h1352 => ?_)
            obtain ⟨rfl, rfl⟩ := h1352
            refine e_Ok.nrm (q := 88) (st' := []) rfl rfl ?_
            refine e_Ok.ps2 (x := (0, w 275 82)) (y := (1, 275)) (q := 90) 2 rfl ?_
            refine e_Ok.putf rfl (el_o rfl) rfl (ef_o rfl) ?_
            generalize hw1353 : e_up w1335 275 82 (w 275 82) = w1353
            have c1367 := cSt.wr c1349 hw1353 (Or.inr rfl) (by omega) rfl (fun _ => ⟨⟨by decide, by decide⟩, fun y => absurd y (by decide)⟩)
            refine e_Ok.ps3 (x := (0, w 275 78)) (y := (0, 48)) (z := (1, 275)) (q := 97) 3 rfl ?_
            refine e_Ok.callV rfl (Nat.le_trans (by decide) hdq) rfl rfl rfl rfl (c_336 c1367.1 (n := w 275 78 + 2) (Hid.upn hw1353 (Or.inr (by decide)) (Hid.upn hw1335 (Or.inr (by decide)) (show Hid (w1318 275 78 = w 275 78 + 2) from Hid.mk (Eq.trans q1320.out.2.2.2.2 (by omega))))).out (by omega) (s := w 275 81) (Hid.upn hw1353 (Or.inr (by decide)) (Hid.upn hw1335 (Or.inr (by decide)) (show Hid (w1318 275 81 = w 275 81) from Hid.mk (Eq.trans (q1320.out.fld (by decide)) u1285.out)))).out (by omega)) (fun r1368 w1369 h1370 => ?_)
            obtain ⟨rfl, q1371⟩ := h1370
            replace q1371 := (show Hid (EM w1353 w1369 (w 275 78 + 2) 48 (w 275 78) (w 275 81)) from q1371)
            have u1372 : Hid (w1369 275 78 = w 275 78 + 3) := Hid.mk (Eq.trans q1371.out.2.2.2.2 (by omega))
            have c1385 := cSt.em c1367 q1371.out (by decide) (by omega) (by omega)
            refine e_Ok.nrm (q := 100) (st' := [(0, w 275 78 + 2)]) rfl rfl ?_
            refine e_Ok.run (t' := (104, [(4, (0, w 275 78 + 1)), (3, (0, w 275 78)), (2, (0, w 275 82)), (1, (0, w 275 80)), (0, (1, 275))], [(0, w 275 78 + 1), (1, 275)], w1369)) 3 rfl ?_
            refine e_Ok.callV rfl (Nat.le_trans (by decide) hdq) rfl rfl rfl rfl (c_337 c1385.1 (n := w 275 78 + 3) u1372.out (by omega) (by omega)) (fun r1386 w1387 h1388 => ?_)
            obtain ⟨rfl, q1389⟩ := h1388
            have f1390 : e_fr (mStm (w 275 78) (w 275 79) (w 275 80) (w 275 94)) w w1387 := e_fr.up (show e_fr (mStm (w 275 78) (w 275 79) (w 275 80) (w 275 94)) w w1369 from e_fr.trans (show e_fr (mStm (w 275 78) (w 275 79) (w 275 80) (w 275 94)) w w1353 from e_fr.up (show e_fr (mStm (w 275 78) (w 275 79) (w 275 80) (w 275 94)) w w1335 from e_fr.up (show e_fr (mStm (w 275 78) (w 275 79) (w 275 80) (w 275 94)) w w1318 from e_fr.trans f1294 (q1320.out.st (by omega))) hw1335 (by first | exact Or.inr (Or.inr (Or.inr (Or.inr ⟨rfl, Or.inl ⟨(by decide), (by decide)⟩⟩))) | (unfold mStm; omega))) hw1353 (by first | exact Or.inr (Or.inr (Or.inr (Or.inr ⟨rfl, Or.inl ⟨(by decide), (by decide)⟩⟩))) | (unfold mStm; omega))) (q1371.out.st (by omega))) q1389 (by unfold mStm; omega)
            refine e_Ok.nrm (q := 107) (st' := []) rfl rfl ?_
            refine e_Ok.ps1 (x := (1, 275)) (q := 108) 1 rfl ?_
            refine e_Ok.getr (z := 336) rfl (el_o rfl) rfl (ef_o rfl) ((f1390 275 73 (by first | exact no_bb_1 | (unfold mStm; omega))).trans (e_Has.eq hc.1 rfl)) ⟨by decide, by decide⟩ ?_
            refine e_Ok.ps2 (x := (0, w 275 80)) (y := (0, 3600)) (q := 115) 2 rfl ?_
            refine e_Ok.add (z := w 275 80 + 3600) rfl (Int.add_comm _ _) (by omega) ?_
            refine e_Ok.ps1 (x := (1, 275)) (q := 117) 1 rfl ?_
            refine e_Ok.getf (z := w 275 78 + 3) rfl (el_o rfl) rfl (ef_o rfl) (Hid.upn q1389 (Or.inl (by decide)) u1372).out (by omega) ?_
            refine e_Ok.ast rfl (el_o rfl) rfl rfl (by omega) ?_
            generalize hw1404 : e_up w1387 336 (w 275 80 + 3600) (w 275 78 + 3) = w1404
            have f1405 : e_fr (mStm (w 275 78) (w 275 79) (w 275 80) (w 275 94)) w w1404 := e_fr.up f1390 hw1404 (by first | exact Or.inr (Or.inr (Or.inl ⟨⟨(by decide), (by decide)⟩, (by omega)⟩)) | (unfold mStm; omega))
            have u1416 : Hid (w1404 275 88 = w5 275 88) := Hid.upn hw1404 (Or.inl (by decide)) (Hid.upn q1389 (Or.inl (by decide)) (show Hid (w1369 275 88 = w5 275 88) from Hid.mk (Eq.trans (q1371.out.fld (by decide)) (Hid.upn hw1353 (Or.inr (by decide)) (Hid.upn hw1335 (Or.inr (by decide)) (show Hid (w1318 275 88 = w5 275 88) from Hid.mk (Eq.trans (q1320.out.fld (by decide)) u1292.out)))).out)))
            have c1418 := cSt.wr (cSt.wr c1385 q1389 (Or.inl rfl) (by omega) rfl (fun y => absurd y (by decide))) hw1404 (Or.inl rfl) (by omega) rfl (fun y => absurd y (by decide))
            refine e_Ok.ps3 (x := (0, 2)) (y := (1, 275)) (z := (1, 275)) (q := 124) 3 rfl ?_
            refine e_Ok.callV rfl (Nat.le_trans (by decide) hdq) rfl rfl rfl rfl (c_332 c1418.1 (N := N) c1418.2.2.2.1) (fun r1419 w1420 h1421 => ?_)
            obtain ⟨z1422, rfl, rfl, q1423⟩ := h1421
            obtain ⟨rfl, q1423, q1423b⟩ | ⟨rfl, q1423n⟩ := q1423
            · refine e_Ok.nrm (q := 127) (st' := [(0, 1), (1, 275)]) rfl rfl ?_
              rw [(Hid.upn hw1404 (Or.inl (by decide)) (Hid.upn q1389 (Or.inl (by decide)) (show Hid (w1369 275 84 = w 275 84) from Hid.mk (Eq.trans (q1371.out.fld (by decide)) (Hid.upn hw1353 (Or.inr (by decide)) (Hid.upn hw1335 (Or.inr (by decide)) (show Hid (w1318 275 84 = w 275 84) from Hid.mk (Eq.trans (q1320.out.fld (by decide)) u1288.out)))).out)))).out] at q1423
              rw [(Hid.upn hw1404 (Or.inl (by decide)) (Hid.upn q1389 (Or.inl (by decide)) (show Hid (w1369 275 85 = w 275 85) from Hid.mk (Eq.trans (q1371.out.fld (by decide)) (Hid.upn hw1353 (Or.inr (by decide)) (Hid.upn hw1335 (Or.inr (by decide)) (show Hid (w1318 275 85 = w 275 85) from Hid.mk (Eq.trans (q1320.out.fld (by decide)) u1289.out)))).out)))).out] at q1423b
              refine e_Ok.callV rfl (Nat.le_trans (by decide) hdq) rfl rfl rfl rfl (c_334 (Nat.le_trans (by decide) hdq) c1418.1 c1418.2.1 c1418.2.2.1 hNr c1418.2.2.2.1 (by decide)) (fun r1424 w1425 h1426 => ?_)
              obtain ⟨rfl, q1427⟩ := h1426
              obtain ⟨rfl, q1427z⟩ | ⟨q1427z, q1427b, q1427, q1427s, q1427t⟩ | ⟨q1427z, q1427b, q1427, q1427T, q1427H, q1427r⟩ := q1427
              · show e_Ok 20 elay ecode eI (d + 1) 351 (130, [(4, (0, w 275 78 + 1)), (3, (0, w 275 78)), (2, (0, w 275 82)), (1, (0, w 275 80)), (0, (1, 275))], [], w1404) _
                rw [u1416.out] at q1427z
                refine e_Ok.run (t' := (132, [(4, (0, w 275 78 + 1)), (3, (0, w 275 78)), (2, (0, w 275 82)), (1, (0, w 275 80)), (0, (1, 275))], [(1, 275), (1, 275)], w1404)) 2 rfl ?_
                refine e_Ok.getf (z := w 275 83 + 1) rfl (el_o rfl) rfl (ef_o rfl) (Hid.upn hw1404 (Or.inl (by decide)) (Hid.upn q1389 (Or.inl (by decide)) (show Hid (w1369 275 83 = w 275 83 + 1) from Hid.mk (Eq.trans (q1371.out.fld (by decide)) (Hid.upn hw1353 (Or.inr (by decide)) (Hid.upn hw1335 (Or.inr (by decide)) (show Hid (w1318 275 83 = w 275 83 + 1) from Hid.mk (Eq.trans (q1320.out.fld (by decide)) u1287.out)))).out)))).out (by omega) ?_
                refine e_Ok.ps1 (x := (0, 1)) (q := 136) 1 rfl ?_
                refine e_Ok.sub' (z := w 275 83) rfl (by omega) (by omega) ?_
                refine e_Ok.putf rfl (el_o rfl) rfl (ef_o rfl) ?_
                generalize hw1428 : e_up w1404 275 83 (w 275 83) = w1428
                have e1430 := up83 hw1428
                replace e1430 := (show Hid _ from e1430)
                refine e_Ok.rets rfl rfl ?_
                exact ⟨rfl, (show e_fr (mStm (w 275 78) (w 275 79) (w 275 80) (w 275 94)) w w1428 from e_fr.up f1405 hw1428 (by first | exact Or.inr (Or.inr (Or.inr (Or.inr ⟨rfl, Or.inl ⟨(by decide), (by decide)⟩⟩))) | (unfold mStm; omega))), (cSt.up c1418 hw1428), (by unfold stL; rw [(show Hid (w1428 275 78 = w 275 78 + 3) from Hid.mk (Eq.trans (e1430.out.1 275 78 (by decide)) (Hid.upn hw1404 (Or.inl (by decide)) (Hid.upn q1389 (Or.inl (by decide)) u1372)).out)).out, (show Hid (w1428 275 79 = w 275 79) from Hid.mk (Eq.trans (e1430.out.1 275 79 (by decide)) (Hid.upn hw1404 (Or.inl (by decide)) (Hid.upn q1389 (Or.inl (by decide)) (show Hid (w1369 275 79 = w 275 79) from Hid.mk (Eq.trans (q1371.out.fld (by decide)) (Hid.upn hw1353 (Or.inr (by decide)) (Hid.upn hw1335 (Or.inr (by decide)) (show Hid (w1318 275 79 = w 275 79) from Hid.mk (Eq.trans (q1320.out.fld (by decide)) u1283.out)))).out)))).out)).out, (show Hid (w1428 275 80 = w 275 80 + 1) from Hid.mk (Eq.trans (e1430.out.1 275 80 (by decide)) (Hid.upn hw1404 (Or.inl (by decide)) (Hid.upn q1389 (Or.inl (by decide)) (show Hid (w1369 275 80 = w 275 80 + 1) from Hid.mk (Eq.trans (q1371.out.fld (by decide)) (Hid.upn hw1353 (Or.inr (by decide)) (Hid.upn hw1335 (Or.inr (by decide)) (show Hid (w1318 275 80 = w 275 80 + 1) from Hid.mk (Eq.trans (q1320.out.fld (by decide)) u1284.out)))).out)))).out)).out, (show Hid (w1428 275 81 = w 275 81) from Hid.mk (Eq.trans (e1430.out.1 275 81 (by decide)) (Hid.upn hw1404 (Or.inl (by decide)) (Hid.upn q1389 (Or.inl (by decide)) (show Hid (w1369 275 81 = w 275 81) from Hid.mk (Eq.trans (q1371.out.fld (by decide)) (Hid.upn hw1353 (Or.inr (by decide)) (Hid.upn hw1335 (Or.inr (by decide)) (show Hid (w1318 275 81 = w 275 81) from Hid.mk (Eq.trans (q1320.out.fld (by decide)) u1285.out)))).out)))).out)).out, (show Hid (w1428 275 82 = w 275 82) from Hid.mk (Eq.trans (e1430.out.1 275 82 (by decide)) (Hid.upn hw1404 (Or.inl (by decide)) (Hid.upn q1389 (Or.inl (by decide)) (show Hid (w1369 275 82 = w 275 82) from Hid.mk (Eq.trans (q1371.out.fld (by decide)) (Hid.upe hw1353).out)))).out)).out, (show Hid (w1428 275 83 = w 275 83) from Hid.mk (e1430.out.2)).out, (show Hid (w1428 275 86 = w 275 86) from Hid.mk (Eq.trans (e1430.out.1 275 86 (by decide)) (Hid.upn hw1404 (Or.inl (by decide)) (Hid.upn q1389 (Or.inl (by decide)) (show Hid (w1369 275 86 = w 275 86) from Hid.mk (Eq.trans (q1371.out.fld (by decide)) (Hid.upn hw1353 (Or.inr (by decide)) (Hid.upn hw1335 (Or.inr (by decide)) (show Hid (w1318 275 86 = w 275 86) from Hid.mk (Eq.trans (q1320.out.fld (by decide)) u1290.out)))).out)))).out)).out, (show Hid (w1428 275 88 = w5 275 88) from Hid.mk (Eq.trans (e1430.out.1 275 88 (by decide)) u1416.out)).out, (show Hid (w1428 275 94 = w 275 94) from Hid.mk (Eq.trans (e1430.out.1 275 94 (by decide)) (Hid.upn hw1404 (Or.inl (by decide)) (Hid.upn q1389 (Or.inl (by decide)) (show Hid (w1369 275 94 = w 275 94) from Hid.mk (Eq.trans (q1371.out.fld (by decide)) (Hid.upn hw1353 (Or.inr (by decide)) (Hid.upn hw1335 (Or.inr (by decide)) (show Hid (w1318 275 94 = w 275 94) from Hid.mk (Eq.trans (q1320.out.fld (by decide)) u1293.out)))).out)))).out)).out]; omega), (fun z => by rw [(show Hid (w1428 275 88 = w5 275 88) from Hid.mk (Eq.trans (e1430.out.1 275 88 (by decide)) u1416.out)).out] at z; exact absurd z (by omega))⟩
              · rw [u1416.out] at q1427z; exact absurd q1427z (by omega)
              · rw [u1416.out] at q1427z; exact absurd q1427z (by omega)
            · refine e_Ok.nrm (q := 127) (st' := [(0, 0), (1, 275)]) rfl rfl ?_
              clear q1423n
              refine e_Ok.callV rfl (Nat.le_trans (by decide) hdq) rfl rfl rfl rfl (c_334 (Nat.le_trans (by decide) hdq) c1418.1 c1418.2.1 c1418.2.2.1 hNr c1418.2.2.2.1 (by decide)) (fun r1444 w1445 h1446 => ?_)
              obtain ⟨rfl, q1447⟩ := h1446
              obtain ⟨rfl, q1447z⟩ | ⟨q1447z, q1447b, q1447, q1447s, q1447t⟩ | ⟨q1447z, q1447b, q1447, q1447T, q1447H, q1447r⟩ := q1447
              · refine e_Ok.nrm (q := 130) (st' := []) rfl rfl ?_
                rw [u1416.out] at q1447z
                refine e_Ok.run (t' := (132, [(4, (0, w 275 78 + 1)), (3, (0, w 275 78)), (2, (0, w 275 82)), (1, (0, w 275 80)), (0, (1, 275))], [(1, 275), (1, 275)], w1404)) 2 rfl ?_
                refine e_Ok.getf (z := w 275 83 + 1) rfl (el_o rfl) rfl (ef_o rfl) (Hid.upn hw1404 (Or.inl (by decide)) (Hid.upn q1389 (Or.inl (by decide)) (show Hid (w1369 275 83 = w 275 83 + 1) from Hid.mk (Eq.trans (q1371.out.fld (by decide)) (Hid.upn hw1353 (Or.inr (by decide)) (Hid.upn hw1335 (Or.inr (by decide)) (show Hid (w1318 275 83 = w 275 83 + 1) from Hid.mk (Eq.trans (q1320.out.fld (by decide)) u1287.out)))).out)))).out (by omega) ?_
                refine e_Ok.ps1 (x := (0, 1)) (q := 136) 1 rfl ?_
                refine e_Ok.sub' (z := w 275 83) rfl (by omega) (by omega) ?_
                refine e_Ok.putf rfl (el_o rfl) rfl (ef_o rfl) ?_
                generalize hw1448 : e_up w1404 275 83 (w 275 83) = w1448
                have e1450 := up83 hw1448
                replace e1450 := (show Hid _ from e1450)
                refine e_Ok.rets rfl rfl ?_
                exact ⟨rfl, (show e_fr (mStm (w 275 78) (w 275 79) (w 275 80) (w 275 94)) w w1448 from e_fr.up f1405 hw1448 (by first | exact Or.inr (Or.inr (Or.inr (Or.inr ⟨rfl, Or.inl ⟨(by decide), (by decide)⟩⟩))) | (unfold mStm; omega))), (cSt.up c1418 hw1448), (by unfold stL; rw [(show Hid (w1448 275 78 = w 275 78 + 3) from Hid.mk (Eq.trans (e1450.out.1 275 78 (by decide)) (Hid.upn hw1404 (Or.inl (by decide)) (Hid.upn q1389 (Or.inl (by decide)) u1372)).out)).out, (show Hid (w1448 275 79 = w 275 79) from Hid.mk (Eq.trans (e1450.out.1 275 79 (by decide)) (Hid.upn hw1404 (Or.inl (by decide)) (Hid.upn q1389 (Or.inl (by decide)) (show Hid (w1369 275 79 = w 275 79) from Hid.mk (Eq.trans (q1371.out.fld (by decide)) (Hid.upn hw1353 (Or.inr (by decide)) (Hid.upn hw1335 (Or.inr (by decide)) (show Hid (w1318 275 79 = w 275 79) from Hid.mk (Eq.trans (q1320.out.fld (by decide)) u1283.out)))).out)))).out)).out, (show Hid (w1448 275 80 = w 275 80 + 1) from Hid.mk (Eq.trans (e1450.out.1 275 80 (by decide)) (Hid.upn hw1404 (Or.inl (by decide)) (Hid.upn q1389 (Or.inl (by decide)) (show Hid (w1369 275 80 = w 275 80 + 1) from Hid.mk (Eq.trans (q1371.out.fld (by decide)) (Hid.upn hw1353 (Or.inr (by decide)) (Hid.upn hw1335 (Or.inr (by decide)) (show Hid (w1318 275 80 = w 275 80 + 1) from Hid.mk (Eq.trans (q1320.out.fld (by decide)) u1284.out)))).out)))).out)).out, (show Hid (w1448 275 81 = w 275 81) from Hid.mk (Eq.trans (e1450.out.1 275 81 (by decide)) (Hid.upn hw1404 (Or.inl (by decide)) (Hid.upn q1389 (Or.inl (by decide)) (show Hid (w1369 275 81 = w 275 81) from Hid.mk (Eq.trans (q1371.out.fld (by decide)) (Hid.upn hw1353 (Or.inr (by decide)) (Hid.upn hw1335 (Or.inr (by decide)) (show Hid (w1318 275 81 = w 275 81) from Hid.mk (Eq.trans (q1320.out.fld (by decide)) u1285.out)))).out)))).out)).out, (show Hid (w1448 275 82 = w 275 82) from Hid.mk (Eq.trans (e1450.out.1 275 82 (by decide)) (Hid.upn hw1404 (Or.inl (by decide)) (Hid.upn q1389 (Or.inl (by decide)) (show Hid (w1369 275 82 = w 275 82) from Hid.mk (Eq.trans (q1371.out.fld (by decide)) (Hid.upe hw1353).out)))).out)).out, (show Hid (w1448 275 83 = w 275 83) from Hid.mk (e1450.out.2)).out, (show Hid (w1448 275 86 = w 275 86) from Hid.mk (Eq.trans (e1450.out.1 275 86 (by decide)) (Hid.upn hw1404 (Or.inl (by decide)) (Hid.upn q1389 (Or.inl (by decide)) (show Hid (w1369 275 86 = w 275 86) from Hid.mk (Eq.trans (q1371.out.fld (by decide)) (Hid.upn hw1353 (Or.inr (by decide)) (Hid.upn hw1335 (Or.inr (by decide)) (show Hid (w1318 275 86 = w 275 86) from Hid.mk (Eq.trans (q1320.out.fld (by decide)) u1290.out)))).out)))).out)).out, (show Hid (w1448 275 88 = w5 275 88) from Hid.mk (Eq.trans (e1450.out.1 275 88 (by decide)) u1416.out)).out, (show Hid (w1448 275 94 = w 275 94) from Hid.mk (Eq.trans (e1450.out.1 275 94 (by decide)) (Hid.upn hw1404 (Or.inl (by decide)) (Hid.upn q1389 (Or.inl (by decide)) (show Hid (w1369 275 94 = w 275 94) from Hid.mk (Eq.trans (q1371.out.fld (by decide)) (Hid.upn hw1353 (Or.inr (by decide)) (Hid.upn hw1335 (Or.inr (by decide)) (show Hid (w1318 275 94 = w 275 94) from Hid.mk (Eq.trans (q1320.out.fld (by decide)) u1293.out)))).out)))).out)).out]; omega), (fun z => by rw [(show Hid (w1448 275 88 = w5 275 88) from Hid.mk (Eq.trans (e1450.out.1 275 88 (by decide)) u1416.out)).out] at z; exact absurd z (by omega))⟩
              · rw [u1416.out] at q1447z; exact absurd q1447z (by omega)
              · rw [u1416.out] at q1447z; exact absurd q1447z (by omega)
          · rw [u1292.out] at q1316z; exact absurd q1316z (by omega)
          · rw [u1292.out] at q1316z; exact absurd q1316z (by omega)
        · refine e_Ok.nrm (q := 67) (st' := [(0, 0), (1, 275)]) rfl rfl ?_
          clear q1312n
          refine e_Ok.callV rfl (Nat.le_trans (by decide) hdq) rfl rfl rfl rfl (c_334 (Nat.le_trans (by decide) hdq) c1295.1 c1295.2.1 c1295.2.2.1 hNr c1295.2.2.2.1 (by decide)) (fun r1464 w1465 h1466 => ?_)
          obtain ⟨rfl, q1467⟩ := h1466
          obtain ⟨rfl, q1467z⟩ | ⟨q1467z, q1467b, q1467, q1467s, q1467t⟩ | ⟨q1467z, q1467b, q1467, q1467T, q1467H, q1467r⟩ := q1467
          · refine e_Ok.nrm (q := 70) (st' := []) rfl rfl ?_
            rw [u1292.out] at q1467z
            refine e_Ok.run (t' := (74, [(3, (0, w 275 78)), (2, (0, w 275 82)), (1, (0, w 275 80)), (0, (1, 275))], [(0, 0), (0, 47), (1, 275)], w1279)) 3 rfl ?_
            refine e_Ok.callV rfl (Nat.le_trans (by decide) hdq) rfl rfl rfl rfl (c_336 c1295.1 (n := w 275 78 + 1) u1282.out (by omega) (s := w 275 81) u1285.out (by omega)) (fun r1468 w1469 h1470 => ?_)
            obtain ⟨rfl, q1471⟩ := h1470
            replace q1471 := (show Hid (EM w1279 w1469 (w 275 78 + 1) 47 (0) (w 275 81)) from q1471)
            refine e_Ok.nrm (q := 77) (st' := [(0, w 275 78 + 1)]) rfl rfl ?_
            refine e_Ok.run (t' := (81, [(4, (0, w 275 78 + 1)), (3, (0, w 275 78)), (2, (0, w 275 82)), (1, (0, w 275 80)), (0, (1, 275))], [(0, w 275 80), (1, 275)], w1469)) 3 rfl ?_
            refine e_Ok.putf rfl (el_o rfl) rfl (ef_o rfl) ?_
            generalize hw1486 : e_up w1469 275 82 (w 275 80) = w1486
            have c1500 := cSt.wr (cSt.em c1295 q1471.out (by decide) (by omega) (by omega)) hw1486 (Or.inr rfl) (by omega) rfl (fun _ => ⟨⟨by decide, by decide⟩, fun y => absurd y (by decide)⟩)
            refine e_Ok.ps1 (x := (1, 275)) (q := 85) 1 rfl ?_
            refine e_Ok.callV rfl (Nat.le_trans (by decide) hdq) rfl rfl rfl rfl (c_348_0 (Nat.le_trans (by decide) hdq) c1500 (by rw [(Hid.upn hw1486 (Or.inr (by decide)) (show Hid (w1469 275 88 = w5 275 88) from Hid.mk (Eq.trans (q1471.out.fld (by decide)) u1292.out))).out] <;> omega)) (fun r1501 w1502 h1503 => ?_)
            obtain ⟨rfl, rfl⟩ := h1503
            refine e_Ok.nrm (q := 88) (st' := []) rfl rfl ?_
            refine e_Ok.ps2 (x := (0, w 275 82)) (y := (1, 275)) (q := 90) 2 rfl ?_
            refine e_Ok.putf rfl (el_o rfl) rfl (ef_o rfl) ?_
            generalize hw1504 : e_up w1486 275 82 (w 275 82) = w1504
            have c1518 := cSt.wr c1500 hw1504 (Or.inr rfl) (by omega) rfl (fun _ => ⟨⟨by decide, by decide⟩, fun y => absurd y (by decide)⟩)
            refine e_Ok.ps3 (x := (0, w 275 78)) (y := (0, 48)) (z := (1, 275)) (q := 97) 3 rfl ?_
            refine e_Ok.callV rfl (Nat.le_trans (by decide) hdq) rfl rfl rfl rfl (c_336 c1518.1 (n := w 275 78 + 2) (Hid.upn hw1504 (Or.inr (by decide)) (Hid.upn hw1486 (Or.inr (by decide)) (show Hid (w1469 275 78 = w 275 78 + 2) from Hid.mk (Eq.trans q1471.out.2.2.2.2 (by omega))))).out (by omega) (s := w 275 81) (Hid.upn hw1504 (Or.inr (by decide)) (Hid.upn hw1486 (Or.inr (by decide)) (show Hid (w1469 275 81 = w 275 81) from Hid.mk (Eq.trans (q1471.out.fld (by decide)) u1285.out)))).out (by omega)) (fun r1519 w1520 h1521 => ?_)
            obtain ⟨rfl, q1522⟩ := h1521
            replace q1522 := (show Hid (EM w1504 w1520 (w 275 78 + 2) 48 (w 275 78) (w 275 81)) from q1522)
            have u1523 : Hid (w1520 275 78 = w 275 78 + 3) := Hid.mk (Eq.trans q1522.out.2.2.2.2 (by omega))
            have c1536 := cSt.em c1518 q1522.out (by decide) (by omega) (by omega)
            refine e_Ok.nrm (q := 100) (st' := [(0, w 275 78 + 2)]) rfl rfl ?_
            refine e_Ok.run (t' := (104, [(4, (0, w 275 78 + 1)), (3, (0, w 275 78)), (2, (0, w 275 82)), (1, (0, w 275 80)), (0, (1, 275))], [(0, w 275 78 + 1), (1, 275)], w1520)) 3 rfl ?_
            refine e_Ok.callV rfl (Nat.le_trans (by decide) hdq) rfl rfl rfl rfl (c_337 c1536.1 (n := w 275 78 + 3) u1523.out (by omega) (by omega)) (fun r1537 w1538 h1539 => ?_)
            obtain ⟨rfl, q1540⟩ := h1539
            have f1541 : e_fr (mStm (w 275 78) (w 275 79) (w 275 80) (w 275 94)) w w1538 := e_fr.up (show e_fr (mStm (w 275 78) (w 275 79) (w 275 80) (w 275 94)) w w1520 from e_fr.trans (show e_fr (mStm (w 275 78) (w 275 79) (w 275 80) (w 275 94)) w w1504 from e_fr.up (show e_fr (mStm (w 275 78) (w 275 79) (w 275 80) (w 275 94)) w w1486 from e_fr.up (show e_fr (mStm (w 275 78) (w 275 79) (w 275 80) (w 275 94)) w w1469 from e_fr.trans f1294 (q1471.out.st (by omega))) hw1486 (by first | exact Or.inr (Or.inr (Or.inr (Or.inr ⟨rfl, Or.inl ⟨(by decide), (by decide)⟩⟩))) | (unfold mStm; omega))) hw1504 (by first | exact Or.inr (Or.inr (Or.inr (Or.inr ⟨rfl, Or.inl ⟨(by decide), (by decide)⟩⟩))) | (unfold mStm; omega))) (q1522.out.st (by omega))) q1540 (by unfold mStm; omega)
            refine e_Ok.nrm (q := 107) (st' := []) rfl rfl ?_
            refine e_Ok.ps1 (x := (1, 275)) (q := 108) 1 rfl ?_
            refine e_Ok.getr (z := 336) rfl (el_o rfl) rfl (ef_o rfl) ((f1541 275 73 (by first | exact no_bb_1 | (unfold mStm; omega))).trans (e_Has.eq hc.1 rfl)) ⟨by decide, by decide⟩ ?_
            refine e_Ok.ps2 (x := (0, w 275 80)) (y := (0, 3600)) (q := 115) 2 rfl ?_
            refine e_Ok.add (z := w 275 80 + 3600) rfl (Int.add_comm _ _) (by omega) ?_
            refine e_Ok.ps1 (x := (1, 275)) (q := 117) 1 rfl ?_
            refine e_Ok.getf (z := w 275 78 + 3) rfl (el_o rfl) rfl (ef_o rfl) (Hid.upn q1540 (Or.inl (by decide)) u1523).out (by omega) ?_
            refine e_Ok.ast rfl (el_o rfl) rfl rfl (by omega) ?_
            generalize hw1555 : e_up w1538 336 (w 275 80 + 3600) (w 275 78 + 3) = w1555
            have f1556 : e_fr (mStm (w 275 78) (w 275 79) (w 275 80) (w 275 94)) w w1555 := e_fr.up f1541 hw1555 (by first | exact Or.inr (Or.inr (Or.inl ⟨⟨(by decide), (by decide)⟩, (by omega)⟩)) | (unfold mStm; omega))
            have u1567 : Hid (w1555 275 88 = w5 275 88) := Hid.upn hw1555 (Or.inl (by decide)) (Hid.upn q1540 (Or.inl (by decide)) (show Hid (w1520 275 88 = w5 275 88) from Hid.mk (Eq.trans (q1522.out.fld (by decide)) (Hid.upn hw1504 (Or.inr (by decide)) (Hid.upn hw1486 (Or.inr (by decide)) (show Hid (w1469 275 88 = w5 275 88) from Hid.mk (Eq.trans (q1471.out.fld (by decide)) u1292.out)))).out)))
            have c1569 := cSt.wr (cSt.wr c1536 q1540 (Or.inl rfl) (by omega) rfl (fun y => absurd y (by decide))) hw1555 (Or.inl rfl) (by omega) rfl (fun y => absurd y (by decide))
            refine e_Ok.ps3 (x := (0, 2)) (y := (1, 275)) (z := (1, 275)) (q := 124) 3 rfl ?_
            refine e_Ok.callV rfl (Nat.le_trans (by decide) hdq) rfl rfl rfl rfl (c_332 c1569.1 (N := N) c1569.2.2.2.1) (fun r1570 w1571 h1572 => ?_)
            obtain ⟨z1573, rfl, rfl, q1574⟩ := h1572
            obtain ⟨rfl, q1574, q1574b⟩ | ⟨rfl, q1574n⟩ := q1574
            · refine e_Ok.nrm (q := 127) (st' := [(0, 1), (1, 275)]) rfl rfl ?_
              rw [(Hid.upn hw1555 (Or.inl (by decide)) (Hid.upn q1540 (Or.inl (by decide)) (show Hid (w1520 275 84 = w 275 84) from Hid.mk (Eq.trans (q1522.out.fld (by decide)) (Hid.upn hw1504 (Or.inr (by decide)) (Hid.upn hw1486 (Or.inr (by decide)) (show Hid (w1469 275 84 = w 275 84) from Hid.mk (Eq.trans (q1471.out.fld (by decide)) u1288.out)))).out)))).out] at q1574
              rw [(Hid.upn hw1555 (Or.inl (by decide)) (Hid.upn q1540 (Or.inl (by decide)) (show Hid (w1520 275 85 = w 275 85) from Hid.mk (Eq.trans (q1522.out.fld (by decide)) (Hid.upn hw1504 (Or.inr (by decide)) (Hid.upn hw1486 (Or.inr (by decide)) (show Hid (w1469 275 85 = w 275 85) from Hid.mk (Eq.trans (q1471.out.fld (by decide)) u1289.out)))).out)))).out] at q1574b
              refine e_Ok.callV rfl (Nat.le_trans (by decide) hdq) rfl rfl rfl rfl (c_334 (Nat.le_trans (by decide) hdq) c1569.1 c1569.2.1 c1569.2.2.1 hNr c1569.2.2.2.1 (by decide)) (fun r1575 w1576 h1577 => ?_)
              obtain ⟨rfl, q1578⟩ := h1577
              obtain ⟨rfl, q1578z⟩ | ⟨q1578z, q1578b, q1578, q1578s, q1578t⟩ | ⟨q1578z, q1578b, q1578, q1578T, q1578H, q1578r⟩ := q1578
              · show e_Ok 20 elay ecode eI (d + 1) 351 (130, [(4, (0, w 275 78 + 1)), (3, (0, w 275 78)), (2, (0, w 275 82)), (1, (0, w 275 80)), (0, (1, 275))], [], w1555) _
                rw [u1567.out] at q1578z
                refine e_Ok.run (t' := (132, [(4, (0, w 275 78 + 1)), (3, (0, w 275 78)), (2, (0, w 275 82)), (1, (0, w 275 80)), (0, (1, 275))], [(1, 275), (1, 275)], w1555)) 2 rfl ?_
                refine e_Ok.getf (z := w 275 83 + 1) rfl (el_o rfl) rfl (ef_o rfl) (Hid.upn hw1555 (Or.inl (by decide)) (Hid.upn q1540 (Or.inl (by decide)) (show Hid (w1520 275 83 = w 275 83 + 1) from Hid.mk (Eq.trans (q1522.out.fld (by decide)) (Hid.upn hw1504 (Or.inr (by decide)) (Hid.upn hw1486 (Or.inr (by decide)) (show Hid (w1469 275 83 = w 275 83 + 1) from Hid.mk (Eq.trans (q1471.out.fld (by decide)) u1287.out)))).out)))).out (by omega) ?_
                refine e_Ok.ps1 (x := (0, 1)) (q := 136) 1 rfl ?_
                refine e_Ok.sub' (z := w 275 83) rfl (by omega) (by omega) ?_
                refine e_Ok.putf rfl (el_o rfl) rfl (ef_o rfl) ?_
                generalize hw1579 : e_up w1555 275 83 (w 275 83) = w1579
                have e1581 := up83 hw1579
                replace e1581 := (show Hid _ from e1581)
                refine e_Ok.rets rfl rfl ?_
                exact ⟨rfl, (show e_fr (mStm (w 275 78) (w 275 79) (w 275 80) (w 275 94)) w w1579 from e_fr.up f1556 hw1579 (by first | exact Or.inr (Or.inr (Or.inr (Or.inr ⟨rfl, Or.inl ⟨(by decide), (by decide)⟩⟩))) | (unfold mStm; omega))), (cSt.up c1569 hw1579), (by unfold stL; rw [(show Hid (w1579 275 78 = w 275 78 + 3) from Hid.mk (Eq.trans (e1581.out.1 275 78 (by decide)) (Hid.upn hw1555 (Or.inl (by decide)) (Hid.upn q1540 (Or.inl (by decide)) u1523)).out)).out, (show Hid (w1579 275 79 = w 275 79) from Hid.mk (Eq.trans (e1581.out.1 275 79 (by decide)) (Hid.upn hw1555 (Or.inl (by decide)) (Hid.upn q1540 (Or.inl (by decide)) (show Hid (w1520 275 79 = w 275 79) from Hid.mk (Eq.trans (q1522.out.fld (by decide)) (Hid.upn hw1504 (Or.inr (by decide)) (Hid.upn hw1486 (Or.inr (by decide)) (show Hid (w1469 275 79 = w 275 79) from Hid.mk (Eq.trans (q1471.out.fld (by decide)) u1283.out)))).out)))).out)).out, (show Hid (w1579 275 80 = w 275 80 + 1) from Hid.mk (Eq.trans (e1581.out.1 275 80 (by decide)) (Hid.upn hw1555 (Or.inl (by decide)) (Hid.upn q1540 (Or.inl (by decide)) (show Hid (w1520 275 80 = w 275 80 + 1) from Hid.mk (Eq.trans (q1522.out.fld (by decide)) (Hid.upn hw1504 (Or.inr (by decide)) (Hid.upn hw1486 (Or.inr (by decide)) (show Hid (w1469 275 80 = w 275 80 + 1) from Hid.mk (Eq.trans (q1471.out.fld (by decide)) u1284.out)))).out)))).out)).out, (show Hid (w1579 275 81 = w 275 81) from Hid.mk (Eq.trans (e1581.out.1 275 81 (by decide)) (Hid.upn hw1555 (Or.inl (by decide)) (Hid.upn q1540 (Or.inl (by decide)) (show Hid (w1520 275 81 = w 275 81) from Hid.mk (Eq.trans (q1522.out.fld (by decide)) (Hid.upn hw1504 (Or.inr (by decide)) (Hid.upn hw1486 (Or.inr (by decide)) (show Hid (w1469 275 81 = w 275 81) from Hid.mk (Eq.trans (q1471.out.fld (by decide)) u1285.out)))).out)))).out)).out, (show Hid (w1579 275 82 = w 275 82) from Hid.mk (Eq.trans (e1581.out.1 275 82 (by decide)) (Hid.upn hw1555 (Or.inl (by decide)) (Hid.upn q1540 (Or.inl (by decide)) (show Hid (w1520 275 82 = w 275 82) from Hid.mk (Eq.trans (q1522.out.fld (by decide)) (Hid.upe hw1504).out)))).out)).out, (show Hid (w1579 275 83 = w 275 83) from Hid.mk (e1581.out.2)).out, (show Hid (w1579 275 86 = w 275 86) from Hid.mk (Eq.trans (e1581.out.1 275 86 (by decide)) (Hid.upn hw1555 (Or.inl (by decide)) (Hid.upn q1540 (Or.inl (by decide)) (show Hid (w1520 275 86 = w 275 86) from Hid.mk (Eq.trans (q1522.out.fld (by decide)) (Hid.upn hw1504 (Or.inr (by decide)) (Hid.upn hw1486 (Or.inr (by decide)) (show Hid (w1469 275 86 = w 275 86) from Hid.mk (Eq.trans (q1471.out.fld (by decide)) u1290.out)))).out)))).out)).out, (show Hid (w1579 275 88 = w5 275 88) from Hid.mk (Eq.trans (e1581.out.1 275 88 (by decide)) u1567.out)).out, (show Hid (w1579 275 94 = w 275 94) from Hid.mk (Eq.trans (e1581.out.1 275 94 (by decide)) (Hid.upn hw1555 (Or.inl (by decide)) (Hid.upn q1540 (Or.inl (by decide)) (show Hid (w1520 275 94 = w 275 94) from Hid.mk (Eq.trans (q1522.out.fld (by decide)) (Hid.upn hw1504 (Or.inr (by decide)) (Hid.upn hw1486 (Or.inr (by decide)) (show Hid (w1469 275 94 = w 275 94) from Hid.mk (Eq.trans (q1471.out.fld (by decide)) u1293.out)))).out)))).out)).out]; omega), (fun z => by rw [(show Hid (w1579 275 88 = w5 275 88) from Hid.mk (Eq.trans (e1581.out.1 275 88 (by decide)) u1567.out)).out] at z; exact absurd z (by omega))⟩
              · rw [u1567.out] at q1578z; exact absurd q1578z (by omega)
              · rw [u1567.out] at q1578z; exact absurd q1578z (by omega)
            · refine e_Ok.nrm (q := 127) (st' := [(0, 0), (1, 275)]) rfl rfl ?_
              clear q1574n
              refine e_Ok.callV rfl (Nat.le_trans (by decide) hdq) rfl rfl rfl rfl (c_334 (Nat.le_trans (by decide) hdq) c1569.1 c1569.2.1 c1569.2.2.1 hNr c1569.2.2.2.1 (by decide)) (fun r1595 w1596 h1597 => ?_)
              obtain ⟨rfl, q1598⟩ := h1597
              obtain ⟨rfl, q1598z⟩ | ⟨q1598z, q1598b, q1598, q1598s, q1598t⟩ | ⟨q1598z, q1598b, q1598, q1598T, q1598H, q1598r⟩ := q1598
              · refine e_Ok.nrm (q := 130) (st' := []) rfl rfl ?_
                rw [u1567.out] at q1598z
                refine e_Ok.run (t' := (132, [(4, (0, w 275 78 + 1)), (3, (0, w 275 78)), (2, (0, w 275 82)), (1, (0, w 275 80)), (0, (1, 275))], [(1, 275), (1, 275)], w1555)) 2 rfl ?_
                refine e_Ok.getf (z := w 275 83 + 1) rfl (el_o rfl) rfl (ef_o rfl) (Hid.upn hw1555 (Or.inl (by decide)) (Hid.upn q1540 (Or.inl (by decide)) (show Hid (w1520 275 83 = w 275 83 + 1) from Hid.mk (Eq.trans (q1522.out.fld (by decide)) (Hid.upn hw1504 (Or.inr (by decide)) (Hid.upn hw1486 (Or.inr (by decide)) (show Hid (w1469 275 83 = w 275 83 + 1) from Hid.mk (Eq.trans (q1471.out.fld (by decide)) u1287.out)))).out)))).out (by omega) ?_
                refine e_Ok.ps1 (x := (0, 1)) (q := 136) 1 rfl ?_
                refine e_Ok.sub' (z := w 275 83) rfl (by omega) (by omega) ?_
                refine e_Ok.putf rfl (el_o rfl) rfl (ef_o rfl) ?_
                generalize hw1599 : e_up w1555 275 83 (w 275 83) = w1599
                have e1601 := up83 hw1599
                replace e1601 := (show Hid _ from e1601)
                refine e_Ok.rets rfl rfl ?_
                exact ⟨rfl, (show e_fr (mStm (w 275 78) (w 275 79) (w 275 80) (w 275 94)) w w1599 from e_fr.up f1556 hw1599 (by first | exact Or.inr (Or.inr (Or.inr (Or.inr ⟨rfl, Or.inl ⟨(by decide), (by decide)⟩⟩))) | (unfold mStm; omega))), (cSt.up c1569 hw1599), (by unfold stL; rw [(show Hid (w1599 275 78 = w 275 78 + 3) from Hid.mk (Eq.trans (e1601.out.1 275 78 (by decide)) (Hid.upn hw1555 (Or.inl (by decide)) (Hid.upn q1540 (Or.inl (by decide)) u1523)).out)).out, (show Hid (w1599 275 79 = w 275 79) from Hid.mk (Eq.trans (e1601.out.1 275 79 (by decide)) (Hid.upn hw1555 (Or.inl (by decide)) (Hid.upn q1540 (Or.inl (by decide)) (show Hid (w1520 275 79 = w 275 79) from Hid.mk (Eq.trans (q1522.out.fld (by decide)) (Hid.upn hw1504 (Or.inr (by decide)) (Hid.upn hw1486 (Or.inr (by decide)) (show Hid (w1469 275 79 = w 275 79) from Hid.mk (Eq.trans (q1471.out.fld (by decide)) u1283.out)))).out)))).out)).out, (show Hid (w1599 275 80 = w 275 80 + 1) from Hid.mk (Eq.trans (e1601.out.1 275 80 (by decide)) (Hid.upn hw1555 (Or.inl (by decide)) (Hid.upn q1540 (Or.inl (by decide)) (show Hid (w1520 275 80 = w 275 80 + 1) from Hid.mk (Eq.trans (q1522.out.fld (by decide)) (Hid.upn hw1504 (Or.inr (by decide)) (Hid.upn hw1486 (Or.inr (by decide)) (show Hid (w1469 275 80 = w 275 80 + 1) from Hid.mk (Eq.trans (q1471.out.fld (by decide)) u1284.out)))).out)))).out)).out, (show Hid (w1599 275 81 = w 275 81) from Hid.mk (Eq.trans (e1601.out.1 275 81 (by decide)) (Hid.upn hw1555 (Or.inl (by decide)) (Hid.upn q1540 (Or.inl (by decide)) (show Hid (w1520 275 81 = w 275 81) from Hid.mk (Eq.trans (q1522.out.fld (by decide)) (Hid.upn hw1504 (Or.inr (by decide)) (Hid.upn hw1486 (Or.inr (by decide)) (show Hid (w1469 275 81 = w 275 81) from Hid.mk (Eq.trans (q1471.out.fld (by decide)) u1285.out)))).out)))).out)).out, (show Hid (w1599 275 82 = w 275 82) from Hid.mk (Eq.trans (e1601.out.1 275 82 (by decide)) (Hid.upn hw1555 (Or.inl (by decide)) (Hid.upn q1540 (Or.inl (by decide)) (show Hid (w1520 275 82 = w 275 82) from Hid.mk (Eq.trans (q1522.out.fld (by decide)) (Hid.upe hw1504).out)))).out)).out, (show Hid (w1599 275 83 = w 275 83) from Hid.mk (e1601.out.2)).out, (show Hid (w1599 275 86 = w 275 86) from Hid.mk (Eq.trans (e1601.out.1 275 86 (by decide)) (Hid.upn hw1555 (Or.inl (by decide)) (Hid.upn q1540 (Or.inl (by decide)) (show Hid (w1520 275 86 = w 275 86) from Hid.mk (Eq.trans (q1522.out.fld (by decide)) (Hid.upn hw1504 (Or.inr (by decide)) (Hid.upn hw1486 (Or.inr (by decide)) (show Hid (w1469 275 86 = w 275 86) from Hid.mk (Eq.trans (q1471.out.fld (by decide)) u1290.out)))).out)))).out)).out, (show Hid (w1599 275 88 = w5 275 88) from Hid.mk (Eq.trans (e1601.out.1 275 88 (by decide)) u1567.out)).out, (show Hid (w1599 275 94 = w 275 94) from Hid.mk (Eq.trans (e1601.out.1 275 94 (by decide)) (Hid.upn hw1555 (Or.inl (by decide)) (Hid.upn q1540 (Or.inl (by decide)) (show Hid (w1520 275 94 = w 275 94) from Hid.mk (Eq.trans (q1522.out.fld (by decide)) (Hid.upn hw1504 (Or.inr (by decide)) (Hid.upn hw1486 (Or.inr (by decide)) (show Hid (w1469 275 94 = w 275 94) from Hid.mk (Eq.trans (q1471.out.fld (by decide)) u1293.out)))).out)))).out)).out]; omega), (fun z => by rw [(show Hid (w1599 275 88 = w5 275 88) from Hid.mk (Eq.trans (e1601.out.1 275 88 (by decide)) u1567.out)).out] at z; exact absurd z (by omega))⟩
              · rw [u1567.out] at q1598z; exact absurd q1598z (by omega)
              · rw [u1567.out] at q1598z; exact absurd q1598z (by omega)
          · rw [u1292.out] at q1467z; exact absurd q1467z (by omega)
          · rw [u1292.out] at q1467z; exact absurd q1467z (by omega)
      · rw [u1292.out] at q1304z; exact absurd q1304z (by omega)
      · rw [u1292.out] at q1304z; exact absurd q1304z (by omega)
    · refine e_Ok.nrm (q := 53) (st' := [(0, 0), (1, 275)]) rfl rfl ?_
      clear q1300n
      refine e_Ok.callV rfl (Nat.le_trans (by decide) hdq) rfl rfl rfl rfl (c_334 (Nat.le_trans (by decide) hdq) c1295.1 c1295.2.1 c1295.2.2.1 hNr c1295.2.2.2.1 (by decide)) (fun r1615 w1616 h1617 => ?_)
      obtain ⟨rfl, q1618⟩ := h1617
      obtain ⟨rfl, q1618z⟩ | ⟨q1618z, q1618b, q1618, q1618s, q1618t⟩ | ⟨q1618z, q1618b, q1618, q1618T, q1618H, q1618r⟩ := q1618
      · refine e_Ok.nrm (q := 56) (st' := []) rfl rfl ?_
        rw [u1292.out] at q1618z
        refine e_Ok.run (t' := (57, [(3, (0, w 275 78)), (2, (0, w 275 82)), (1, (0, w 275 80)), (0, (1, 275))], [(1, 275)], w1279)) 1 rfl ?_
        refine e_Ok.callV rfl (Nat.le_trans (by decide) hdq) rfl rfl rfl rfl (c_339_0 (Nat.le_trans (by decide) hdq) c1295 (by rw [u1292.out] <;> omega)) (fun r1619 w1620 h1621 => ?_)
        obtain ⟨rfl, rfl⟩ := h1621
        refine e_Ok.nrm (q := 60) (st' := []) rfl rfl ?_
        refine e_Ok.ps3 (x := (0, 58)) (y := (1, 275)) (z := (1, 275)) (q := 64) 3 rfl ?_
        refine e_Ok.callV rfl (Nat.le_trans (by decide) hdq) rfl rfl rfl rfl (c_331 c1295.1 (N := N) c1295.2.2.2.1) (fun r1622 w1623 h1624 => ?_)
        obtain ⟨z1625, rfl, rfl, q1626⟩ := h1624
        obtain ⟨rfl, q1626, q1626b⟩ | ⟨rfl, q1626n⟩ := q1626
        · refine e_Ok.nrm (q := 67) (st' := [(0, 1), (1, 275)]) rfl rfl ?_
          rw [u1288.out] at q1626
          rw [u1289.out] at q1626b
          refine e_Ok.callV rfl (Nat.le_trans (by decide) hdq) rfl rfl rfl rfl (c_334 (Nat.le_trans (by decide) hdq) c1295.1 c1295.2.1 c1295.2.2.1 hNr c1295.2.2.2.1 (by decide)) (fun r1627 w1628 h1629 => ?_)
          obtain ⟨rfl, q1630⟩ := h1629
          obtain ⟨rfl, q1630z⟩ | ⟨q1630z, q1630b, q1630, q1630s, q1630t⟩ | ⟨q1630z, q1630b, q1630, q1630T, q1630H, q1630r⟩ := q1630
          · show e_Ok 20 elay ecode eI (d + 1) 351 (70, [(3, (0, w 275 78)), (2, (0, w 275 82)), (1, (0, w 275 80)), (0, (1, 275))], [], w1279) _
            rw [u1292.out] at q1630z
            refine e_Ok.run (t' := (74, [(3, (0, w 275 78)), (2, (0, w 275 82)), (1, (0, w 275 80)), (0, (1, 275))], [(0, 0), (0, 47), (1, 275)], w1279)) 3 rfl ?_
            refine e_Ok.callV rfl (Nat.le_trans (by decide) hdq) rfl rfl rfl rfl (c_336 c1295.1 (n := w 275 78 + 1) u1282.out (by omega) (s := w 275 81) u1285.out (by omega)) (fun r1631 w1632 h1633 => ?_)
            obtain ⟨rfl, q1634⟩ := h1633
            replace q1634 := (show Hid (EM w1279 w1632 (w 275 78 + 1) 47 (0) (w 275 81)) from q1634)
            refine e_Ok.nrm (q := 77) (st' := [(0, w 275 78 + 1)]) rfl rfl ?_
            refine e_Ok.run (t' := (81, [(4, (0, w 275 78 + 1)), (3, (0, w 275 78)), (2, (0, w 275 82)), (1, (0, w 275 80)), (0, (1, 275))], [(0, w 275 80), (1, 275)], w1632)) 3 rfl ?_
            refine e_Ok.putf rfl (el_o rfl) rfl (ef_o rfl) ?_
            generalize hw1649 : e_up w1632 275 82 (w 275 80) = w1649
            have c1663 := cSt.wr (cSt.em c1295 q1634.out (by decide) (by omega) (by omega)) hw1649 (Or.inr rfl) (by omega) rfl (fun _ => ⟨⟨by decide, by decide⟩, fun y => absurd y (by decide)⟩)
            refine e_Ok.ps1 (x := (1, 275)) (q := 85) 1 rfl ?_
            refine e_Ok.callV rfl (Nat.le_trans (by decide) hdq) rfl rfl rfl rfl (c_348_0 (Nat.le_trans (by decide) hdq) c1663 (by rw [(Hid.upn hw1649 (Or.inr (by decide)) (show Hid (w1632 275 88 = w5 275 88) from Hid.mk (Eq.trans (q1634.out.fld (by decide)) u1292.out))).out] <;> omega)) (fun r1664 w1665 h1666 => ?_)
            obtain ⟨rfl, rfl⟩ := h1666
            refine e_Ok.nrm (q := 88) (st' := []) rfl rfl ?_
            refine e_Ok.ps2 (x := (0, w 275 82)) (y := (1, 275)) (q := 90) 2 rfl ?_
            refine e_Ok.putf rfl (el_o rfl) rfl (ef_o rfl) ?_
            generalize hw1667 : e_up w1649 275 82 (w 275 82) = w1667
            have c1681 := cSt.wr c1663 hw1667 (Or.inr rfl) (by omega) rfl (fun _ => ⟨⟨by decide, by decide⟩, fun y => absurd y (by decide)⟩)
            refine e_Ok.ps3 (x := (0, w 275 78)) (y := (0, 48)) (z := (1, 275)) (q := 97) 3 rfl ?_
            refine e_Ok.callV rfl (Nat.le_trans (by decide) hdq) rfl rfl rfl rfl (c_336 c1681.1 (n := w 275 78 + 2) (Hid.upn hw1667 (Or.inr (by decide)) (Hid.upn hw1649 (Or.inr (by decide)) (show Hid (w1632 275 78 = w 275 78 + 2) from Hid.mk (Eq.trans q1634.out.2.2.2.2 (by omega))))).out (by omega) (s := w 275 81) (Hid.upn hw1667 (Or.inr (by decide)) (Hid.upn hw1649 (Or.inr (by decide)) (show Hid (w1632 275 81 = w 275 81) from Hid.mk (Eq.trans (q1634.out.fld (by decide)) u1285.out)))).out (by omega)) (fun r1682 w1683 h1684 => ?_)
            obtain ⟨rfl, q1685⟩ := h1684
            replace q1685 := (show Hid (EM w1667 w1683 (w 275 78 + 2) 48 (w 275 78) (w 275 81)) from q1685)
            have u1686 : Hid (w1683 275 78 = w 275 78 + 3) := Hid.mk (Eq.trans q1685.out.2.2.2.2 (by omega))
            have c1699 := cSt.em c1681 q1685.out (by decide) (by omega) (by omega)
            refine e_Ok.nrm (q := 100) (st' := [(0, w 275 78 + 2)]) rfl rfl ?_
            refine e_Ok.run (t' := (104, [(4, (0, w 275 78 + 1)), (3, (0, w 275 78)), (2, (0, w 275 82)), (1, (0, w 275 80)), (0, (1, 275))], [(0, w 275 78 + 1), (1, 275)], w1683)) 3 rfl ?_
            refine e_Ok.callV rfl (Nat.le_trans (by decide) hdq) rfl rfl rfl rfl (c_337 c1699.1 (n := w 275 78 + 3) u1686.out (by omega) (by omega)) (fun r1700 w1701 h1702 => ?_)
            obtain ⟨rfl, q1703⟩ := h1702
            have f1704 : e_fr (mStm (w 275 78) (w 275 79) (w 275 80) (w 275 94)) w w1701 := e_fr.up (show e_fr (mStm (w 275 78) (w 275 79) (w 275 80) (w 275 94)) w w1683 from e_fr.trans (show e_fr (mStm (w 275 78) (w 275 79) (w 275 80) (w 275 94)) w w1667 from e_fr.up (show e_fr (mStm (w 275 78) (w 275 79) (w 275 80) (w 275 94)) w w1649 from e_fr.up (show e_fr (mStm (w 275 78) (w 275 79) (w 275 80) (w 275 94)) w w1632 from e_fr.trans f1294 (q1634.out.st (by omega))) hw1649 (by first | exact Or.inr (Or.inr (Or.inr (Or.inr ⟨rfl, Or.inl ⟨(by decide), (by decide)⟩⟩))) | (unfold mStm; omega))) hw1667 (by first | exact Or.inr (Or.inr (Or.inr (Or.inr ⟨rfl, Or.inl ⟨(by decide), (by decide)⟩⟩))) | (unfold mStm; omega))) (q1685.out.st (by omega))) q1703 (by unfold mStm; omega)
            refine e_Ok.nrm (q := 107) (st' := []) rfl rfl ?_
            refine e_Ok.ps1 (x := (1, 275)) (q := 108) 1 rfl ?_
            refine e_Ok.getr (z := 336) rfl (el_o rfl) rfl (ef_o rfl) ((f1704 275 73 (by first | exact no_bb_1 | (unfold mStm; omega))).trans (e_Has.eq hc.1 rfl)) ⟨by decide, by decide⟩ ?_
            refine e_Ok.ps2 (x := (0, w 275 80)) (y := (0, 3600)) (q := 115) 2 rfl ?_
            refine e_Ok.add (z := w 275 80 + 3600) rfl (Int.add_comm _ _) (by omega) ?_
            refine e_Ok.ps1 (x := (1, 275)) (q := 117) 1 rfl ?_
            refine e_Ok.getf (z := w 275 78 + 3) rfl (el_o rfl) rfl (ef_o rfl) (Hid.upn q1703 (Or.inl (by decide)) u1686).out (by omega) ?_
            refine e_Ok.ast rfl (el_o rfl) rfl rfl (by omega) ?_
            generalize hw1718 : e_up w1701 336 (w 275 80 + 3600) (w 275 78 + 3) = w1718
            have f1719 : e_fr (mStm (w 275 78) (w 275 79) (w 275 80) (w 275 94)) w w1718 := e_fr.up f1704 hw1718 (by first | exact Or.inr (Or.inr (Or.inl ⟨⟨(by decide), (by decide)⟩, (by omega)⟩)) | (unfold mStm; omega))
            have u1730 : Hid (w1718 275 88 = w5 275 88) := Hid.upn hw1718 (Or.inl (by decide)) (Hid.upn q1703 (Or.inl (by decide)) (show Hid (w1683 275 88 = w5 275 88) from Hid.mk (Eq.trans (q1685.out.fld (by decide)) (Hid.upn hw1667 (Or.inr (by decide)) (Hid.upn hw1649 (Or.inr (by decide)) (show Hid (w1632 275 88 = w5 275 88) from Hid.mk (Eq.trans (q1634.out.fld (by decide)) u1292.out)))).out)))
            have c1732 := cSt.wr (cSt.wr c1699 q1703 (Or.inl rfl) (by omega) rfl (fun y => absurd y (by decide))) hw1718 (Or.inl rfl) (by omega) rfl (fun y => absurd y (by decide))
            refine e_Ok.ps3 (x := (0, 2)) (y := (1, 275)) (z := (1, 275)) (q := 124) 3 rfl ?_
            refine e_Ok.callV rfl (Nat.le_trans (by decide) hdq) rfl rfl rfl rfl (c_332 c1732.1 (N := N) c1732.2.2.2.1) (fun r1733 w1734 h1735 => ?_)
            obtain ⟨z1736, rfl, rfl, q1737⟩ := h1735
            obtain ⟨rfl, q1737, q1737b⟩ | ⟨rfl, q1737n⟩ := q1737
            · refine e_Ok.nrm (q := 127) (st' := [(0, 1), (1, 275)]) rfl rfl ?_
              rw [(Hid.upn hw1718 (Or.inl (by decide)) (Hid.upn q1703 (Or.inl (by decide)) (show Hid (w1683 275 84 = w 275 84) from Hid.mk (Eq.trans (q1685.out.fld (by decide)) (Hid.upn hw1667 (Or.inr (by decide)) (Hid.upn hw1649 (Or.inr (by decide)) (show Hid (w1632 275 84 = w 275 84) from Hid.mk (Eq.trans (q1634.out.fld (by decide)) u1288.out)))).out)))).out] at q1737
              rw [(Hid.upn hw1718 (Or.inl (by decide)) (Hid.upn q1703 (Or.inl (by decide)) (show Hid (w1683 275 85 = w 275 85) from Hid.mk (Eq.trans (q1685.out.fld (by decide)) (Hid.upn hw1667 (Or.inr (by decide)) (Hid.upn hw1649 (Or.inr (by decide)) (show Hid (w1632 275 85 = w 275 85) from Hid.mk (Eq.trans (q1634.out.fld (by decide)) u1289.out)))).out)))).out] at q1737b
              refine e_Ok.callV rfl (Nat.le_trans (by decide) hdq) rfl rfl rfl rfl (c_334 (Nat.le_trans (by decide) hdq) c1732.1 c1732.2.1 c1732.2.2.1 hNr c1732.2.2.2.1 (by decide)) (fun r1738 w1739 h1740 => ?_)
              obtain ⟨rfl, q1741⟩ := h1740
              obtain ⟨rfl, q1741z⟩ | ⟨q1741z, q1741b, q1741, q1741s, q1741t⟩ | ⟨q1741z, q1741b, q1741, q1741T, q1741H, q1741r⟩ := q1741
              · show e_Ok 20 elay ecode eI (d + 1) 351 (130, [(4, (0, w 275 78 + 1)), (3, (0, w 275 78)), (2, (0, w 275 82)), (1, (0, w 275 80)), (0, (1, 275))], [], w1718) _
                rw [u1730.out] at q1741z
                refine e_Ok.run (t' := (132, [(4, (0, w 275 78 + 1)), (3, (0, w 275 78)), (2, (0, w 275 82)), (1, (0, w 275 80)), (0, (1, 275))], [(1, 275), (1, 275)], w1718)) 2 rfl ?_
                refine e_Ok.getf (z := w 275 83 + 1) rfl (el_o rfl) rfl (ef_o rfl) (Hid.upn hw1718 (Or.inl (by decide)) (Hid.upn q1703 (Or.inl (by decide)) (show Hid (w1683 275 83 = w 275 83 + 1) from Hid.mk (Eq.trans (q1685.out.fld (by decide)) (Hid.upn hw1667 (Or.inr (by decide)) (Hid.upn hw1649 (Or.inr (by decide)) (show Hid (w1632 275 83 = w 275 83 + 1) from Hid.mk (Eq.trans (q1634.out.fld (by decide)) u1287.out)))).out)))).out (by omega) ?_
                refine e_Ok.ps1 (x := (0, 1)) (q := 136) 1 rfl ?_
                refine e_Ok.sub' (z := w 275 83) rfl (by omega) (by omega) ?_
                refine e_Ok.putf rfl (el_o rfl) rfl (ef_o rfl) ?_
                generalize hw1742 : e_up w1718 275 83 (w 275 83) = w1742
                have e1744 := up83 hw1742
                replace e1744 := (show Hid _ from e1744)
                refine e_Ok.rets rfl rfl ?_
                exact ⟨rfl, (show e_fr (mStm (w 275 78) (w 275 79) (w 275 80) (w 275 94)) w w1742 from e_fr.up f1719 hw1742 (by first | exact Or.inr (Or.inr (Or.inr (Or.inr ⟨rfl, Or.inl ⟨(by decide), (by decide)⟩⟩))) | (unfold mStm; omega))), (cSt.up c1732 hw1742), (by unfold stL; rw [(show Hid (w1742 275 78 = w 275 78 + 3) from Hid.mk (Eq.trans (e1744.out.1 275 78 (by decide)) (Hid.upn hw1718 (Or.inl (by decide)) (Hid.upn q1703 (Or.inl (by decide)) u1686)).out)).out, (show Hid (w1742 275 79 = w 275 79) from Hid.mk (Eq.trans (e1744.out.1 275 79 (by decide)) (Hid.upn hw1718 (Or.inl (by decide)) (Hid.upn q1703 (Or.inl (by decide)) (show Hid (w1683 275 79 = w 275 79) from Hid.mk (Eq.trans (q1685.out.fld (by decide)) (Hid.upn hw1667 (Or.inr (by decide)) (Hid.upn hw1649 (Or.inr (by decide)) (show Hid (w1632 275 79 = w 275 79) from Hid.mk (Eq.trans (q1634.out.fld (by decide)) u1283.out)))).out)))).out)).out, (show Hid (w1742 275 80 = w 275 80 + 1) from Hid.mk (Eq.trans (e1744.out.1 275 80 (by decide)) (Hid.upn hw1718 (Or.inl (by decide)) (Hid.upn q1703 (Or.inl (by decide)) (show Hid (w1683 275 80 = w 275 80 + 1) from Hid.mk (Eq.trans (q1685.out.fld (by decide)) (Hid.upn hw1667 (Or.inr (by decide)) (Hid.upn hw1649 (Or.inr (by decide)) (show Hid (w1632 275 80 = w 275 80 + 1) from Hid.mk (Eq.trans (q1634.out.fld (by decide)) u1284.out)))).out)))).out)).out, (show Hid (w1742 275 81 = w 275 81) from Hid.mk (Eq.trans (e1744.out.1 275 81 (by decide)) (Hid.upn hw1718 (Or.inl (by decide)) (Hid.upn q1703 (Or.inl (by decide)) (show Hid (w1683 275 81 = w 275 81) from Hid.mk (Eq.trans (q1685.out.fld (by decide)) (Hid.upn hw1667 (Or.inr (by decide)) (Hid.upn hw1649 (Or.inr (by decide)) (show Hid (w1632 275 81 = w 275 81) from Hid.mk (Eq.trans (q1634.out.fld (by decide)) u1285.out)))).out)))).out)).out, (show Hid (w1742 275 82 = w 275 82) from Hid.mk (Eq.trans (e1744.out.1 275 82 (by decide)) (Hid.upn hw1718 (Or.inl (by decide)) (Hid.upn q1703 (Or.inl (by decide)) (show Hid (w1683 275 82 = w 275 82) from Hid.mk (Eq.trans (q1685.out.fld (by decide)) (Hid.upe hw1667).out)))).out)).out, (show Hid (w1742 275 83 = w 275 83) from Hid.mk (e1744.out.2)).out, (show Hid (w1742 275 86 = w 275 86) from Hid.mk (Eq.trans (e1744.out.1 275 86 (by decide)) (Hid.upn hw1718 (Or.inl (by decide)) (Hid.upn q1703 (Or.inl (by decide)) (show Hid (w1683 275 86 = w 275 86) from Hid.mk (Eq.trans (q1685.out.fld (by decide)) (Hid.upn hw1667 (Or.inr (by decide)) (Hid.upn hw1649 (Or.inr (by decide)) (show Hid (w1632 275 86 = w 275 86) from Hid.mk (Eq.trans (q1634.out.fld (by decide)) u1290.out)))).out)))).out)).out, (show Hid (w1742 275 88 = w5 275 88) from Hid.mk (Eq.trans (e1744.out.1 275 88 (by decide)) u1730.out)).out, (show Hid (w1742 275 94 = w 275 94) from Hid.mk (Eq.trans (e1744.out.1 275 94 (by decide)) (Hid.upn hw1718 (Or.inl (by decide)) (Hid.upn q1703 (Or.inl (by decide)) (show Hid (w1683 275 94 = w 275 94) from Hid.mk (Eq.trans (q1685.out.fld (by decide)) (Hid.upn hw1667 (Or.inr (by decide)) (Hid.upn hw1649 (Or.inr (by decide)) (show Hid (w1632 275 94 = w 275 94) from Hid.mk (Eq.trans (q1634.out.fld (by decide)) u1293.out)))).out)))).out)).out]; omega), (fun z => by rw [(show Hid (w1742 275 88 = w5 275 88) from Hid.mk (Eq.trans (e1744.out.1 275 88 (by decide)) u1730.out)).out] at z; exact absurd z (by omega))⟩
              · rw [u1730.out] at q1741z; exact absurd q1741z (by omega)
              · rw [u1730.out] at q1741z; exact absurd q1741z (by omega)
            · refine e_Ok.nrm (q := 127) (st' := [(0, 0), (1, 275)]) rfl rfl ?_
              clear q1737n
              refine e_Ok.callV rfl (Nat.le_trans (by decide) hdq) rfl rfl rfl rfl (c_334 (Nat.le_trans (by decide) hdq) c1732.1 c1732.2.1 c1732.2.2.1 hNr c1732.2.2.2.1 (by decide)) (fun r1758 w1759 h1760 => ?_)
              obtain ⟨rfl, q1761⟩ := h1760
              obtain ⟨rfl, q1761z⟩ | ⟨q1761z, q1761b, q1761, q1761s, q1761t⟩ | ⟨q1761z, q1761b, q1761, q1761T, q1761H, q1761r⟩ := q1761
              · refine e_Ok.nrm (q := 130) (st' := []) rfl rfl ?_
                rw [u1730.out] at q1761z
                refine e_Ok.run (t' := (132, [(4, (0, w 275 78 + 1)), (3, (0, w 275 78)), (2, (0, w 275 82)), (1, (0, w 275 80)), (0, (1, 275))], [(1, 275), (1, 275)], w1718)) 2 rfl ?_
                refine e_Ok.getf (z := w 275 83 + 1) rfl (el_o rfl) rfl (ef_o rfl) (Hid.upn hw1718 (Or.inl (by decide)) (Hid.upn q1703 (Or.inl (by decide)) (show Hid (w1683 275 83 = w 275 83 + 1) from Hid.mk (Eq.trans (q1685.out.fld (by decide)) (Hid.upn hw1667 (Or.inr (by decide)) (Hid.upn hw1649 (Or.inr (by decide)) (show Hid (w1632 275 83 = w 275 83 + 1) from Hid.mk (Eq.trans (q1634.out.fld (by decide)) u1287.out)))).out)))).out (by omega) ?_
                refine e_Ok.ps1 (x := (0, 1)) (q := 136) 1 rfl ?_
                refine e_Ok.sub' (z := w 275 83) rfl (by omega) (by omega) ?_
                refine e_Ok.putf rfl (el_o rfl) rfl (ef_o rfl) ?_
                generalize hw1762 : e_up w1718 275 83 (w 275 83) = w1762
                have e1764 := up83 hw1762
                replace e1764 := (show Hid _ from e1764)
                refine e_Ok.rets rfl rfl ?_
                exact ⟨rfl, (show e_fr (mStm (w 275 78) (w 275 79) (w 275 80) (w 275 94)) w w1762 from e_fr.up f1719 hw1762 (by first | exact Or.inr (Or.inr (Or.inr (Or.inr ⟨rfl, Or.inl ⟨(by decide), (by decide)⟩⟩))) | (unfold mStm; omega))), (cSt.up c1732 hw1762), (by unfold stL; rw [(show Hid (w1762 275 78 = w 275 78 + 3) from Hid.mk (Eq.trans (e1764.out.1 275 78 (by decide)) (Hid.upn hw1718 (Or.inl (by decide)) (Hid.upn q1703 (Or.inl (by decide)) u1686)).out)).out, (show Hid (w1762 275 79 = w 275 79) from Hid.mk (Eq.trans (e1764.out.1 275 79 (by decide)) (Hid.upn hw1718 (Or.inl (by decide)) (Hid.upn q1703 (Or.inl (by decide)) (show Hid (w1683 275 79 = w 275 79) from Hid.mk (Eq.trans (q1685.out.fld (by decide)) (Hid.upn hw1667 (Or.inr (by decide)) (Hid.upn hw1649 (Or.inr (by decide)) (show Hid (w1632 275 79 = w 275 79) from Hid.mk (Eq.trans (q1634.out.fld (by decide)) u1283.out)))).out)))).out)).out, (show Hid (w1762 275 80 = w 275 80 + 1) from Hid.mk (Eq.trans (e1764.out.1 275 80 (by decide)) (Hid.upn hw1718 (Or.inl (by decide)) (Hid.upn q1703 (Or.inl (by decide)) (show Hid (w1683 275 80 = w 275 80 + 1) from Hid.mk (Eq.trans (q1685.out.fld (by decide)) (Hid.upn hw1667 (Or.inr (by decide)) (Hid.upn hw1649 (Or.inr (by decide)) (show Hid (w1632 275 80 = w 275 80 + 1) from Hid.mk (Eq.trans (q1634.out.fld (by decide)) u1284.out)))).out)))).out)).out, (show Hid (w1762 275 81 = w 275 81) from Hid.mk (Eq.trans (e1764.out.1 275 81 (by decide)) (Hid.upn hw1718 (Or.inl (by decide)) (Hid.upn q1703 (Or.inl (by decide)) (show Hid (w1683 275 81 = w 275 81) from Hid.mk (Eq.trans (q1685.out.fld (by decide)) (Hid.upn hw1667 (Or.inr (by decide)) (Hid.upn hw1649 (Or.inr (by decide)) (show Hid (w1632 275 81 = w 275 81) from Hid.mk (Eq.trans (q1634.out.fld (by decide)) u1285.out)))).out)))).out)).out, (show Hid (w1762 275 82 = w 275 82) from Hid.mk (Eq.trans (e1764.out.1 275 82 (by decide)) (Hid.upn hw1718 (Or.inl (by decide)) (Hid.upn q1703 (Or.inl (by decide)) (show Hid (w1683 275 82 = w 275 82) from Hid.mk (Eq.trans (q1685.out.fld (by decide)) (Hid.upe hw1667).out)))).out)).out, (show Hid (w1762 275 83 = w 275 83) from Hid.mk (e1764.out.2)).out, (show Hid (w1762 275 86 = w 275 86) from Hid.mk (Eq.trans (e1764.out.1 275 86 (by decide)) (Hid.upn hw1718 (Or.inl (by decide)) (Hid.upn q1703 (Or.inl (by decide)) (show Hid (w1683 275 86 = w 275 86) from Hid.mk (Eq.trans (q1685.out.fld (by decide)) (Hid.upn hw1667 (Or.inr (by decide)) (Hid.upn hw1649 (Or.inr (by decide)) (show Hid (w1632 275 86 = w 275 86) from Hid.mk (Eq.trans (q1634.out.fld (by decide)) u1290.out)))).out)))).out)).out, (show Hid (w1762 275 88 = w5 275 88) from Hid.mk (Eq.trans (e1764.out.1 275 88 (by decide)) u1730.out)).out, (show Hid (w1762 275 94 = w 275 94) from Hid.mk (Eq.trans (e1764.out.1 275 94 (by decide)) (Hid.upn hw1718 (Or.inl (by decide)) (Hid.upn q1703 (Or.inl (by decide)) (show Hid (w1683 275 94 = w 275 94) from Hid.mk (Eq.trans (q1685.out.fld (by decide)) (Hid.upn hw1667 (Or.inr (by decide)) (Hid.upn hw1649 (Or.inr (by decide)) (show Hid (w1632 275 94 = w 275 94) from Hid.mk (Eq.trans (q1634.out.fld (by decide)) u1293.out)))).out)))).out)).out]; omega), (fun z => by rw [(show Hid (w1762 275 88 = w5 275 88) from Hid.mk (Eq.trans (e1764.out.1 275 88 (by decide)) u1730.out)).out] at z; exact absurd z (by omega))⟩
              · rw [u1730.out] at q1761z; exact absurd q1761z (by omega)
              · rw [u1730.out] at q1761z; exact absurd q1761z (by omega)
          · rw [u1292.out] at q1630z; exact absurd q1630z (by omega)
          · rw [u1292.out] at q1630z; exact absurd q1630z (by omega)
        · refine e_Ok.nrm (q := 67) (st' := [(0, 0), (1, 275)]) rfl rfl ?_
          clear q1626n
          refine e_Ok.callV rfl (Nat.le_trans (by decide) hdq) rfl rfl rfl rfl (c_334 (Nat.le_trans (by decide) hdq) c1295.1 c1295.2.1 c1295.2.2.1 hNr c1295.2.2.2.1 (by decide)) (fun r1778 w1779 h1780 => ?_)
          obtain ⟨rfl, q1781⟩ := h1780
          obtain ⟨rfl, q1781z⟩ | ⟨q1781z, q1781b, q1781, q1781s, q1781t⟩ | ⟨q1781z, q1781b, q1781, q1781T, q1781H, q1781r⟩ := q1781
          · refine e_Ok.nrm (q := 70) (st' := []) rfl rfl ?_
            rw [u1292.out] at q1781z
            refine e_Ok.run (t' := (74, [(3, (0, w 275 78)), (2, (0, w 275 82)), (1, (0, w 275 80)), (0, (1, 275))], [(0, 0), (0, 47), (1, 275)], w1279)) 3 rfl ?_
            refine e_Ok.callV rfl (Nat.le_trans (by decide) hdq) rfl rfl rfl rfl (c_336 c1295.1 (n := w 275 78 + 1) u1282.out (by omega) (s := w 275 81) u1285.out (by omega)) (fun r1782 w1783 h1784 => ?_)
            obtain ⟨rfl, q1785⟩ := h1784
            replace q1785 := (show Hid (EM w1279 w1783 (w 275 78 + 1) 47 (0) (w 275 81)) from q1785)
            refine e_Ok.nrm (q := 77) (st' := [(0, w 275 78 + 1)]) rfl rfl ?_
            refine e_Ok.run (t' := (81, [(4, (0, w 275 78 + 1)), (3, (0, w 275 78)), (2, (0, w 275 82)), (1, (0, w 275 80)), (0, (1, 275))], [(0, w 275 80), (1, 275)], w1783)) 3 rfl ?_
            refine e_Ok.putf rfl (el_o rfl) rfl (ef_o rfl) ?_
            generalize hw1800 : e_up w1783 275 82 (w 275 80) = w1800
            have c1814 := cSt.wr (cSt.em c1295 q1785.out (by decide) (by omega) (by omega)) hw1800 (Or.inr rfl) (by omega) rfl (fun _ => ⟨⟨by decide, by decide⟩, fun y => absurd y (by decide)⟩)
            refine e_Ok.ps1 (x := (1, 275)) (q := 85) 1 rfl ?_
            refine e_Ok.callV rfl (Nat.le_trans (by decide) hdq) rfl rfl rfl rfl (c_348_0 (Nat.le_trans (by decide) hdq) c1814 (by rw [(Hid.upn hw1800 (Or.inr (by decide)) (show Hid (w1783 275 88 = w5 275 88) from Hid.mk (Eq.trans (q1785.out.fld (by decide)) u1292.out))).out] <;> omega)) (fun r1815 w1816 h1817 => ?_)
            obtain ⟨rfl, rfl⟩ := h1817
            refine e_Ok.nrm (q := 88) (st' := []) rfl rfl ?_
            refine e_Ok.ps2 (x := (0, w 275 82)) (y := (1, 275)) (q := 90) 2 rfl ?_
            refine e_Ok.putf rfl (el_o rfl) rfl (ef_o rfl) ?_
            generalize hw1818 : e_up w1800 275 82 (w 275 82) = w1818
            have c1832 := cSt.wr c1814 hw1818 (Or.inr rfl) (by omega) rfl (fun _ => ⟨⟨by decide, by decide⟩, fun y => absurd y (by decide)⟩)
            refine e_Ok.ps3 (x := (0, w 275 78)) (y := (0, 48)) (z := (1, 275)) (q := 97) 3 rfl ?_
            refine e_Ok.callV rfl (Nat.le_trans (by decide) hdq) rfl rfl rfl rfl (c_336 c1832.1 (n := w 275 78 + 2) (Hid.upn hw1818 (Or.inr (by decide)) (Hid.upn hw1800 (Or.inr (by decide)) (show Hid (w1783 275 78 = w 275 78 + 2) from Hid.mk (Eq.trans q1785.out.2.2.2.2 (by omega))))).out (by omega) (s := w 275 81) (Hid.upn hw1818 (Or.inr (by decide)) (Hid.upn hw1800 (Or.inr (by decide)) (show Hid (w1783 275 81 = w 275 81) from Hid.mk (Eq.trans (q1785.out.fld (by decide)) u1285.out)))).out (by omega)) (fun r1833 w1834 h1835 => ?_)
            obtain ⟨rfl, q1836⟩ := h1835
            replace q1836 := (show Hid (EM w1818 w1834 (w 275 78 + 2) 48 (w 275 78) (w 275 81)) from q1836)
            have u1837 : Hid (w1834 275 78 = w 275 78 + 3) := Hid.mk (Eq.trans q1836.out.2.2.2.2 (by omega))
            have c1850 := cSt.em c1832 q1836.out (by decide) (by omega) (by omega)
            refine e_Ok.nrm (q := 100) (st' := [(0, w 275 78 + 2)]) rfl rfl ?_
            refine e_Ok.run (t' := (104, [(4, (0, w 275 78 + 1)), (3, (0, w 275 78)), (2, (0, w 275 82)), (1, (0, w 275 80)), (0, (1, 275))], [(0, w 275 78 + 1), (1, 275)], w1834)) 3 rfl ?_
            refine e_Ok.callV rfl (Nat.le_trans (by decide) hdq) rfl rfl rfl rfl (c_337 c1850.1 (n := w 275 78 + 3) u1837.out (by omega) (by omega)) (fun r1851 w1852 h1853 => ?_)
            obtain ⟨rfl, q1854⟩ := h1853
            have f1855 : e_fr (mStm (w 275 78) (w 275 79) (w 275 80) (w 275 94)) w w1852 := e_fr.up (show e_fr (mStm (w 275 78) (w 275 79) (w 275 80) (w 275 94)) w w1834 from e_fr.trans (show e_fr (mStm (w 275 78) (w 275 79) (w 275 80) (w 275 94)) w w1818 from e_fr.up (show e_fr (mStm (w 275 78) (w 275 79) (w 275 80) (w 275 94)) w w1800 from e_fr.up (show e_fr (mStm (w 275 78) (w 275 79) (w 275 80) (w 275 94)) w w1783 from e_fr.trans f1294 (q1785.out.st (by omega))) hw1800 (by first | exact Or.inr (Or.inr (Or.inr (Or.inr ⟨rfl, Or.inl ⟨(by decide), (by decide)⟩⟩))) | (unfold mStm; omega))) hw1818 (by first | exact Or.inr (Or.inr (Or.inr (Or.inr ⟨rfl, Or.inl ⟨(by decide), (by decide)⟩⟩))) | (unfold mStm; omega))) (q1836.out.st (by omega))) q1854 (by unfold mStm; omega)
            refine e_Ok.nrm (q := 107) (st' := []) rfl rfl ?_
            refine e_Ok.ps1 (x := (1, 275)) (q := 108) 1 rfl ?_
            refine e_Ok.getr (z := 336) rfl (el_o rfl) rfl (ef_o rfl) ((f1855 275 73 (by first | exact no_bb_1 | (unfold mStm; omega))).trans (e_Has.eq hc.1 rfl)) ⟨by decide, by decide⟩ ?_
            refine e_Ok.ps2 (x := (0, w 275 80)) (y := (0, 3600)) (q := 115) 2 rfl ?_
            refine e_Ok.add (z := w 275 80 + 3600) rfl (Int.add_comm _ _) (by omega) ?_
            refine e_Ok.ps1 (x := (1, 275)) (q := 117) 1 rfl ?_
            refine e_Ok.getf (z := w 275 78 + 3) rfl (el_o rfl) rfl (ef_o rfl) (Hid.upn q1854 (Or.inl (by decide)) u1837).out (by omega) ?_
            refine e_Ok.ast rfl (el_o rfl) rfl rfl (by omega) ?_
            generalize hw1869 : e_up w1852 336 (w 275 80 + 3600) (w 275 78 + 3) = w1869
            have f1870 : e_fr (mStm (w 275 78) (w 275 79) (w 275 80) (w 275 94)) w w1869 := e_fr.up f1855 hw1869 (by first | exact Or.inr (Or.inr (Or.inl ⟨⟨(by decide), (by decide)⟩, (by omega)⟩)) | (unfold mStm; omega))
            have u1881 : Hid (w1869 275 88 = w5 275 88) := Hid.upn hw1869 (Or.inl (by decide)) (Hid.upn q1854 (Or.inl (by decide)) (show Hid (w1834 275 88 = w5 275 88) from Hid.mk (Eq.trans (q1836.out.fld (by decide)) (Hid.upn hw1818 (Or.inr (by decide)) (Hid.upn hw1800 (Or.inr (by decide)) (show Hid (w1783 275 88 = w5 275 88) from Hid.mk (Eq.trans (q1785.out.fld (by decide)) u1292.out)))).out)))
            have c1883 := cSt.wr (cSt.wr c1850 q1854 (Or.inl rfl) (by omega) rfl (fun y => absurd y (by decide))) hw1869 (Or.inl rfl) (by omega) rfl (fun y => absurd y (by decide))
            refine e_Ok.ps3 (x := (0, 2)) (y := (1, 275)) (z := (1, 275)) (q := 124) 3 rfl ?_
            refine e_Ok.callV rfl (Nat.le_trans (by decide) hdq) rfl rfl rfl rfl (c_332 c1883.1 (N := N) c1883.2.2.2.1) (fun r1884 w1885 h1886 => ?_)
            obtain ⟨z1887, rfl, rfl, q1888⟩ := h1886
            obtain ⟨rfl, q1888, q1888b⟩ | ⟨rfl, q1888n⟩ := q1888
            · refine e_Ok.nrm (q := 127) (st' := [(0, 1), (1, 275)]) rfl rfl ?_
              rw [(Hid.upn hw1869 (Or.inl (by decide)) (Hid.upn q1854 (Or.inl (by decide)) (show Hid (w1834 275 84 = w 275 84) from Hid.mk (Eq.trans (q1836.out.fld (by decide)) (Hid.upn hw1818 (Or.inr (by decide)) (Hid.upn hw1800 (Or.inr (by decide)) (show Hid (w1783 275 84 = w 275 84) from Hid.mk (Eq.trans (q1785.out.fld (by decide)) u1288.out)))).out)))).out] at q1888
              rw [(Hid.upn hw1869 (Or.inl (by decide)) (Hid.upn q1854 (Or.inl (by decide)) (show Hid (w1834 275 85 = w 275 85) from Hid.mk (Eq.trans (q1836.out.fld (by decide)) (Hid.upn hw1818 (Or.inr (by decide)) (Hid.upn hw1800 (Or.inr (by decide)) (show Hid (w1783 275 85 = w 275 85) from Hid.mk (Eq.trans (q1785.out.fld (by decide)) u1289.out)))).out)))).out] at q1888b
              refine e_Ok.callV rfl (Nat.le_trans (by decide) hdq) rfl rfl rfl rfl (c_334 (Nat.le_trans (by decide) hdq) c1883.1 c1883.2.1 c1883.2.2.1 hNr c1883.2.2.2.1 (by decide)) (fun r1889 w1890 h1891 => ?_)
              obtain ⟨rfl, q1892⟩ := h1891
              obtain ⟨rfl, q1892z⟩ | ⟨q1892z, q1892b, q1892, q1892s, q1892t⟩ | ⟨q1892z, q1892b, q1892, q1892T, q1892H, q1892r⟩ := q1892
              · show e_Ok 20 elay ecode eI (d + 1) 351 (130, [(4, (0, w 275 78 + 1)), (3, (0, w 275 78)), (2, (0, w 275 82)), (1, (0, w 275 80)), (0, (1, 275))], [], w1869) _
                rw [u1881.out] at q1892z
                refine e_Ok.run (t' := (132, [(4, (0, w 275 78 + 1)), (3, (0, w 275 78)), (2, (0, w 275 82)), (1, (0, w 275 80)), (0, (1, 275))], [(1, 275), (1, 275)], w1869)) 2 rfl ?_
                refine e_Ok.getf (z := w 275 83 + 1) rfl (el_o rfl) rfl (ef_o rfl) (Hid.upn hw1869 (Or.inl (by decide)) (Hid.upn q1854 (Or.inl (by decide)) (show Hid (w1834 275 83 = w 275 83 + 1) from Hid.mk (Eq.trans (q1836.out.fld (by decide)) (Hid.upn hw1818 (Or.inr (by decide)) (Hid.upn hw1800 (Or.inr (by decide)) (show Hid (w1783 275 83 = w 275 83 + 1) from Hid.mk (Eq.trans (q1785.out.fld (by decide)) u1287.out)))).out)))).out (by omega) ?_
                refine e_Ok.ps1 (x := (0, 1)) (q := 136) 1 rfl ?_
                refine e_Ok.sub' (z := w 275 83) rfl (by omega) (by omega) ?_
                refine e_Ok.putf rfl (el_o rfl) rfl (ef_o rfl) ?_
                generalize hw1893 : e_up w1869 275 83 (w 275 83) = w1893
                have e1895 := up83 hw1893
                replace e1895 := (show Hid _ from e1895)
                refine e_Ok.rets rfl rfl ?_
                exact ⟨rfl, (show e_fr (mStm (w 275 78) (w 275 79) (w 275 80) (w 275 94)) w w1893 from e_fr.up f1870 hw1893 (by first | exact Or.inr (Or.inr (Or.inr (Or.inr ⟨rfl, Or.inl ⟨(by decide), (by decide)⟩⟩))) | (unfold mStm; omega))), (cSt.up c1883 hw1893), (by unfold stL; rw [(show Hid (w1893 275 78 = w 275 78 + 3) from Hid.mk (Eq.trans (e1895.out.1 275 78 (by decide)) (Hid.upn hw1869 (Or.inl (by decide)) (Hid.upn q1854 (Or.inl (by decide)) u1837)).out)).out, (show Hid (w1893 275 79 = w 275 79) from Hid.mk (Eq.trans (e1895.out.1 275 79 (by decide)) (Hid.upn hw1869 (Or.inl (by decide)) (Hid.upn q1854 (Or.inl (by decide)) (show Hid (w1834 275 79 = w 275 79) from Hid.mk (Eq.trans (q1836.out.fld (by decide)) (Hid.upn hw1818 (Or.inr (by decide)) (Hid.upn hw1800 (Or.inr (by decide)) (show Hid (w1783 275 79 = w 275 79) from Hid.mk (Eq.trans (q1785.out.fld (by decide)) u1283.out)))).out)))).out)).out, (show Hid (w1893 275 80 = w 275 80 + 1) from Hid.mk (Eq.trans (e1895.out.1 275 80 (by decide)) (Hid.upn hw1869 (Or.inl (by decide)) (Hid.upn q1854 (Or.inl (by decide)) (show Hid (w1834 275 80 = w 275 80 + 1) from Hid.mk (Eq.trans (q1836.out.fld (by decide)) (Hid.upn hw1818 (Or.inr (by decide)) (Hid.upn hw1800 (Or.inr (by decide)) (show Hid (w1783 275 80 = w 275 80 + 1) from Hid.mk (Eq.trans (q1785.out.fld (by decide)) u1284.out)))).out)))).out)).out, (show Hid (w1893 275 81 = w 275 81) from Hid.mk (Eq.trans (e1895.out.1 275 81 (by decide)) (Hid.upn hw1869 (Or.inl (by decide)) (Hid.upn q1854 (Or.inl (by decide)) (show Hid (w1834 275 81 = w 275 81) from Hid.mk (Eq.trans (q1836.out.fld (by decide)) (Hid.upn hw1818 (Or.inr (by decide)) (Hid.upn hw1800 (Or.inr (by decide)) (show Hid (w1783 275 81 = w 275 81) from Hid.mk (Eq.trans (q1785.out.fld (by decide)) u1285.out)))).out)))).out)).out, (show Hid (w1893 275 82 = w 275 82) from Hid.mk (Eq.trans (e1895.out.1 275 82 (by decide)) (Hid.upn hw1869 (Or.inl (by decide)) (Hid.upn q1854 (Or.inl (by decide)) (show Hid (w1834 275 82 = w 275 82) from Hid.mk (Eq.trans (q1836.out.fld (by decide)) (Hid.upe hw1818).out)))).out)).out, (show Hid (w1893 275 83 = w 275 83) from Hid.mk (e1895.out.2)).out, (show Hid (w1893 275 86 = w 275 86) from Hid.mk (Eq.trans (e1895.out.1 275 86 (by decide)) (Hid.upn hw1869 (Or.inl (by decide)) (Hid.upn q1854 (Or.inl (by decide)) (show Hid (w1834 275 86 = w 275 86) from Hid.mk (Eq.trans (q1836.out.fld (by decide)) (Hid.upn hw1818 (Or.inr (by decide)) (Hid.upn hw1800 (Or.inr (by decide)) (show Hid (w1783 275 86 = w 275 86) from Hid.mk (Eq.trans (q1785.out.fld (by decide)) u1290.out)))).out)))).out)).out, (show Hid (w1893 275 88 = w5 275 88) from Hid.mk (Eq.trans (e1895.out.1 275 88 (by decide)) u1881.out)).out, (show Hid (w1893 275 94 = w 275 94) from Hid.mk (Eq.trans (e1895.out.1 275 94 (by decide)) (Hid.upn hw1869 (Or.inl (by decide)) (Hid.upn q1854 (Or.inl (by decide)) (show Hid (w1834 275 94 = w 275 94) from Hid.mk (Eq.trans (q1836.out.fld (by decide)) (Hid.upn hw1818 (Or.inr (by decide)) (Hid.upn hw1800 (Or.inr (by decide)) (show Hid (w1783 275 94 = w 275 94) from Hid.mk (Eq.trans (q1785.out.fld (by decide)) u1293.out)))).out)))).out)).out]; omega), (fun z => by rw [(show Hid (w1893 275 88 = w5 275 88) from Hid.mk (Eq.trans (e1895.out.1 275 88 (by decide)) u1881.out)).out] at z; exact absurd z (by omega))⟩
              · rw [u1881.out] at q1892z; exact absurd q1892z (by omega)
              · rw [u1881.out] at q1892z; exact absurd q1892z (by omega)
            · refine e_Ok.nrm (q := 127) (st' := [(0, 0), (1, 275)]) rfl rfl ?_
              clear q1888n
              refine e_Ok.callV rfl (Nat.le_trans (by decide) hdq) rfl rfl rfl rfl (c_334 (Nat.le_trans (by decide) hdq) c1883.1 c1883.2.1 c1883.2.2.1 hNr c1883.2.2.2.1 (by decide)) (fun r1909 w1910 h1911 => ?_)
              obtain ⟨rfl, q1912⟩ := h1911
              obtain ⟨rfl, q1912z⟩ | ⟨q1912z, q1912b, q1912, q1912s, q1912t⟩ | ⟨q1912z, q1912b, q1912, q1912T, q1912H, q1912r⟩ := q1912
              · refine e_Ok.nrm (q := 130) (st' := []) rfl rfl ?_
                rw [u1881.out] at q1912z
                refine e_Ok.run (t' := (132, [(4, (0, w 275 78 + 1)), (3, (0, w 275 78)), (2, (0, w 275 82)), (1, (0, w 275 80)), (0, (1, 275))], [(1, 275), (1, 275)], w1869)) 2 rfl ?_
                refine e_Ok.getf (z := w 275 83 + 1) rfl (el_o rfl) rfl (ef_o rfl) (Hid.upn hw1869 (Or.inl (by decide)) (Hid.upn q1854 (Or.inl (by decide)) (show Hid (w1834 275 83 = w 275 83 + 1) from Hid.mk (Eq.trans (q1836.out.fld (by decide)) (Hid.upn hw1818 (Or.inr (by decide)) (Hid.upn hw1800 (Or.inr (by decide)) (show Hid (w1783 275 83 = w 275 83 + 1) from Hid.mk (Eq.trans (q1785.out.fld (by decide)) u1287.out)))).out)))).out (by omega) ?_
                refine e_Ok.ps1 (x := (0, 1)) (q := 136) 1 rfl ?_
                refine e_Ok.sub' (z := w 275 83) rfl (by omega) (by omega) ?_
                refine e_Ok.putf rfl (el_o rfl) rfl (ef_o rfl) ?_
                generalize hw1913 : e_up w1869 275 83 (w 275 83) = w1913
                have e1915 := up83 hw1913
                replace e1915 := (show Hid _ from e1915)
                refine e_Ok.rets rfl rfl ?_
                exact ⟨rfl, (show e_fr (mStm (w 275 78) (w 275 79) (w 275 80) (w 275 94)) w w1913 from e_fr.up f1870 hw1913 (by first | exact Or.inr (Or.inr (Or.inr (Or.inr ⟨rfl, Or.inl ⟨(by decide), (by decide)⟩⟩))) | (unfold mStm; omega))), (cSt.up c1883 hw1913), (by unfold stL; rw [(show Hid (w1913 275 78 = w 275 78 + 3) from Hid.mk (Eq.trans (e1915.out.1 275 78 (by decide)) (Hid.upn hw1869 (Or.inl (by decide)) (Hid.upn q1854 (Or.inl (by decide)) u1837)).out)).out, (show Hid (w1913 275 79 = w 275 79) from Hid.mk (Eq.trans (e1915.out.1 275 79 (by decide)) (Hid.upn hw1869 (Or.inl (by decide)) (Hid.upn q1854 (Or.inl (by decide)) (show Hid (w1834 275 79 = w 275 79) from Hid.mk (Eq.trans (q1836.out.fld (by decide)) (Hid.upn hw1818 (Or.inr (by decide)) (Hid.upn hw1800 (Or.inr (by decide)) (show Hid (w1783 275 79 = w 275 79) from Hid.mk (Eq.trans (q1785.out.fld (by decide)) u1283.out)))).out)))).out)).out, (show Hid (w1913 275 80 = w 275 80 + 1) from Hid.mk (Eq.trans (e1915.out.1 275 80 (by decide)) (Hid.upn hw1869 (Or.inl (by decide)) (Hid.upn q1854 (Or.inl (by decide)) (show Hid (w1834 275 80 = w 275 80 + 1) from Hid.mk (Eq.trans (q1836.out.fld (by decide)) (Hid.upn hw1818 (Or.inr (by decide)) (Hid.upn hw1800 (Or.inr (by decide)) (show Hid (w1783 275 80 = w 275 80 + 1) from Hid.mk (Eq.trans (q1785.out.fld (by decide)) u1284.out)))).out)))).out)).out, (show Hid (w1913 275 81 = w 275 81) from Hid.mk (Eq.trans (e1915.out.1 275 81 (by decide)) (Hid.upn hw1869 (Or.inl (by decide)) (Hid.upn q1854 (Or.inl (by decide)) (show Hid (w1834 275 81 = w 275 81) from Hid.mk (Eq.trans (q1836.out.fld (by decide)) (Hid.upn hw1818 (Or.inr (by decide)) (Hid.upn hw1800 (Or.inr (by decide)) (show Hid (w1783 275 81 = w 275 81) from Hid.mk (Eq.trans (q1785.out.fld (by decide)) u1285.out)))).out)))).out)).out, (show Hid (w1913 275 82 = w 275 82) from Hid.mk (Eq.trans (e1915.out.1 275 82 (by decide)) (Hid.upn hw1869 (Or.inl (by decide)) (Hid.upn q1854 (Or.inl (by decide)) (show Hid (w1834 275 82 = w 275 82) from Hid.mk (Eq.trans (q1836.out.fld (by decide)) (Hid.upe hw1818).out)))).out)).out, (show Hid (w1913 275 83 = w 275 83) from Hid.mk (e1915.out.2)).out, (show Hid (w1913 275 86 = w 275 86) from Hid.mk (Eq.trans (e1915.out.1 275 86 (by decide)) (Hid.upn hw1869 (Or.inl (by decide)) (Hid.upn q1854 (Or.inl (by decide)) (show Hid (w1834 275 86 = w 275 86) from Hid.mk (Eq.trans (q1836.out.fld (by decide)) (Hid.upn hw1818 (Or.inr (by decide)) (Hid.upn hw1800 (Or.inr (by decide)) (show Hid (w1783 275 86 = w 275 86) from Hid.mk (Eq.trans (q1785.out.fld (by decide)) u1290.out)))).out)))).out)).out, (show Hid (w1913 275 88 = w5 275 88) from Hid.mk (Eq.trans (e1915.out.1 275 88 (by decide)) u1881.out)).out, (show Hid (w1913 275 94 = w 275 94) from Hid.mk (Eq.trans (e1915.out.1 275 94 (by decide)) (Hid.upn hw1869 (Or.inl (by decide)) (Hid.upn q1854 (Or.inl (by decide)) (show Hid (w1834 275 94 = w 275 94) from Hid.mk (Eq.trans (q1836.out.fld (by decide)) (Hid.upn hw1818 (Or.inr (by decide)) (Hid.upn hw1800 (Or.inr (by decide)) (show Hid (w1783 275 94 = w 275 94) from Hid.mk (Eq.trans (q1785.out.fld (by decide)) u1293.out)))).out)))).out)).out]; omega), (fun z => by rw [(show Hid (w1913 275 88 = w5 275 88) from Hid.mk (Eq.trans (e1915.out.1 275 88 (by decide)) u1881.out)).out] at z; exact absurd z (by omega))⟩
              · rw [u1881.out] at q1912z; exact absurd q1912z (by omega)
              · rw [u1881.out] at q1912z; exact absurd q1912z (by omega)
          · rw [u1292.out] at q1781z; exact absurd q1781z (by omega)
          · rw [u1292.out] at q1781z; exact absurd q1781z (by omega)
      · rw [u1292.out] at q1618z; exact absurd q1618z (by omega)
      · rw [u1292.out] at q1618z; exact absurd q1618z (by omega)
end
