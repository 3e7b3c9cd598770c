noncomputable section
set_option maxHeartbeats 4000000 in
theorem c_353 {d : Nat} (hd : 419 ≤ d) {w : eW} {N : Int} (hc : cSt w N) (hNr : 0 ≤ N ∧ N ≤ 4000) (h0 : w 275 88 = 0) (hz : w 275 78 = 0 ∧ w 275 79 = 0 ∧ w 275 80 = 0 ∧ w 275 81 = -1 ∧ w 275 82 = -1 ∧ w 275 83 = 0 ∧ w 275 94 = 0) : e_Ok 20 elay ecode eI d 353 (0, [(0, (1, 275))], [], w) (fun r w' => r = [] ∧ e_fr (mStm (w 275 78) (w 275 79) (w 275 80) (w 275 94)) w w' ∧ cSt w' N ∧ stL w w' 0 640 ∧ (w' 275 88 = 0 → GX w' N (w' 275 78) (w' 275 94) (w' 275 79) (w' 275 80) (fun _ => False) (w 275 81) (fun _ => False) 0)) := by
  obtain ⟨d, rfl⟩ : ∃ e, d = e + 1 := ⟨d - 1, by omega⟩
  have hdq : 410 ≤ d := by omega
  have hct := tkS.lin hc.2.2.2.1
  have hcf := e_Has.get hc.2.1 (c := 275) (k := 88) (lo := 0) (hi := 7) rfl (by decide)
  have hgH : Hid (w 275 88 = 0 → GV w N (w 275 78) (w 275 94) (w 275 79) (w 275 80) (fun _ => False) (w 275 81) (fun _ => False) 0) := Hid.mk (fun _ => by rw [hz.1, hz.2.1, hz.2.2.1, hz.2.2.2.1, hz.2.2.2.2.2.2]; exact ⟨GB.zero w N, fun m m1 m2 => by omega⟩)
  have hL1 : ∀ (nn : Nat) (v1 : eW), e_fr (mStm (w 275 78) (w 275 79) (w 275 80) (w 275 94)) w v1 ∧ cSt v1 N ∧ stL w v1 0 640 ∧ Hid (v1 275 88 = 0 → GV v1 N (v1 275 78) (v1 275 94) (v1 275 79) (v1 275 80) (fun _ => False) (w 275 81) (fun _ => False) 0) ∧ ((0 ≤ v1 275 86 ∧ v1 275 86 ≤ N ∧ 0 ≤ v1 275 88 ∧ v1 275 88 ≤ 7)) ∧ ((v1 275 78 = 0 ∧ v1 275 79 = 0 ∧ v1 275 80 = 0)) → 8 * (N - v1 275 86) + 7 - v1 275 88 < nn → e_Ok 20 elay ecode eI (d + 1) 353 (0, [(0, (1, 275))], [], v1) (fun r w' => r = [] ∧ e_fr (mStm (w 275 78) (w 275 79) (w 275 80) (w 275 94)) w w' ∧ cSt w' N ∧ stL w w' 0 640 ∧ (w' 275 88 = 0 → GX w' N (w' 275 78) (w' 275 94) (w' 275 79) (w' 275 80) (fun _ => False) (w 275 81) (fun _ => False) 0)) := by
    intro nn
    induction nn with
    | zero => intro v1 hj hm; obtain ⟨j3, j4, j5, j6, j7, j8⟩ := hj; exfalso; omega
    | succ nn ih2 =>
      intro v1 hj hm
      obtain ⟨j3, j4, j5, j6, j7, j8⟩ := hj
      have xl := j5
      unfold stL at xl
      obtain ⟨x1, x2, x3, x4, x5, x6, x7, x8, x9, x10, x11, x12⟩ := xl
      have xt := tkS.lin j4.2.2.2.1
      have xf := e_Has.get j4.2.1 (c := 275) (k := 88) (lo := 0) (hi := 7) rfl (by decide)
      have xr := j4.2.2.2.2
      have u9 : Hid (v1 275 81 = w 275 81) := Hid.mk (by omega)
      have u10 : Hid (v1 275 82 = w 275 82) := Hid.mk (by omega)
      refine e_Ok.run (t' := (1, [(0, (1, 275))], [(1, 275)], v1)) 1 rfl ?_
      refine e_Ok.getf (z := v1 275 88) rfl (el_o rfl) rfl (ef_o rfl) rfl (by omega) ?_
      refine e_Ok.if1 rfl (fun h11 => ?_) (fun h11 => ?_)
      · replace h11 : (v1 275 88 : Int) ≠ 0 := h11
        clear x3
        have hL12 : ∀ (nn : Nat) (v3 : eW), e_fr (mStm (w 275 78) (w 275 79) (w 275 80) (w 275 94)) w v3 ∧ cSt v3 N ∧ stL w v3 0 640 ∧ Hid (v3 275 88 = 0 → GX v3 N (v3 275 78) (v3 275 94) (v3 275 79) (v3 275 80) (fun _ => False) (w 275 81) (fun _ => False) 0) ∧ ((0 ≤ v3 275 86 ∧ v3 275 86 ≤ N ∧ 0 ≤ v3 275 88 ∧ v3 275 88 ≤ 7)) → 8 * (N - v3 275 86) + 7 - v3 275 88 < nn → e_Ok 20 elay ecode eI (d + 1) 353 (67, [(0, (1, 275))], [], v3) (fun r w' => r = [] ∧ e_fr (mStm (w 275 78) (w 275 79) (w 275 80) (w 275 94)) w w' ∧ cSt w' N ∧ stL w w' 0 640 ∧ (w' 275 88 = 0 → GX w' N (w' 275 78) (w' 275 94) (w' 275 79) (w' 275 80) (fun _ => False) (w 275 81) (fun _ => False) 0)) := by
          intro nn
          induction nn with
          | zero => intro v3 hj hm; obtain ⟨j14, j15, j16, j17, j18⟩ := hj; exfalso; omega
          | succ nn ih13 =>
            intro v3 hj hm
            obtain ⟨j14, j15, j16, j17, j18⟩ := hj
            have xl := j16
            unfold stL at xl
            obtain ⟨x1, x2, x3, x4, x5, x6, x7, x8, x9, x10, x11, x12⟩ := xl
            have xt := tkS.lin j15.2.2.2.1
            have xf := e_Has.get j15.2.1 (c := 275) (k := 88) (lo := 0) (hi := 7) rfl (by decide)
            have xr := j15.2.2.2.2
            have u19 : Hid (v3 275 81 = w 275 81) := Hid.mk (by omega)
            have u20 : Hid (v3 275 82 = w 275 82) := Hid.mk (by omega)
            refine e_Ok.run (t' := (68, [(0, (1, 275))], [(1, 275)], v3)) 1 rfl ?_
            refine e_Ok.getf (z := v3 275 88) rfl (el_o rfl) rfl (ef_o rfl) rfl (by omega) ?_
            refine e_Ok.if1 rfl (fun h21 => ?_) (fun h21 => ?_)
            · replace h21 : (v3 275 88 : Int) ≠ 0 := h21
              clear x3
              refine e_Ok.ps2 (x := (1, 275)) (y := (1, 275)) (q := 131) 2 rfl ?_
              refine e_Ok.getf (z := v3 275 84) rfl (el_o rfl) rfl (ef_o rfl) rfl (by omega) ?_
              refine e_Ok.if1 rfl (fun h22 => ?_) (fun h22 => ?_)
              · replace h22 : (v3 275 84 : Int) ≠ 0 := h22
                refine e_Ok.ps1 (x := (0, 0)) (q := 142) 1 rfl ?_
                refine e_Ok.callV rfl (Nat.le_trans (by decide) hdq) rfl rfl rfl rfl (c_334 (Nat.le_trans (by decide) hdq) j15.1 j15.2.1 j15.2.2.1 hNr j15.2.2.2.1 (by decide)) (fun r23 w24 h25 => ?_)
                obtain ⟨rfl, q26⟩ := h25
                obtain ⟨rfl, q26z⟩ | ⟨q26z, q26b, q26, q26s, q26t⟩ | ⟨q26z, q26b, q26, q26T, q26H, q26r⟩ := q26
                · refine e_Ok.nrm (q := 145) (st' := []) rfl rfl ?_
                  refine e_Ok.rets rfl rfl ?_
                  exact ⟨rfl, j14, j15, (by unfold stL; rw [u19.out, u20.out]; omega), (Hid.mk (fun z => absurd z (by omega))).out⟩
                · exact absurd q26z (by omega)
                · exact absurd q26z (by omega)
              · replace h22 : (v3 275 84 : Int) = 0 := Classical.not_not.mp (show ¬ ((v3 275 84 : Int) ≠ 0) from h22)
                refine e_Ok.ps1 (x := (0, 1)) (q := 142) 2 rfl ?_
                refine e_Ok.callV rfl (Nat.le_trans (by decide) hdq) rfl rfl rfl rfl (c_334 (Nat.le_trans (by decide) hdq) j15.1 j15.2.1 j15.2.2.1 hNr j15.2.2.2.1 (by decide)) (fun r27 w28 h29 => ?_)
                obtain ⟨rfl, q30⟩ := h29
                obtain ⟨rfl, q30z⟩ | ⟨q30z, q30b, q30, q30s, q30t⟩ | ⟨q30z, q30b, q30, q30T, q30H, q30r⟩ := q30
                · refine e_Ok.nrm (q := 145) (st' := []) rfl rfl ?_
                  refine e_Ok.rets rfl rfl ?_
                  exact ⟨rfl, j14, j15, (by unfold stL; rw [u19.out, u20.out]; omega), (Hid.mk (fun z => absurd z (by omega))).out⟩
                · exact absurd q30z (by omega)
                · exact absurd q30z (by omega)
            · replace h21 : (v3 275 88 : Int) = 0 := Classical.not_not.mp (show ¬ ((v3 275 88 : Int) ≠ 0) from h21)
              replace x3 := x3 (by omega)
              refine e_Ok.ps2 (x := (0, 1)) (y := (1, 275)) (q := 76) 2 rfl ?_
              refine e_Ok.callV rfl (Nat.le_trans (by decide) hdq) rfl rfl rfl rfl (c_332 j15.1 (N := N) j15.2.2.2.1) (fun r31 w32 h33 => ?_)
              obtain ⟨z34, rfl, rfl, q35⟩ := h33
              obtain ⟨rfl, q35, q35b⟩ | ⟨rfl, q35n⟩ := q35
              · refine e_Ok.nrm (q := 79) (st' := [(0, 1)]) rfl rfl ?_
                refine e_Ok.if1 rfl (fun h36 => ?_) (fun h36 => ?_)
                · replace h36 : (1 : Int) = 0 := h36
                  exfalso; omega
                · replace h36 : (1 : Int) ≠ 0 := (show ¬ ((1 : Int) = 0) from h36)
                  refine e_Ok.ps1 (x := (1, 275)) (q := 83) 1 rfl ?_
                  refine e_Ok.callV rfl (Nat.le_trans (by decide) hdq) rfl rfl rfl rfl (c_327 (Nat.le_trans (by decide) hdq) j15.1 j15.2.1 j15.2.2.1 hNr (t := v3 275 87) rfl (by omega)) (fun r37 w38 h40 => ?_)
                  have p42 := tkS.pos j15.2.2.2.1 (by omega)
                  have p43 := tkS.key j15.2.2.2.1 (by omega)
                  obtain ⟨rfl, q41, q41s, q41t⟩ := h40
                  have u50 : Hid (w38 275 88 = v3 275 88) := Hid.mk (q41 275 88 (mTq_fld (by decide)))
                  have c52 := cSt.tk j15 q41 q41s
                  have t53 := tkS.lin c52.2.2.2.1
                  have f54 : e_fr (mStm (w 275 78) (w 275 79) (w 275 80) (w 275 94)) w w38 := e_fr.trans j14 (e_fr.mono q41 (fun c k g => mTq_St g))
                  refine e_Ok.nrm (q := 86) (st' := []) rfl rfl ?_
                  refine e_Ok.ps3 (x := (1, 275)) (y := (0, 1)) (z := (1, 275)) (q := 89) 3 rfl ?_
                  refine e_Ok.getf (z := v3 275 78) rfl (el_o rfl) rfl (ef_o rfl) (show Hid (w38 275 78 = v3 275 78) from Hid.mk (q41 275 78 (mTq_fld (by decide)))).out (by omega) ?_
                  refine e_Ok.callV rfl (Nat.le_trans (by decide) hdq) rfl rfl rfl rfl (c_338 (Nat.le_trans (by decide) hdq) c52.1 c52.2.1 c52.2.2.1 hNr c52.2.2.2.1 (mm := v3 275 94) (show Hid (w38 275 94 = v3 275 94) from Hid.mk (q41 275 94 (mTq_fld (by decide)))).out (by omega) (by decide) (by omega)) (fun r56 w57 h58 => ?_)
                  obtain ⟨rfl, q59⟩ := h58
                  obtain ⟨rfl, q59z⟩ | ⟨q59z, q59k, q59, q59T, q59H, q59r⟩ | ⟨q59z, q59k, w60, q59F, q59T, q59H, q59v, q59o, q59, q59s, q59t⟩ := q59
                  · rw [u50.out] at q59z; exact absurd q59z (by omega)
                  · refine e_Ok.nrm (q := 95) (st' := []) rfl rfl ?_
                    rw [u50.out] at q59z
                    clear q59k
                    have u61 : Hid (w57 275 78 = v3 275 78) := Hid.mk (Eq.trans (q59 275 78 (mRf_fld (by decide))) (show Hid (w38 275 78 = v3 275 78) from Hid.mk (q41 275 78 (mTq_fld (by decide)))).out)
                    have u62 : Hid (w57 275 79 = v3 275 79) := Hid.mk (Eq.trans (q59 275 79 (mRf_fld (by decide))) (show Hid (w38 275 79 = v3 275 79) from Hid.mk (q41 275 79 (mTq_fld (by decide)))).out)
                    have u63 : Hid (w57 275 80 = v3 275 80) := Hid.mk (Eq.trans (q59 275 80 (mRf_fld (by decide))) (show Hid (w38 275 80 = v3 275 80) from Hid.mk (q41 275 80 (mTq_fld (by decide)))).out)
                    have u64 : Hid (w57 275 81 = w 275 81) := Hid.mk (Eq.trans (q59 275 81 (mRf_fld (by decide))) (show Hid (w38 275 81 = w 275 81) from Hid.mk (Eq.trans (q41 275 81 (mTq_fld (by decide))) u19.out)).out)
                    have u65 : Hid (w57 275 82 = w 275 82) := Hid.mk (Eq.trans (q59 275 82 (mRf_fld (by decide))) (show Hid (w38 275 82 = w 275 82) from Hid.mk (Eq.trans (q41 275 82 (mTq_fld (by decide))) u20.out)).out)
                    have u66 : Hid (w57 275 83 = v3 275 83) := Hid.mk (Eq.trans (q59 275 83 (mRf_fld (by decide))) (show Hid (w38 275 83 = v3 275 83) from Hid.mk (q41 275 83 (mTq_fld (by decide)))).out)
                    have u69 : Hid (w57 275 86 = w38 275 86) := Hid.mk (q59 275 86 (mRf_fld (by decide)))
                    have u71 : Hid (w57 275 94 = v3 275 94) := Hid.mk (Eq.trans (q59 275 94 (mRf_fld (by decide))) (show Hid (w38 275 94 = v3 275 94) from Hid.mk (q41 275 94 (mTq_fld (by decide)))).out)
                    have c72 := cSt.rf c52 q59 q59T q59H
                    have f73 : e_fr (mStm (w 275 78) (w 275 79) (w 275 80) (w 275 94)) w w57 := e_fr.trans f54 (e_fr.mono q59 (fun c k g => mRf_St g))
                    refine e_Ok.run (t' := (99, [(0, (1, 275))], [(0, 58), (1, 275), (1, 275)], w57)) 3 rfl ?_
                    refine e_Ok.callV rfl (Nat.le_trans (by decide) hdq) rfl rfl rfl rfl (c_331 c72.1 (N := N) c72.2.2.2.1) (fun r74 w75 h76 => ?_)
                    obtain ⟨z77, rfl, rfl, q78⟩ := h76
                    obtain ⟨rfl, q78, q78b⟩ | ⟨rfl, q78n⟩ := q78
                    · refine e_Ok.nrm (q := 102) (st' := [(0, 1), (1, 275)]) rfl rfl ?_
                      rw [(show Hid (w57 275 84 = w38 275 84) from Hid.mk (q59 275 84 (mRf_fld (by decide)))).out] at q78
                      rw [(show Hid (w57 275 85 = w38 275 85) from Hid.mk (q59 275 85 (mRf_fld (by decide)))).out] at q78b
                      refine e_Ok.callV rfl (Nat.le_trans (by decide) hdq) rfl rfl rfl rfl (c_334 (Nat.le_trans (by decide) hdq) c72.1 c72.2.1 c72.2.2.1 hNr c72.2.2.2.1 (by decide)) (fun r79 w80 h81 => ?_)
                      obtain ⟨rfl, q82⟩ := h81
                      obtain ⟨rfl, q82z⟩ | ⟨q82z, q82b, q82, q82s, q82t⟩ | ⟨q82z, q82b, q82, q82T, q82H, q82r⟩ := q82
                      · show e_Ok 20 elay ecode eI (d + 1) 353 (105, [(0, (1, 275))], [], w57) _
                        refine e_Ok.ps1 (x := (1, 275)) (q := 106) 1 rfl ?_
                        refine e_Ok.callV rfl (Nat.le_trans (by decide) hdq) rfl rfl rfl rfl (c_348_0 (Nat.le_trans (by decide) hdq) c72 (by omega)) (fun r83 w84 h85 => ?_)
                        obtain ⟨rfl, rfl⟩ := h85
                        refine e_Ok.nrm (q := 109) (st' := []) rfl rfl ?_
                        refine e_Ok.ps3 (x := (0, 2)) (y := (1, 275)) (z := (1, 275)) (q := 112) 3 rfl ?_
                        refine e_Ok.callV rfl (Nat.le_trans (by decide) hdq) rfl rfl rfl rfl (c_332 c72.1 (N := N) c72.2.2.2.1) (fun r86 w87 h88 => ?_)
                        obtain ⟨z89, rfl, rfl, q90⟩ := h88
                        obtain ⟨rfl, q90, q90b⟩ | ⟨rfl, q90n⟩ := q90
                        · refine e_Ok.nrm (q := 115) (st' := [(0, 1), (1, 275)]) rfl rfl ?_
                          rw [(show Hid (w57 275 84 = w38 275 84) from Hid.mk (q59 275 84 (mRf_fld (by decide)))).out] at q90
                          rw [(show Hid (w57 275 85 = w38 275 85) from Hid.mk (q59 275 85 (mRf_fld (by decide)))).out] at q90b
                          refine e_Ok.callV rfl (Nat.le_trans (by decide) hdq) rfl rfl rfl rfl (c_334 (Nat.le_trans (by decide) hdq) c72.1 c72.2.1 c72.2.2.1 hNr c72.2.2.2.1 (by decide)) (fun r91 w92 h93 => ?_)
                          obtain ⟨rfl, q94⟩ := h93
                          obtain ⟨rfl, q94z⟩ | ⟨q94z, q94b, q94, q94s, q94t⟩ | ⟨q94z, q94b, q94, q94T, q94H, q94r⟩ := q94
                          · show e_Ok 20 elay ecode eI (d + 1) 353 (118, [(0, (1, 275))], [], w57) _
                            refine e_Ok.ps3 (x := (0, 0)) (y := (0, 45)) (z := (1, 275)) (q := 122) 3 rfl ?_
                            refine e_Ok.callV rfl (Nat.le_trans (by decide) hdq) rfl rfl rfl rfl (c_336 c72.1 (n := v3 275 78) u61.out (by omega) (s := w 275 81) u64.out (by omega)) (fun r95 w101 h103 => ?_)
                            obtain ⟨rfl, q104⟩ := h103
                            replace q104 := (show Hid (EM w57 w101 (v3 275 78) 45 (0) (w 275 81)) from q104)
                            have u115 : Hid (w101 275 88 = w57 275 88) := Hid.mk (q104.out.fld (by decide))
                            refine e_Ok.nrm (q := 125) (st' := [(0, v3 275 78)]) rfl rfl ?_
                            refine e_Ok.run (t' := (67, [(0, (1, 275))], [], w101)) 2 rfl ?_
                            refine e_Ok.sub eAlk (e_sub_of rfl ?_) (ih13  w101 ⟨(show e_fr (mStm (w 275 78) (w 275 79) (w 275 80) (w 275 94)) w w101 from e_fr.trans f73 (q104.out.st (by omega))), (cSt.em c72 q104.out (by decide) (by omega) (by omega)), (by unfold stL; rw [(show Hid (w101 275 78 = v3 275 78 + 1) from Hid.mk (Eq.trans q104.out.2.2.2.2 (by omega))).out, (show Hid (w101 275 79 = v3 275 79) from Hid.mk (Eq.trans (q104.out.fld (by decide)) u62.out)).out, (show Hid (w101 275 80 = v3 275 80) from Hid.mk (Eq.trans (q104.out.fld (by decide)) u63.out)).out, (show Hid (w101 275 81 = w 275 81) from Hid.mk (Eq.trans (q104.out.fld (by decide)) u64.out)).out, (show Hid (w101 275 82 = w 275 82) from Hid.mk (Eq.trans (q104.out.fld (by decide)) u65.out)).out, (show Hid (w101 275 83 = v3 275 83) from Hid.mk (Eq.trans (q104.out.fld (by decide)) u66.out)).out, (show Hid (w101 275 86 = w38 275 86) from Hid.mk (Eq.trans (q104.out.fld (by decide)) u69.out)).out, u115.out, (show Hid (w101 275 94 = v3 275 94) from Hid.mk (Eq.trans (q104.out.fld (by decide)) u71.out)).out]; omega), (Hid.mk (fun z => by rw [u115.out] at z; exact absurd z (by omega))), (by rw [(show Hid (w101 275 86 = w38 275 86) from Hid.mk (Eq.trans (q104.out.fld (by decide)) u69.out)).out, u115.out] <;> omega)⟩ ((by rw [(show Hid (w101 275 86 = w38 275 86) from Hid.mk (Eq.trans (q104.out.fld (by decide)) u69.out)).out, u115.out] <;> omega)))
                            exact ⟨rfl, trivial⟩
                          · exact absurd q94z (by omega)
                          · exact absurd q94z (by omega)
                        · refine e_Ok.nrm (q := 115) (st' := [(0, 0), (1, 275)]) rfl rfl ?_
                          clear q90n
                          refine e_Ok.callV rfl (Nat.le_trans (by decide) hdq) rfl rfl rfl rfl (c_334 (Nat.le_trans (by decide) hdq) c72.1 c72.2.1 c72.2.2.1 hNr c72.2.2.2.1 (by decide)) (fun r119 w120 h121 => ?_)
                          obtain ⟨rfl, q122⟩ := h121
                          obtain ⟨rfl, q122z⟩ | ⟨q122z, q122b, q122, q122s, q122t⟩ | ⟨q122z, q122b, q122, q122T, q122H, q122r⟩ := q122
                          · refine e_Ok.nrm (q := 118) (st' := []) rfl rfl ?_
                            refine e_Ok.ps3 (x := (0, 0)) (y := (0, 45)) (z := (1, 275)) (q := 122) 3 rfl ?_
                            refine e_Ok.callV rfl (Nat.le_trans (by decide) hdq) rfl rfl rfl rfl (c_336 c72.1 (n := v3 275 78) u61.out (by omega) (s := w 275 81) u64.out (by omega)) (fun r123 w124 h125 => ?_)
                            obtain ⟨rfl, q126⟩ := h125
                            replace q126 := (show Hid (EM w57 w124 (v3 275 78) 45 (0) (w 275 81)) from q126)
                            have u137 : Hid (w124 275 88 = w57 275 88) := Hid.mk (q126.out.fld (by decide))
                            refine e_Ok.nrm (q := 125) (st' := [(0, v3 275 78)]) rfl rfl ?_
                            refine e_Ok.run (t' := (67, [(0, (1, 275))], [], w124)) 2 rfl ?_
                            refine e_Ok.sub eAlk (e_sub_of rfl ?_) (ih13  w124 ⟨(show e_fr (mStm (w 275 78) (w 275 79) (w 275 80) (w 275 94)) w w124 from e_fr.trans f73 (q126.out.st (by omega))), (cSt.em c72 q126.out (by decide) (by omega) (by omega)), (by unfold stL; rw [(show Hid (w124 275 78 = v3 275 78 + 1) from Hid.mk (Eq.trans q126.out.2.2.2.2 (by omega))).out, (show Hid (w124 275 79 = v3 275 79) from Hid.mk (Eq.trans (q126.out.fld (by decide)) u62.out)).out, (show Hid (w124 275 80 = v3 275 80) from Hid.mk (Eq.trans (q126.out.fld (by decide)) u63.out)).out, (show Hid (w124 275 81 = w 275 81) from Hid.mk (Eq.trans (q126.out.fld (by decide)) u64.out)).out, (show Hid (w124 275 82 = w 275 82) from Hid.mk (Eq.trans (q126.out.fld (by decide)) u65.out)).out, (show Hid (w124 275 83 = v3 275 83) from Hid.mk (Eq.trans (q126.out.fld (by decide)) u66.out)).out, (show Hid (w124 275 86 = w38 275 86) from Hid.mk (Eq.trans (q126.out.fld (by decide)) u69.out)).out, u137.out, (show Hid (w124 275 94 = v3 275 94) from Hid.mk (Eq.trans (q126.out.fld (by decide)) u71.out)).out]; omega), (Hid.mk (fun z => by rw [u137.out] at z; exact absurd z (by omega))), (by rw [(show Hid (w124 275 86 = w38 275 86) from Hid.mk (Eq.trans (q126.out.fld (by decide)) u69.out)).out, u137.out] <;> omega)⟩ ((by rw [(show Hid (w124 275 86 = w38 275 86) from Hid.mk (Eq.trans (q126.out.fld (by decide)) u69.out)).out, u137.out] <;> omega)))
                            exact ⟨rfl, trivial⟩
                          · exact absurd q122z (by omega)
                          · exact absurd q122z (by omega)
                      · exact absurd q82z (by omega)
                      · exact absurd q82z (by omega)
                    · refine e_Ok.nrm (q := 102) (st' := [(0, 0), (1, 275)]) rfl rfl ?_
                      clear q78n
                      refine e_Ok.callV rfl (Nat.le_trans (by decide) hdq) rfl rfl rfl rfl (c_334 (Nat.le_trans (by decide) hdq) c72.1 c72.2.1 c72.2.2.1 hNr c72.2.2.2.1 (by decide)) (fun r141 w142 h143 => ?_)
                      obtain ⟨rfl, q144⟩ := h143
                      obtain ⟨rfl, q144z⟩ | ⟨q144z, q144b, q144, q144s, q144t⟩ | ⟨q144z, q144b, q144, q144T, q144H, q144r⟩ := q144
                      · refine e_Ok.nrm (q := 105) (st' := []) rfl rfl ?_
                        refine e_Ok.ps1 (x := (1, 275)) (q := 106) 1 rfl ?_
                        refine e_Ok.callV rfl (Nat.le_trans (by decide) hdq) rfl rfl rfl rfl (c_348_0 (Nat.le_trans (by decide) hdq) c72 (by omega)) (fun r145 w146 h147 => ?_)
                        obtain ⟨rfl, rfl⟩ := h147
                        refine e_Ok.nrm (q := 109) (st' := []) rfl rfl ?_
                        refine e_Ok.ps3 (x := (0, 2)) (y := (1, 275)) (z := (1, 275)) (q := 112) 3 rfl ?_
                        refine e_Ok.callV rfl (Nat.le_trans (by decide) hdq) rfl rfl rfl rfl (c_332 c72.1 (N := N) c72.2.2.2.1) (fun r148 w149 h150 => ?_)
                        obtain ⟨z151, rfl, rfl, q152⟩ := h150
                        obtain ⟨rfl, q152, q152b⟩ | ⟨rfl, q152n⟩ := q152
                        · refine e_Ok.nrm (q := 115) (st' := [(0, 1), (1, 275)]) rfl rfl ?_
                          rw [(show Hid (w57 275 84 = w38 275 84) from Hid.mk (q59 275 84 (mRf_fld (by decide)))).out] at q152
                          rw [(show Hid (w57 275 85 = w38 275 85) from Hid.mk (q59 275 85 (mRf_fld (by decide)))).out] at q152b
                          refine e_Ok.callV rfl (Nat.le_trans (by decide) hdq) rfl rfl rfl rfl (c_334 (Nat.le_trans (by decide) hdq) c72.1 c72.2.1 c72.2.2.1 hNr c72.2.2.2.1 (by decide)) (fun r153 w154 h155 => ?_)
                          obtain ⟨rfl, q156⟩ := h155
                          obtain ⟨rfl, q156z⟩ | ⟨q156z, q156b, q156, q156s, q156t⟩ | ⟨q156z, q156b, q156, q156T, q156H, q156r⟩ := q156
                          · show e_Ok 20 elay ecode eI (d + 1) 353 (118, [(0, (1, 275))], [], w57) _
                            refine e_Ok.ps3 (x := (0, 0)) (y := (0, 45)) (z := (1, 275)) (q := 122) 3 rfl ?_
                            refine e_Ok.callV rfl (Nat.le_trans (by decide) hdq) rfl rfl rfl rfl (c_336 c72.1 (n := v3 275 78) u61.out (by omega) (s := w 275 81) u64.out (by omega)) (fun r157 w158 h159 => ?_)
                            obtain ⟨rfl, q160⟩ := h159
                            replace q160 := (show Hid (EM w57 w158 (v3 275 78) 45 (0) (w 275 81)) from q160)
                            have u171 : Hid (w158 275 88 = w57 275 88) := Hid.mk (q160.out.fld (by decide))
                            refine e_Ok.nrm (q := 125) (st' := [(0, v3 275 78)]) rfl rfl ?_
                            refine e_Ok.run (t' := (67, [(0, (1, 275))], [], w158)) 2 rfl ?_
                            refine e_Ok.sub eAlk (e_sub_of rfl ?_) (ih13  w158 ⟨(show e_fr (mStm (w 275 78) (w 275 79) (w 275 80) (w 275 94)) w w158 from e_fr.trans f73 (q160.out.st (by omega))), (cSt.em c72 q160.out (by decide) (by omega) (by omega)), (by unfold stL; rw [(show Hid (w158 275 78 = v3 275 78 + 1) from Hid.mk (Eq.trans q160.out.2.2.2.2 (by omega))).out, (show Hid (w158 275 79 = v3 275 79) from Hid.mk (Eq.trans (q160.out.fld (by decide)) u62.out)).out, (show Hid (w158 275 80 = v3 275 80) from Hid.mk (Eq.trans (q160.out.fld (by decide)) u63.out)).out, (show Hid (w158 275 81 = w 275 81) from Hid.mk (Eq.trans (q160.out.fld (by decide)) u64.out)).out, (show Hid (w158 275 82 = w 275 82) from Hid.mk (Eq.trans (q160.out.fld (by decide)) u65.out)).out, (show Hid (w158 275 83 = v3 275 83) from Hid.mk (Eq.trans (q160.out.fld (by decide)) u66.out)).out, (show Hid (w158 275 86 = w38 275 86) from Hid.mk (Eq.trans (q160.out.fld (by decide)) u69.out)).out, u171.out, (show Hid (w158 275 94 = v3 275 94) from Hid.mk (Eq.trans (q160.out.fld (by decide)) u71.out)).out]; omega), (Hid.mk (fun z => by rw [u171.out] at z; exact absurd z (by omega))), (by rw [(show Hid (w158 275 86 = w38 275 86) from Hid.mk (Eq.trans (q160.out.fld (by decide)) u69.out)).out, u171.out] <;> omega)⟩ ((by rw [(show Hid (w158 275 86 = w38 275 86) from Hid.mk (Eq.trans (q160.out.fld (by decide)) u69.out)).out, u171.out] <;> omega)))
                            exact ⟨rfl, trivial⟩
                          · exact absurd q156z (by omega)
                          · exact absurd q156z (by omega)
                        · refine e_Ok.nrm (q := 115) (st' := [(0, 0), (1, 275)]) rfl rfl ?_
                          clear q152n
                          refine e_Ok.callV rfl (Nat.le_trans (by decide) hdq) rfl rfl rfl rfl (c_334 (Nat.le_trans (by decide) hdq) c72.1 c72.2.1 c72.2.2.1 hNr c72.2.2.2.1 (by decide)) (fun r175 w176 h177 => ?_)
                          obtain ⟨rfl, q178⟩ := h177
                          obtain ⟨rfl, q178z⟩ | ⟨q178z, q178b, q178, q178s, q178t⟩ | ⟨q178z, q178b, q178, q178T, q178H, q178r⟩ := q178
                          · refine e_Ok.nrm (q := 118) (st' := []) rfl rfl ?_
                            refine e_Ok.ps3 (x := (0, 0)) (y := (0, 45)) (z := (1, 275)) (q := 122) 3 rfl ?_
                            refine e_Ok.callV rfl (Nat.le_trans (by decide) hdq) rfl rfl rfl rfl (c_336 c72.1 (n := v3 275 78) u61.out (by omega) (s := w 275 81) u64.out (by omega)) (fun r179 w180 h181 => ?_)
                            obtain ⟨rfl, q182⟩ := h181
                            replace q182 := (show Hid (EM w57 w180 (v3 275 78) 45 (0) (w 275 81)) from q182)
                            have u193 : Hid (w180 275 88 = w57 275 88) := Hid.mk (q182.out.fld (by decide))
                            refine e_Ok.nrm (q := 125) (st' := [(0, v3 275 78)]) rfl rfl ?_
                            refine e_Ok.run (t' := (67, [(0, (1, 275))], [], w180)) 2 rfl ?_
                            refine e_Ok.sub eAlk (e_sub_of rfl ?_) (ih13  w180 ⟨(show e_fr (mStm (w 275 78) (w 275 79) (w 275 80) (w 275 94)) w w180 from e_fr.trans f73 (q182.out.st (by omega))), (cSt.em c72 q182.out (by decide) (by omega) (by omega)), (by unfold stL; rw [(show Hid (w180 275 78 = v3 275 78 + 1) from Hid.mk (Eq.trans q182.out.2.2.2.2 (by omega))).out, (show Hid (w180 275 79 = v3 275 79) from Hid.mk (Eq.trans (q182.out.fld (by decide)) u62.out)).out, (show Hid (w180 275 80 = v3 275 80) from Hid.mk (Eq.trans (q182.out.fld (by decide)) u63.out)).out, (show Hid (w180 275 81 = w 275 81) from Hid.mk (Eq.trans (q182.out.fld (by decide)) u64.out)).out, (show Hid (w180 275 82 = w 275 82) from Hid.mk (Eq.trans (q182.out.fld (by decide)) u65.out)).out, (show Hid (w180 275 83 = v3 275 83) from Hid.mk (Eq.trans (q182.out.fld (by decide)) u66.out)).out, (show Hid (w180 275 86 = w38 275 86) from Hid.mk (Eq.trans (q182.out.fld (by decide)) u69.out)).out, u193.out, (show Hid (w180 275 94 = v3 275 94) from Hid.mk (Eq.trans (q182.out.fld (by decide)) u71.out)).out]; omega), (Hid.mk (fun z => by rw [u193.out] at z; exact absurd z (by omega))), (by rw [(show Hid (w180 275 86 = w38 275 86) from Hid.mk (Eq.trans (q182.out.fld (by decide)) u69.out)).out, u193.out] <;> omega)⟩ ((by rw [(show Hid (w180 275 86 = w38 275 86) from Hid.mk (Eq.trans (q182.out.fld (by decide)) u69.out)).out, u193.out] <;> omega)))
                            exact ⟨rfl, trivial⟩
                          · exact absurd q178z (by omega)
                          · exact absurd q178z (by omega)
                      · exact absurd q144z (by omega)
                      · exact absurd q144z (by omega)
                  · refine e_Ok.nrm (q := 95) (st' := []) rfl rfl ?_
                    rw [u50.out] at q59z
                    have p197 := tkS.pos c52.2.2.2.1 (by omega)
                    obtain ⟨q59v1, q59v2, q59v3, q59v4, q59v5⟩ := q59v
                    replace q59v1 := (show Hid _ from q59v1)
                    replace q59v2 := (show Hid _ from q59v2)
                    replace q59v3 := (show Hid _ from q59v3)
                    replace q59v4 := (show Hid _ from q59v4)
                    replace q59v5 := (show Hid _ from q59v5)
                    replace q59o := (show Hid _ from q59o)
                    have u221 : Hid (w57 275 88 = v3 275 88) := Hid.mk (Eq.trans (q59 275 88 (mTq_fld (by decide))) (show Hid (w60 275 88 = v3 275 88) from Hid.mk (Eq.trans (q59F 275 88 (mNm_fld (by decide))) u50.out)).out)
                    have c223 := cSt.tk (cSt.nm c52 q59F) q59 q59s
                    have t224 := tkS.lin c223.2.2.2.1
                    have f225 : e_fr (mStm (w 275 78) (w 275 79) (w 275 80) (w 275 94)) w w57 := e_fr.trans (show e_fr (mStm (w 275 78) (w 275 79) (w 275 80) (w 275 94)) w w60 from e_fr.trans f54 (fun c k g => q59o.out c k (fun g2 => g (by unfold mStm; omega)))) (e_fr.mono q59 (fun c k g => mTq_St g))
                    refine e_Ok.run (t' := (99, [(0, (1, 275))], [(0, 58), (1, 275), (1, 275)], w57)) 3 rfl ?_
                    refine e_Ok.callV rfl (Nat.le_trans (by decide) hdq) rfl rfl rfl rfl (c_331 c223.1 (N := N) c223.2.2.2.1) (fun r229 w230 h231 => ?_)
                    obtain ⟨z232, rfl, rfl, q233⟩ := h231
                    obtain ⟨rfl, q233, q233b⟩ | ⟨rfl, q233n⟩ := q233
                    · refine e_Ok.nrm (q := 102) (st' := [(0, 1), (1, 275)]) rfl rfl ?_
                      refine e_Ok.callV rfl (Nat.le_trans (by decide) hdq) rfl rfl rfl rfl (c_334 (Nat.le_trans (by decide) hdq) c223.1 c223.2.1 c223.2.2.1 hNr c223.2.2.2.1 (by decide)) (fun r234 w235 h236 => ?_)
                      obtain ⟨rfl, q237⟩ := h236
                      obtain ⟨rfl, q237z⟩ | ⟨q237z, q237b, q237, q237s, q237t⟩ | ⟨q237z, q237b, q237, q237T, q237H, q237r⟩ := q237
                      · rw [u221.out] at q237z; exact absurd q237z (by omega)
                      · refine e_Ok.nrm (q := 105) (st' := []) rfl rfl ?_
                        rw [u221.out] at q237z
                        have p238 := tkS.pos c223.2.2.2.1 (by omega)
                        have u239 : Hid (w235 275 78 = v3 275 78) := Hid.mk (Eq.trans (q237 275 78 (mTq_fld (by decide))) (show Hid (w57 275 78 = v3 275 78) from Hid.mk (Eq.trans (q59 275 78 (mTq_fld (by decide))) (show Hid (w60 275 78 = v3 275 78) from Hid.mk (Eq.trans (q59F 275 78 (mNm_fld (by decide))) (show Hid (w38 275 78 = v3 275 78) from Hid.mk (q41 275 78 (mTq_fld (by decide)))).out)).out)).out)
                        have u240 : Hid (w235 275 79 = v3 275 79) := Hid.mk (Eq.trans (q237 275 79 (mTq_fld (by decide))) (show Hid (w57 275 79 = v3 275 79) from Hid.mk (Eq.trans (q59 275 79 (mTq_fld (by decide))) (show Hid (w60 275 79 = v3 275 79) from Hid.mk (Eq.trans (q59F 275 79 (mNm_fld (by decide))) (show Hid (w38 275 79 = v3 275 79) from Hid.mk (q41 275 79 (mTq_fld (by decide)))).out)).out)).out)
                        have u241 : Hid (w235 275 80 = v3 275 80) := Hid.mk (Eq.trans (q237 275 80 (mTq_fld (by decide))) (show Hid (w57 275 80 = v3 275 80) from Hid.mk (Eq.trans (q59 275 80 (mTq_fld (by decide))) (show Hid (w60 275 80 = v3 275 80) from Hid.mk (Eq.trans (q59F 275 80 (mNm_fld (by decide))) (show Hid (w38 275 80 = v3 275 80) from Hid.mk (q41 275 80 (mTq_fld (by decide)))).out)).out)).out)
                        have u244 : Hid (w235 275 83 = v3 275 83) := Hid.mk (Eq.trans (q237 275 83 (mTq_fld (by decide))) (show Hid (w57 275 83 = v3 275 83) from Hid.mk (Eq.trans (q59 275 83 (mTq_fld (by decide))) (show Hid (w60 275 83 = v3 275 83) from Hid.mk (Eq.trans (q59F 275 83 (mNm_fld (by decide))) (show Hid (w38 275 83 = v3 275 83) from Hid.mk (q41 275 83 (mTq_fld (by decide)))).out)).out)).out)
                        have u246 : Hid (w235 275 94 = v3 275 94 + 1) := Hid.mk (Eq.trans (q237 275 94 (mTq_fld (by decide))) (show Hid (w57 275 94 = v3 275 94 + 1) from Hid.mk (Eq.trans (q59 275 94 (mTq_fld (by decide))) (show Hid (w60 275 94 = v3 275 94 + 1) from Hid.mk (Eq.trans q59v5.out (by omega))).out)).out)
                        have c247 := cSt.tk c223 q237 q237s
                        have t248 := tkS.lin c247.2.2.2.1
                        refine e_Ok.run (t' := (106, [(0, (1, 275))], [(1, 275)], w235)) 1 rfl ?_
                        refine e_Ok.callV rfl (Nat.le_trans (by decide) hdq) rfl rfl rfl rfl ((c_stats (o := 0) (Nat.le_trans (by decide) hdq) (by decide)) w235 N 0 (fun _ => False) (fun _ => False) c247 hNr (by rw [(show Hid (w235 275 88 = v3 275 88) from Hid.mk (Eq.trans (q237 275 88 (mTq_fld (by decide))) u221.out)).out] <;> omega) (Eq.trans u244.out (show _ = 0 from by omega)) (Or.inl (by rw [(show Hid (w235 275 82 = w 275 82) from Hid.mk (Eq.trans (q237 275 82 (mTq_fld (by decide))) (show Hid (w57 275 82 = w 275 82) from Hid.mk (Eq.trans (q59 275 82 (mTq_fld (by decide))) (show Hid (w60 275 82 = w 275 82) from Hid.mk (Eq.trans (q59F 275 82 (mNm_fld (by decide))) (show Hid (w38 275 82 = w 275 82) from Hid.mk (Eq.trans (q41 275 82 (mTq_fld (by decide))) u20.out)).out)).out)).out)).out] <;> omega)) (by unfold stB; rw [u239.out, u246.out, u240.out, u241.out]; omega) (by omega) (by rw [u239.out, u246.out, u240.out, u241.out, (show Hid (w235 275 81 = w 275 81) from Hid.mk (Eq.trans (q237 275 81 (mTq_fld (by decide))) (show Hid (w57 275 81 = w 275 81) from Hid.mk (Eq.trans (q59 275 81 (mTq_fld (by decide))) (show Hid (w60 275 81 = w 275 81) from Hid.mk (Eq.trans (q59F 275 81 (mNm_fld (by decide))) (show Hid (w38 275 81 = w 275 81) from Hid.mk (Eq.trans (q41 275 81 (mTq_fld (by decide))) u19.out)).out)).out)).out)).out] <;> exact ((show Hid (v3 275 88 = 0 → GB w235 N (v3 275 78) (v3 275 94 + 1) (v3 275 79) (v3 275 80) (fun _ => False) (w 275 81) (fun _ => False) 0) from Hid.mk (fun z => GB.pr ((show Hid (v3 275 88 = 0 → GB w57 N (v3 275 78) (v3 275 94 + 1) (v3 275 79) (v3 275 80) (fun _ => False) (w 275 81) (fun _ => False) 0) from Hid.mk (fun z => GB.pr ((show Hid (v3 275 88 = 0 → GB w60 N (v3 275 78) (v3 275 94 + 1) (v3 275 79) (v3 275 80) (fun _ => False) (w 275 81) (fun _ => False) 0) from Hid.mk (fun z => (GB.note (GX.gb ((show Hid (v3 275 88 = 0 → GX w38 N (v3 275 78) (v3 275 94) (v3 275 79) (v3 275 80) (fun _ => False) (w 275 81) (fun _ => False) 0) from Hid.mk (fun z => GX.pr (j17.out z) (prE.tk q41))).out (by omega))) q59o.out (by unfold nmO; rw [q59v1.out, q59v2.out, q59v3.out, q59v4.out]; exact ⟨by omega, by omega, fun _ => by omega⟩) (Or.inr ⟨q59v1.out, Eq.trans q59v4.out (by omega), by omega⟩)))).out z) (prE.tk q59))).out z) (prE.tk q237))).out (by omega)))) (fun r253 w254 h255 => ?_)
                        obtain ⟨rfl, q256F, q256c, q256l, q256w⟩ := h255
                        unfold stL at q256l
                        obtain ⟨q2561, q2562, q2563, q2564, q2565, q2566, q2567, q2568, q2569, q25610, q25611, q25612⟩ := q256l
                        replace q2569 := (show Hid _ from q2569)
                        replace q25610 := (show Hid _ from q25610)
                        replace q256F := (show Hid _ from q256F)
                        rw [u239.out] at q2562
                        rw [u239.out, u244.out, u240.out, u241.out] at q2563
                        rw [u239.out] at q2564
                        rw [u246.out] at q2565
                        rw [u246.out] at q2566
                        rw [u244.out] at q2567
                        rw [u244.out] at q2568
                        rw [u240.out] at q25611
                        rw [u241.out] at q25612
                        replace q256w := (show Hid _ from q256w)
                        have u258 : Hid (w254 275 81 = w 275 81) := Hid.mk (Eq.trans (q2569.out) (show Hid (w235 275 81 = w 275 81) from Hid.mk (Eq.trans (q237 275 81 (mTq_fld (by decide))) (show Hid (w57 275 81 = w 275 81) from Hid.mk (Eq.trans (q59 275 81 (mTq_fld (by decide))) (show Hid (w60 275 81 = w 275 81) from Hid.mk (Eq.trans (q59F 275 81 (mNm_fld (by decide))) (show Hid (w38 275 81 = w 275 81) from Hid.mk (Eq.trans (q41 275 81 (mTq_fld (by decide))) u19.out)).out)).out)).out)).out)
                        have u259 : Hid (w254 275 82 = w 275 82) := Hid.mk (Eq.trans (q25610.out) (show Hid (w235 275 82 = w 275 82) from Hid.mk (Eq.trans (q237 275 82 (mTq_fld (by decide))) (show Hid (w57 275 82 = w 275 82) from Hid.mk (Eq.trans (q59 275 82 (mTq_fld (by decide))) (show Hid (w60 275 82 = w 275 82) from Hid.mk (Eq.trans (q59F 275 82 (mNm_fld (by decide))) (show Hid (w38 275 82 = w 275 82) from Hid.mk (Eq.trans (q41 275 82 (mTq_fld (by decide))) u20.out)).out)).out)).out)).out)
                        have t260 := tkS.lin q256c.2.2.2.1
                        have t261 := e_Has.get q256c.2.1 (c := 275) (k := 88) (lo := 0) (hi := 7) rfl (by decide)
                        have f262 : e_fr (mStm (w 275 78) (w 275 79) (w 275 80) (w 275 94)) w w254 := e_fr.trans (show e_fr (mStm (w 275 78) (w 275 79) (w 275 80) (w 275 94)) w w235 from e_fr.trans f225 (e_fr.mono q237 (fun c k g => mTq_St g))) (e_fr.mono (show Hid (e_fr (mStm (v3 275 78) (v3 275 79) (v3 275 80) (v3 275 94 + 1)) w235 w254) from Hid.mk (by have y := q256F.out; rw [u239.out, u240.out, u241.out, u246.out] at y; exact y)).out (fun c k g => mSt_St (by omega) (by omega) (by omega) (by omega) g))
                        show e_Ok 20 elay ecode eI (d + 1) 353 (109, [(0, (1, 275))], [], w254) _
                        refine e_Ok.ps3 (x := (0, 2)) (y := (1, 275)) (z := (1, 275)) (q := 112) 3 rfl ?_
                        refine e_Ok.callV rfl (Nat.le_trans (by decide) hdq) rfl rfl rfl rfl (c_332 q256c.1 (N := N) q256c.2.2.2.1) (fun r266 w267 h268 => ?_)
                        obtain ⟨z269, rfl, rfl, q270⟩ := h268
                        obtain ⟨rfl, q270, q270b⟩ | ⟨rfl, q270n⟩ := q270
                        · refine e_Ok.nrm (q := 115) (st' := [(0, 1), (1, 275)]) rfl rfl ?_
                          refine e_Ok.callV rfl (Nat.le_trans (by decide) hdq) rfl rfl rfl rfl (c_334 (Nat.le_trans (by decide) hdq) q256c.1 q256c.2.1 q256c.2.2.1 hNr q256c.2.2.2.1 (by decide)) (fun r271 w272 h273 => ?_)
                          obtain ⟨rfl, q274⟩ := h273
                          obtain ⟨rfl, q274z⟩ | ⟨q274z, q274b, q274, q274s, q274t⟩ | ⟨q274z, q274b, q274, q274T, q274H, q274r⟩ := q274
                          · refine e_Ok.nrm (q := 118) (st' := []) rfl rfl ?_
                            clear q2563
                            refine e_Ok.ps3 (x := (0, 0)) (y := (0, 45)) (z := (1, 275)) (q := 122) 3 rfl ?_
                            refine e_Ok.callV rfl (Nat.le_trans (by decide) hdq) rfl rfl rfl rfl (c_336 q256c.1 (n := w254 275 78) rfl (by omega) (s := w 275 81) u258.out (by omega)) (fun r275 w276 h277 => ?_)
                            obtain ⟨rfl, q278⟩ := h277
                            replace q278 := (show Hid (EM w254 w276 (w254 275 78) 45 (0) (w 275 81)) from q278)
                            have u289 : Hid (w276 275 88 = w254 275 88) := Hid.mk (q278.out.fld (by decide))
                            refine e_Ok.nrm (q := 125) (st' := [(0, w254 275 78)]) rfl rfl ?_
                            refine e_Ok.run (t' := (67, [(0, (1, 275))], [], w276)) 2 rfl ?_
                            refine e_Ok.sub eAlk (e_sub_of rfl ?_) (ih13  w276 ⟨(show e_fr (mStm (w 275 78) (w 275 79) (w 275 80) (w 275 94)) w w276 from e_fr.trans f262 (q278.out.st (by omega))), (cSt.em q256c q278.out (by decide) (by omega) (by omega)), (by unfold stL; rw [(show Hid (w276 275 78 = w254 275 78 + 1) from Hid.mk (Eq.trans q278.out.2.2.2.2 (by omega))).out, (show Hid (w276 275 79 = w254 275 79) from Hid.mk (q278.out.fld (by decide))).out, (show Hid (w276 275 80 = w254 275 80) from Hid.mk (q278.out.fld (by decide))).out, (show Hid (w276 275 81 = w 275 81) from Hid.mk (Eq.trans (q278.out.fld (by decide)) u258.out)).out, (show Hid (w276 275 82 = w 275 82) from Hid.mk (Eq.trans (q278.out.fld (by decide)) u259.out)).out, (show Hid (w276 275 83 = w254 275 83) from Hid.mk (q278.out.fld (by decide))).out, (show Hid (w276 275 86 = w254 275 86) from Hid.mk (q278.out.fld (by decide))).out, u289.out, (show Hid (w276 275 94 = w254 275 94) from Hid.mk (q278.out.fld (by decide))).out]; omega), (Hid.mk (fun z => by rw [u289.out] at z; exact absurd z (by omega))), (by rw [(show Hid (w276 275 86 = w254 275 86) from Hid.mk (q278.out.fld (by decide))).out, u289.out] <;> omega)⟩ ((by rw [(show Hid (w276 275 86 = w254 275 86) from Hid.mk (q278.out.fld (by decide))).out, u289.out] <;> omega)))
                            exact ⟨rfl, trivial⟩
                          · refine e_Ok.nrm (q := 118) (st' := []) rfl rfl ?_
                            replace q2563 := q2563 (by omega)
                            have p293 := tkS.pos q256c.2.2.2.1 (by omega)
                            have p294 := tkS.key q256c.2.2.2.1 (by omega)
                            have c303 := cSt.tk q256c q274 q274s
                            have t304 := tkS.lin c303.2.2.2.1
                            refine e_Ok.ps3 (x := (0, 0)) (y := (0, 45)) (z := (1, 275)) (q := 122) 3 rfl ?_
                            refine e_Ok.callV rfl (Nat.le_trans (by decide) hdq) rfl rfl rfl rfl (c_336 c303.1 (n := w254 275 78) (show Hid (w272 275 78 = w254 275 78) from Hid.mk (q274 275 78 (mTq_fld (by decide)))).out (by omega) (s := w 275 81) (show Hid (w272 275 81 = w 275 81) from Hid.mk (Eq.trans (q274 275 81 (mTq_fld (by decide))) u258.out)).out (by omega)) (fun r309 w310 h311 => ?_)
                            obtain ⟨rfl, q312⟩ := h311
                            replace q312 := (show Hid (EM w272 w310 (w254 275 78) 45 (0) (w 275 81)) from q312)
                            have u313 : Hid (w310 275 78 = w254 275 78 + 1) := Hid.mk (Eq.trans q312.out.2.2.2.2 (by omega))
                            have u323 : Hid (w310 275 88 = w254 275 88) := Hid.mk (Eq.trans (q312.out.fld (by decide)) (show Hid (w272 275 88 = w254 275 88) from Hid.mk (q274 275 88 (mTq_fld (by decide)))).out)
                            refine e_Ok.nrm (q := 125) (st' := [(0, w254 275 78)]) rfl rfl ?_
                            refine e_Ok.run (t' := (67, [(0, (1, 275))], [], w310)) 2 rfl ?_
                            refine e_Ok.sub eAlk (e_sub_of rfl ?_) (ih13  w310 ⟨(show e_fr (mStm (w 275 78) (w 275 79) (w 275 80) (w 275 94)) w w310 from e_fr.trans (show e_fr (mStm (w 275 78) (w 275 79) (w 275 80) (w 275 94)) w w272 from e_fr.trans f262 (e_fr.mono q274 (fun c k g => mTq_St g))) (q312.out.st (by omega))), (cSt.em c303 q312.out (by decide) (by omega) (by omega)), (by unfold stL; rw [u313.out, (show Hid (w310 275 79 = w254 275 79) from Hid.mk (Eq.trans (q312.out.fld (by decide)) (show Hid (w272 275 79 = w254 275 79) from Hid.mk (q274 275 79 (mTq_fld (by decide)))).out)).out, (show Hid (w310 275 80 = w254 275 80) from Hid.mk (Eq.trans (q312.out.fld (by decide)) (show Hid (w272 275 80 = w254 275 80) from Hid.mk (q274 275 80 (mTq_fld (by decide)))).out)).out, (show Hid (w310 275 81 = w 275 81) from Hid.mk (Eq.trans (q312.out.fld (by decide)) (show Hid (w272 275 81 = w 275 81) from Hid.mk (Eq.trans (q274 275 81 (mTq_fld (by decide))) u258.out)).out)).out, (show Hid (w310 275 82 = w 275 82) from Hid.mk (Eq.trans (q312.out.fld (by decide)) (show Hid (w272 275 82 = w 275 82) from Hid.mk (Eq.trans (q274 275 82 (mTq_fld (by decide))) u259.out)).out)).out, (show Hid (w310 275 83 = w254 275 83) from Hid.mk (Eq.trans (q312.out.fld (by decide)) (show Hid (w272 275 83 = w254 275 83) from Hid.mk (q274 275 83 (mTq_fld (by decide)))).out)).out, (show Hid (w310 275 86 = w272 275 86) from Hid.mk (q312.out.fld (by decide))).out, u323.out, (show Hid (w310 275 94 = w254 275 94) from Hid.mk (Eq.trans (q312.out.fld (by decide)) (show Hid (w272 275 94 = w254 275 94) from Hid.mk (q274 275 94 (mTq_fld (by decide)))).out)).out]; omega), (Hid.mk (fun z => by rw [u323.out] at z; rw [u313.out, (show Hid (w310 275 94 = w254 275 94) from Hid.mk (Eq.trans (q312.out.fld (by decide)) (show Hid (w272 275 94 = w254 275 94) from Hid.mk (q274 275 94 (mTq_fld (by decide)))).out)).out, (show Hid (w310 275 79 = w254 275 79) from Hid.mk (Eq.trans (q312.out.fld (by decide)) (show Hid (w272 275 79 = w254 275 79) from Hid.mk (q274 275 79 (mTq_fld (by decide)))).out)).out, (show Hid (w310 275 80 = w254 275 80) from Hid.mk (Eq.trans (q312.out.fld (by decide)) (show Hid (w272 275 80 = w254 275 80) from Hid.mk (q274 275 80 (mTq_fld (by decide)))).out)).out]; exact (Or.inr ((show Hid (w254 275 88 = 0 → GZ w310 N (w254 275 78 + 1) (w254 275 94) (w254 275 79) (w254 275 80) (fun _ => False) (w 275 81) (fun _ => False) 0) from Hid.mk (fun z => (GI.zz ((show Hid (w254 275 88 = 0 → GB w272 N (w254 275 78) (w254 275 94) (w254 275 79) (w254 275 80) (fun _ => False) (w 275 81) (fun _ => False) 0) from Hid.mk (fun z => GB.pr ((show Hid (w254 275 88 = 0 → GB w254 N (w254 275 78) (w254 275 94) (w254 275 79) (w254 275 80) (fun _ => False) (w 275 81) (fun _ => False) 0) from Hid.mk (fun z => by have y := q256w.out z; rw [u258.out] at y; exact y)).out z) (prE.tk q274))).out (by omega)).1 (((show Hid (w254 275 88 = 0 → GB w272 N (w254 275 78) (w254 275 94) (w254 275 79) (w254 275 80) (fun _ => False) (w 275 81) (fun _ => False) 0) from Hid.mk (fun z => GB.pr ((show Hid (w254 275 88 = 0 → GB w254 N (w254 275 78) (w254 275 94) (w254 275 79) (w254 275 80) (fun _ => False) (w 275 81) (fun _ => False) 0) from Hid.mk (fun z => by have y := q256w.out z; rw [u258.out] at y; exact y)).out z) (prE.tk q274))).out (by omega)).2.2 45 (sg_no (by omega))) ((show Hid (w254 275 88 = 0 → GB w272 N (w254 275 78) (w254 275 94) (w254 275 79) (w254 275 80) (fun _ => False) (w 275 81) (fun _ => False) 0) from Hid.mk (fun z => GB.pr ((show Hid (w254 275 88 = 0 → GB w254 N (w254 275 78) (w254 275 94) (w254 275 79) (w254 275 80) (fun _ => False) (w 275 81) (fun _ => False) 0) from Hid.mk (fun z => by have y := q256w.out z; rw [u258.out] at y; exact y)).out z) (prE.tk q274))).out (by omega)).2.1 q312.out (by omega) (fun y => absurd y (by decide)) (fun y => absurd y (by decide))))).out (by omega))))), (by rw [(show Hid (w310 275 86 = w272 275 86) from Hid.mk (q312.out.fld (by decide))).out, u323.out] <;> omega)⟩ ((by rw [(show Hid (w310 275 86 = w272 275 86) from Hid.mk (q312.out.fld (by decide))).out, u323.out] <;> omega)))
                            exact ⟨rfl, trivial⟩
                          · exact absurd q274b (by decide)
                        · refine e_Ok.nrm (q := 115) (st' := [(0, 0), (1, 275)]) rfl rfl ?_
                          clear q270n
                          refine e_Ok.callV rfl (Nat.le_trans (by decide) hdq) rfl rfl rfl rfl (c_334 (Nat.le_trans (by decide) hdq) q256c.1 q256c.2.1 q256c.2.2.1 hNr q256c.2.2.2.1 (by decide)) (fun r332 w333 h334 => ?_)
                          obtain ⟨rfl, q335⟩ := h334
                          obtain ⟨rfl, q335z⟩ | ⟨q335z, q335b, q335, q335s, q335t⟩ | ⟨q335z, q335b, q335, q335T, q335H, q335r⟩ := q335
                          · refine e_Ok.nrm (q := 118) (st' := []) rfl rfl ?_
                            clear q2563
                            refine e_Ok.ps3 (x := (0, 0)) (y := (0, 45)) (z := (1, 275)) (q := 122) 3 rfl ?_
                            refine e_Ok.callV rfl (Nat.le_trans (by decide) hdq) rfl rfl rfl rfl (c_336 q256c.1 (n := w254 275 78) rfl (by omega) (s := w 275 81) u258.out (by omega)) (fun r336 w337 h339 => ?_)
                            obtain ⟨rfl, q340⟩ := h339
                            replace q340 := (show Hid (EM w254 w337 (w254 275 78) 45 (0) (w 275 81)) from q340)
                            have u351 : Hid (w337 275 88 = w254 275 88) := Hid.mk (q340.out.fld (by decide))
                            refine e_Ok.nrm (q := 125) (st' := [(0, w254 275 78)]) rfl rfl ?_
                            refine e_Ok.run (t' := (67, [(0, (1, 275))], [], w337)) 2 rfl ?_
                            refine e_Ok.sub eAlk (e_sub_of rfl ?_) (ih13  w337 ⟨(show e_fr (mStm (w 275 78) (w 275 79) (w 275 80) (w 275 94)) w w337 from e_fr.trans f262 (q340.out.st (by omega))), (cSt.em q256c q340.out (by decide) (by omega) (by omega)), (by unfold stL; rw [(show Hid (w337 275 78 = w254 275 78 + 1) from Hid.mk (Eq.trans q340.out.2.2.2.2 (by omega))).out, (show Hid (w337 275 79 = w254 275 79) from Hid.mk (q340.out.fld (by decide))).out, (show Hid (w337 275 80 = w254 275 80) from Hid.mk (q340.out.fld (by decide))).out, (show Hid (w337 275 81 = w 275 81) from Hid.mk (Eq.trans (q340.out.fld (by decide)) u258.out)).out, (show Hid (w337 275 82 = w 275 82) from Hid.mk (Eq.trans (q340.out.fld (by decide)) u259.out)).out, (show Hid (w337 275 83 = w254 275 83) from Hid.mk (q340.out.fld (by decide))).out, (show Hid (w337 275 86 = w254 275 86) from Hid.mk (q340.out.fld (by decide))).out, u351.out, (show Hid (w337 275 94 = w254 275 94) from Hid.mk (q340.out.fld (by decide))).out]; omega), (Hid.mk (fun z => by rw [u351.out] at z; exact absurd z (by omega))), (by rw [(show Hid (w337 275 86 = w254 275 86) from Hid.mk (q340.out.fld (by decide))).out, u351.out] <;> omega)⟩ ((by rw [(show Hid (w337 275 86 = w254 275 86) from Hid.mk (q340.out.fld (by decide))).out, u351.out] <;> omega)))
                            exact ⟨rfl, trivial⟩
                          · exact absurd q335b (by decide)
                          · refine e_Ok.nrm (q := 118) (st' := []) rfl rfl ?_
                            replace q2563 := q2563 (by omega)
                            have c366 := cSt.rf q256c q335 q335T q335H
                            refine e_Ok.ps3 (x := (0, 0)) (y := (0, 45)) (z := (1, 275)) (q := 122) 3 rfl ?_
                            refine e_Ok.callV rfl (Nat.le_trans (by decide) hdq) rfl rfl rfl rfl (c_336 c366.1 (n := w254 275 78) (show Hid (w333 275 78 = w254 275 78) from Hid.mk (q335 275 78 (mRf_fld (by decide)))).out (by omega) (s := w 275 81) (show Hid (w333 275 81 = w 275 81) from Hid.mk (Eq.trans (q335 275 81 (mRf_fld (by decide))) u258.out)).out (by omega)) (fun r368 w369 h370 => ?_)
                            obtain ⟨rfl, q371⟩ := h370
                            replace q371 := (show Hid (EM w333 w369 (w254 275 78) 45 (0) (w 275 81)) from q371)
                            have u382 : Hid (w369 275 88 = w333 275 88) := Hid.mk (q371.out.fld (by decide))
                            refine e_Ok.nrm (q := 125) (st' := [(0, w254 275 78)]) rfl rfl ?_
                            refine e_Ok.run (t' := (67, [(0, (1, 275))], [], w369)) 2 rfl ?_
                            refine e_Ok.sub eAlk (e_sub_of rfl ?_) (ih13  w369 ⟨(show e_fr (mStm (w 275 78) (w 275 79) (w 275 80) (w 275 94)) w w369 from e_fr.trans (show e_fr (mStm (w 275 78) (w 275 79) (w 275 80) (w 275 94)) w w333 from e_fr.trans f262 (e_fr.mono q335 (fun c k g => mRf_St g))) (q371.out.st (by omega))), (cSt.em c366 q371.out (by decide) (by omega) (by omega)), (by unfold stL; rw [(show Hid (w369 275 78 = w254 275 78 + 1) from Hid.mk (Eq.trans q371.out.2.2.2.2 (by omega))).out, (show Hid (w369 275 79 = w254 275 79) from Hid.mk (Eq.trans (q371.out.fld (by decide)) (show Hid (w333 275 79 = w254 275 79) from Hid.mk (q335 275 79 (mRf_fld (by decide)))).out)).out, (show Hid (w369 275 80 = w254 275 80) from Hid.mk (Eq.trans (q371.out.fld (by decide)) (show Hid (w333 275 80 = w254 275 80) from Hid.mk (q335 275 80 (mRf_fld (by decide)))).out)).out, (show Hid (w369 275 81 = w 275 81) from Hid.mk (Eq.trans (q371.out.fld (by decide)) (show Hid (w333 275 81 = w 275 81) from Hid.mk (Eq.trans (q335 275 81 (mRf_fld (by decide))) u258.out)).out)).out, (show Hid (w369 275 82 = w 275 82) from Hid.mk (Eq.trans (q371.out.fld (by decide)) (show Hid (w333 275 82 = w 275 82) from Hid.mk (Eq.trans (q335 275 82 (mRf_fld (by decide))) u259.out)).out)).out, (show Hid (w369 275 83 = w254 275 83) from Hid.mk (Eq.trans (q371.out.fld (by decide)) (show Hid (w333 275 83 = w254 275 83) from Hid.mk (q335 275 83 (mRf_fld (by decide)))).out)).out, (show Hid (w369 275 86 = w254 275 86) from Hid.mk (Eq.trans (q371.out.fld (by decide)) (show Hid (w333 275 86 = w254 275 86) from Hid.mk (q335 275 86 (mRf_fld (by decide)))).out)).out, u382.out, (show Hid (w369 275 94 = w254 275 94) from Hid.mk (Eq.trans (q371.out.fld (by decide)) (show Hid (w333 275 94 = w254 275 94) from Hid.mk (q335 275 94 (mRf_fld (by decide)))).out)).out]; omega), (Hid.mk (fun z => by rw [u382.out] at z; exact absurd z (by omega))), (by rw [(show Hid (w369 275 86 = w254 275 86) from Hid.mk (Eq.trans (q371.out.fld (by decide)) (show Hid (w333 275 86 = w254 275 86) from Hid.mk (q335 275 86 (mRf_fld (by decide)))).out)).out, u382.out] <;> omega)⟩ ((by rw [(show Hid (w369 275 86 = w254 275 86) from Hid.mk (Eq.trans (q371.out.fld (by decide)) (show Hid (w333 275 86 = w254 275 86) from Hid.mk (q335 275 86 (mRf_fld (by decide)))).out)).out, u382.out] <;> omega)))
                            exact ⟨rfl, trivial⟩
                      · exact absurd q237b (by decide)
                    · refine e_Ok.nrm (q := 102) (st' := [(0, 0), (1, 275)]) rfl rfl ?_
                      clear q233n
                      refine e_Ok.callV rfl (Nat.le_trans (by decide) hdq) rfl rfl rfl rfl (c_334 (Nat.le_trans (by decide) hdq) c223.1 c223.2.1 c223.2.2.1 hNr c223.2.2.2.1 (by decide)) (fun r386 w387 h388 => ?_)
                      obtain ⟨rfl, q389⟩ := h388
                      obtain ⟨rfl, q389z⟩ | ⟨q389z, q389b, q389, q389s, q389t⟩ | ⟨q389z, q389b, q389, q389T, q389H, q389r⟩ := q389
                      · rw [u221.out] at q389z; exact absurd q389z (by omega)
                      · exact absurd q389b (by decide)
                      · refine e_Ok.nrm (q := 105) (st' := []) rfl rfl ?_
                        rw [u221.out] at q389z
                        have u393 : Hid (w387 275 81 = w 275 81) := Hid.mk (Eq.trans (q389 275 81 (mRf_fld (by decide))) (show Hid (w57 275 81 = w 275 81) from Hid.mk (Eq.trans (q59 275 81 (mTq_fld (by decide))) (show Hid (w60 275 81 = w 275 81) from Hid.mk (Eq.trans (q59F 275 81 (mNm_fld (by decide))) (show Hid (w38 275 81 = w 275 81) from Hid.mk (Eq.trans (q41 275 81 (mTq_fld (by decide))) u19.out)).out)).out)).out)
                        have c401 := cSt.rf c223 q389 q389T q389H
                        have f402 : e_fr (mStm (w 275 78) (w 275 79) (w 275 80) (w 275 94)) w w387 := e_fr.trans f225 (e_fr.mono q389 (fun c k g => mRf_St g))
                        refine e_Ok.run (t' := (106, [(0, (1, 275))], [(1, 275)], w387)) 1 rfl ?_
                        refine e_Ok.callV rfl (Nat.le_trans (by decide) hdq) rfl rfl rfl rfl (c_348_0 (Nat.le_trans (by decide) hdq) c401 (by omega)) (fun r403 w404 h405 => ?_)
                        obtain ⟨rfl, rfl⟩ := h405
                        refine e_Ok.nrm (q := 109) (st' := []) rfl rfl ?_
                        refine e_Ok.ps3 (x := (0, 2)) (y := (1, 275)) (z := (1, 275)) (q := 112) 3 rfl ?_
                        refine e_Ok.callV rfl (Nat.le_trans (by decide) hdq) rfl rfl rfl rfl (c_332 c401.1 (N := N) c401.2.2.2.1) (fun r406 w407 h408 => ?_)
                        obtain ⟨z409, rfl, rfl, q410⟩ := h408
                        obtain ⟨rfl, q410, q410b⟩ | ⟨rfl, q410n⟩ := q410
                        · refine e_Ok.nrm (q := 115) (st' := [(0, 1), (1, 275)]) rfl rfl ?_
                          rw [(show Hid (w387 275 84 = w57 275 84) from Hid.mk (q389 275 84 (mRf_fld (by decide)))).out] at q410
                          rw [(show Hid (w387 275 85 = w57 275 85) from Hid.mk (q389 275 85 (mRf_fld (by decide)))).out] at q410b
                          refine e_Ok.callV rfl (Nat.le_trans (by decide) hdq) rfl rfl rfl rfl (c_334 (Nat.le_trans (by decide) hdq) c401.1 c401.2.1 c401.2.2.1 hNr c401.2.2.2.1 (by decide)) (fun r411 w412 h413 => ?_)
                          obtain ⟨rfl, q414⟩ := h413
                          obtain ⟨rfl, q414z⟩ | ⟨q414z, q414b, q414, q414s, q414t⟩ | ⟨q414z, q414b, q414, q414T, q414H, q414r⟩ := q414
                          · show e_Ok 20 elay ecode eI (d + 1) 353 (118, [(0, (1, 275))], [], w387) _
                            refine e_Ok.ps3 (x := (0, 0)) (y := (0, 45)) (z := (1, 275)) (q := 122) 3 rfl ?_
                            refine e_Ok.callV rfl (Nat.le_trans (by decide) hdq) rfl rfl rfl rfl (c_336 c401.1 (n := v3 275 78) (show Hid (w387 275 78 = v3 275 78) from Hid.mk (Eq.trans (q389 275 78 (mRf_fld (by decide))) (show Hid (w57 275 78 = v3 275 78) from Hid.mk (Eq.trans (q59 275 78 (mTq_fld (by decide))) (show Hid (w60 275 78 = v3 275 78) from Hid.mk (Eq.trans (q59F 275 78 (mNm_fld (by decide))) (show Hid (w38 275 78 = v3 275 78) from Hid.mk (q41 275 78 (mTq_fld (by decide)))).out)).out)).out)).out (by omega) (s := w 275 81) u393.out (by omega)) (fun r415 w417 h418 => ?_)
                            obtain ⟨rfl, q419⟩ := h418
                            replace q419 := (show Hid (EM w387 w417 (v3 275 78) 45 (0) (w 275 81)) from q419)
                            have u430 : Hid (w417 275 88 = w387 275 88) := Hid.mk (q419.out.fld (by decide))
                            refine e_Ok.nrm (q := 125) (st' := [(0, v3 275 78)]) rfl rfl ?_
                            refine e_Ok.run (t' := (67, [(0, (1, 275))], [], w417)) 2 rfl ?_
                            refine e_Ok.sub eAlk (e_sub_of rfl ?_) (ih13  w417 ⟨(show e_fr (mStm (w 275 78) (w 275 79) (w 275 80) (w 275 94)) w w417 from e_fr.trans f402 (q419.out.st (by omega))), (cSt.em c401 q419.out (by decide) (by omega) (by omega)), (by unfold stL; rw [(show Hid (w417 275 78 = v3 275 78 + 1) from Hid.mk (Eq.trans q419.out.2.2.2.2 (by omega))).out, (show Hid (w417 275 79 = v3 275 79) from Hid.mk (Eq.trans (q419.out.fld (by decide)) (show Hid (w387 275 79 = v3 275 79) from Hid.mk (Eq.trans (q389 275 79 (mRf_fld (by decide))) (show Hid (w57 275 79 = v3 275 79) from Hid.mk (Eq.trans (q59 275 79 (mTq_fld (by decide))) (show Hid (w60 275 79 = v3 275 79) from Hid.mk (Eq.trans (q59F 275 79 (mNm_fld (by decide))) (show Hid (w38 275 79 = v3 275 79) from Hid.mk (q41 275 79 (mTq_fld (by decide)))).out)).out)).out)).out)).out, (show Hid (w417 275 80 = v3 275 80) from Hid.mk (Eq.trans (q419.out.fld (by decide)) (show Hid (w387 275 80 = v3 275 80) from Hid.mk (Eq.trans (q389 275 80 (mRf_fld (by decide))) (show Hid (w57 275 80 = v3 275 80) from Hid.mk (Eq.trans (q59 275 80 (mTq_fld (by decide))) (show Hid (w60 275 80 = v3 275 80) from Hid.mk (Eq.trans (q59F 275 80 (mNm_fld (by decide))) (show Hid (w38 275 80 = v3 275 80) from Hid.mk (q41 275 80 (mTq_fld (by decide)))).out)).out)).out)).out)).out, (show Hid (w417 275 81 = w 275 81) from Hid.mk (Eq.trans (q419.out.fld (by decide)) u393.out)).out, (show Hid (w417 275 82 = w 275 82) from Hid.mk (Eq.trans (q419.out.fld (by decide)) (show Hid (w387 275 82 = w 275 82) from Hid.mk (Eq.trans (q389 275 82 (mRf_fld (by decide))) (show Hid (w57 275 82 = w 275 82) from Hid.mk (Eq.trans (q59 275 82 (mTq_fld (by decide))) (show Hid (w60 275 82 = w 275 82) from Hid.mk (Eq.trans (q59F 275 82 (mNm_fld (by decide))) (show Hid (w38 275 82 = w 275 82) from Hid.mk (Eq.trans (q41 275 82 (mTq_fld (by decide))) u20.out)).out)).out)).out)).out)).out, (show Hid (w417 275 83 = v3 275 83) from Hid.mk (Eq.trans (q419.out.fld (by decide)) (show Hid (w387 275 83 = v3 275 83) from Hid.mk (Eq.trans (q389 275 83 (mRf_fld (by decide))) (show Hid (w57 275 83 = v3 275 83) from Hid.mk (Eq.trans (q59 275 83 (mTq_fld (by decide))) (show Hid (w60 275 83 = v3 275 83) from Hid.mk (Eq.trans (q59F 275 83 (mNm_fld (by decide))) (show Hid (w38 275 83 = v3 275 83) from Hid.mk (q41 275 83 (mTq_fld (by decide)))).out)).out)).out)).out)).out, (show Hid (w417 275 86 = w57 275 86) from Hid.mk (Eq.trans (q419.out.fld (by decide)) (show Hid (w387 275 86 = w57 275 86) from Hid.mk (q389 275 86 (mRf_fld (by decide)))).out)).out, u430.out, (show Hid (w417 275 94 = v3 275 94 + 1) from Hid.mk (Eq.trans (q419.out.fld (by decide)) (show Hid (w387 275 94 = v3 275 94 + 1) from Hid.mk (Eq.trans (q389 275 94 (mRf_fld (by decide))) (show Hid (w57 275 94 = v3 275 94 + 1) from Hid.mk (Eq.trans (q59 275 94 (mTq_fld (by decide))) (show Hid (w60 275 94 = v3 275 94 + 1) from Hid.mk (Eq.trans q59v5.out (by omega))).out)).out)).out)).out]; omega), (Hid.mk (fun z => by rw [u430.out] at z; exact absurd z (by omega))), (by rw [(show Hid (w417 275 86 = w57 275 86) from Hid.mk (Eq.trans (q419.out.fld (by decide)) (show Hid (w387 275 86 = w57 275 86) from Hid.mk (q389 275 86 (mRf_fld (by decide)))).out)).out, u430.out] <;> omega)⟩ ((by rw [(show Hid (w417 275 86 = w57 275 86) from Hid.mk (Eq.trans (q419.out.fld (by decide)) (show Hid (w387 275 86 = w57 275 86) from Hid.mk (q389 275 86 (mRf_fld (by decide)))).out)).out, u430.out] <;> omega)))
                            exact ⟨rfl, trivial⟩
                          · exact absurd q414z (by omega)
                          · exact absurd q414z (by omega)
                        · refine e_Ok.nrm (q := 115) (st' := [(0, 0), (1, 275)]) rfl rfl ?_
                          clear q410n
                          refine e_Ok.callV rfl (Nat.le_trans (by decide) hdq) rfl rfl rfl rfl (c_334 (Nat.le_trans (by decide) hdq) c401.1 c401.2.1 c401.2.2.1 hNr c401.2.2.2.1 (by decide)) (fun r434 w435 h436 => ?_)
                          obtain ⟨rfl, q437⟩ := h436
                          obtain ⟨rfl, q437z⟩ | ⟨q437z, q437b, q437, q437s, q437t⟩ | ⟨q437z, q437b, q437, q437T, q437H, q437r⟩ := q437
                          · refine e_Ok.nrm (q := 118) (st' := []) rfl rfl ?_
                            refine e_Ok.ps3 (x := (0, 0)) (y := (0, 45)) (z := (1, 275)) (q := 122) 3 rfl ?_
                            refine e_Ok.callV rfl (Nat.le_trans (by decide) hdq) rfl rfl rfl rfl (c_336 c401.1 (n := v3 275 78) (show Hid (w387 275 78 = v3 275 78) from Hid.mk (Eq.trans (q389 275 78 (mRf_fld (by decide))) (show Hid (w57 275 78 = v3 275 78) from Hid.mk (Eq.trans (q59 275 78 (mTq_fld (by decide))) (show Hid (w60 275 78 = v3 275 78) from Hid.mk (Eq.trans (q59F 275 78 (mNm_fld (by decide))) (show Hid (w38 275 78 = v3 275 78) from Hid.mk (q41 275 78 (mTq_fld (by decide)))).out)).out)).out)).out (by omega) (s := w 275 81) u393.out (by omega)) (fun r438 w439 h440 => ?_)
                            obtain ⟨rfl, q441⟩ := h440
                            replace q441 := (show Hid (EM w387 w439 (v3 275 78) 45 (0) (w 275 81)) from q441)
                            have u452 : Hid (w439 275 88 = w387 275 88) := Hid.mk (q441.out.fld (by decide))
                            refine e_Ok.nrm (q := 125) (st' := [(0, v3 275 78)]) rfl rfl ?_
                            refine e_Ok.run (t' := (67, [(0, (1, 275))], [], w439)) 2 rfl ?_
                            refine e_Ok.sub eAlk (e_sub_of rfl ?_) (ih13  w439 ⟨(show e_fr (mStm (w 275 78) (w 275 79) (w 275 80) (w 275 94)) w w439 from e_fr.trans f402 (q441.out.st (by omega))), (cSt.em c401 q441.out (by decide) (by omega) (by omega)), (by unfold stL; rw [(show Hid (w439 275 78 = v3 275 78 + 1) from Hid.mk (Eq.trans q441.out.2.2.2.2 (by omega))).out, (show Hid (w439 275 79 = v3 275 79) from Hid.mk (Eq.trans (q441.out.fld (by decide)) (show Hid (w387 275 79 = v3 275 79) from Hid.mk (Eq.trans (q389 275 79 (mRf_fld (by decide))) (show Hid (w57 275 79 = v3 275 79) from Hid.mk (Eq.trans (q59 275 79 (mTq_fld (by decide))) (show Hid (w60 275 79 = v3 275 79) from Hid.mk (Eq.trans (q59F 275 79 (mNm_fld (by decide))) (show Hid (w38 275 79 = v3 275 79) from Hid.mk (q41 275 79 (mTq_fld (by decide)))).out)).out)).out)).out)).out, (show Hid (w439 275 80 = v3 275 80) from Hid.mk (Eq.trans (q441.out.fld (by decide)) (show Hid (w387 275 80 = v3 275 80) from Hid.mk (Eq.trans (q389 275 80 (mRf_fld (by decide))) (show Hid (w57 275 80 = v3 275 80) from Hid.mk (Eq.trans (q59 275 80 (mTq_fld (by decide))) (show Hid (w60 275 80 = v3 275 80) from Hid.mk (Eq.trans (q59F 275 80 (mNm_fld (by decide))) (show Hid (w38 275 80 = v3 275 80) from Hid.mk (q41 275 80 (mTq_fld (by decide)))).out)).out)).out)).out)).out, (show Hid (w439 275 81 = w 275 81) from Hid.mk (Eq.trans (q441.out.fld (by decide)) u393.out)).out, (show Hid (w439 275 82 = w 275 82) from Hid.mk (Eq.trans (q441.out.fld (by decide)) (show Hid (w387 275 82 = w 275 82) from Hid.mk (Eq.trans (q389 275 82 (mRf_fld (by decide))) (show Hid (w57 275 82 = w 275 82) from Hid.mk (Eq.trans (q59 275 82 (mTq_fld (by decide))) (show Hid (w60 275 82 = w 275 82) from Hid.mk (Eq.trans (q59F 275 82 (mNm_fld (by decide))) (show Hid (w38 275 82 = w 275 82) from Hid.mk (Eq.trans (q41 275 82 (mTq_fld (by decide))) u20.out)).out)).out)).out)).out)).out, (show Hid (w439 275 83 = v3 275 83) from Hid.mk (Eq.trans (q441.out.fld (by decide)) (show Hid (w387 275 83 = v3 275 83) from Hid.mk (Eq.trans (q389 275 83 (mRf_fld (by decide))) (show Hid (w57 275 83 = v3 275 83) from Hid.mk (Eq.trans (q59 275 83 (mTq_fld (by decide))) (show Hid (w60 275 83 = v3 275 83) from Hid.mk (Eq.trans (q59F 275 83 (mNm_fld (by decide))) (show Hid (w38 275 83 = v3 275 83) from Hid.mk (q41 275 83 (mTq_fld (by decide)))).out)).out)).out)).out)).out, (show Hid (w439 275 86 = w57 275 86) from Hid.mk (Eq.trans (q441.out.fld (by decide)) (show Hid (w387 275 86 = w57 275 86) from Hid.mk (q389 275 86 (mRf_fld (by decide)))).out)).out, u452.out, (show Hid (w439 275 94 = v3 275 94 + 1) from Hid.mk (Eq.trans (q441.out.fld (by decide)) (show Hid (w387 275 94 = v3 275 94 + 1) from Hid.mk (Eq.trans (q389 275 94 (mRf_fld (by decide))) (show Hid (w57 275 94 = v3 275 94 + 1) from Hid.mk (Eq.trans (q59 275 94 (mTq_fld (by decide))) (show Hid (w60 275 94 = v3 275 94 + 1) from Hid.mk (Eq.trans q59v5.out (by omega))).out)).out)).out)).out]; omega), (Hid.mk (fun z => by rw [u452.out] at z; exact absurd z (by omega))), (by rw [(show Hid (w439 275 86 = w57 275 86) from Hid.mk (Eq.trans (q441.out.fld (by decide)) (show Hid (w387 275 86 = w57 275 86) from Hid.mk (q389 275 86 (mRf_fld (by decide)))).out)).out, u452.out] <;> omega)⟩ ((by rw [(show Hid (w439 275 86 = w57 275 86) from Hid.mk (Eq.trans (q441.out.fld (by decide)) (show Hid (w387 275 86 = w57 275 86) from Hid.mk (q389 275 86 (mRf_fld (by decide)))).out)).out, u452.out] <;> omega)))
                            exact ⟨rfl, trivial⟩
                          · exact absurd q437z (by omega)
                          · exact absurd q437z (by omega)
              · refine e_Ok.nrm (q := 79) (st' := [(0, 0)]) rfl rfl ?_
                clear q35n
                refine e_Ok.if1 rfl (fun h456 => ?_) (fun h456 => ?_)
                · replace h456 : (0 : Int) = 0 := h456
                  refine e_Ok.ps2 (x := (1, 275)) (y := (1, 275)) (q := 131) 2 rfl ?_
                  refine e_Ok.getf (z := v3 275 84) rfl (el_o rfl) rfl (ef_o rfl) rfl (by omega) ?_
                  refine e_Ok.if1 rfl (fun h457 => ?_) (fun h457 => ?_)
                  · replace h457 : (v3 275 84 : Int) ≠ 0 := h457
                    refine e_Ok.ps1 (x := (0, 0)) (q := 142) 1 rfl ?_
                    refine e_Ok.callV rfl (Nat.le_trans (by decide) hdq) rfl rfl rfl rfl (c_334 (Nat.le_trans (by decide) hdq) j15.1 j15.2.1 j15.2.2.1 hNr j15.2.2.2.1 (by decide)) (fun r458 w459 h460 => ?_)
                    obtain ⟨rfl, q461⟩ := h460
                    obtain ⟨rfl, q461z⟩ | ⟨q461z, q461b, q461, q461s, q461t⟩ | ⟨q461z, q461b, q461, q461T, q461H, q461r⟩ := q461
                    · exact absurd q461z (by omega)
                    · exact absurd q461b (by decide)
                    · refine e_Ok.nrm (q := 145) (st' := []) rfl rfl ?_
                      refine e_Ok.rets rfl rfl ?_
                      exact ⟨rfl, (show e_fr (mStm (w 275 78) (w 275 79) (w 275 80) (w 275 94)) w w459 from e_fr.trans j14 (e_fr.mono q461 (fun c k g => mRf_St g))), (cSt.rf j15 q461 q461T q461H), (by unfold stL; rw [(show Hid (w459 275 78 = v3 275 78) from Hid.mk (q461 275 78 (mRf_fld (by decide)))).out, (show Hid (w459 275 79 = v3 275 79) from Hid.mk (q461 275 79 (mRf_fld (by decide)))).out, (show Hid (w459 275 80 = v3 275 80) from Hid.mk (q461 275 80 (mRf_fld (by decide)))).out, (show Hid (w459 275 81 = w 275 81) from Hid.mk (Eq.trans (q461 275 81 (mRf_fld (by decide))) u19.out)).out, (show Hid (w459 275 82 = w 275 82) from Hid.mk (Eq.trans (q461 275 82 (mRf_fld (by decide))) u20.out)).out, (show Hid (w459 275 83 = v3 275 83) from Hid.mk (q461 275 83 (mRf_fld (by decide)))).out, (show Hid (w459 275 86 = v3 275 86) from Hid.mk (q461 275 86 (mRf_fld (by decide)))).out, (show Hid (w459 275 94 = v3 275 94) from Hid.mk (q461 275 94 (mRf_fld (by decide)))).out]; omega), (Hid.mk (fun z => absurd z (by omega))).out⟩
                  · replace h457 : (v3 275 84 : Int) = 0 := Classical.not_not.mp (show ¬ ((v3 275 84 : Int) ≠ 0) from h457)
                    refine e_Ok.ps1 (x := (0, 1)) (q := 142) 2 rfl ?_
                    refine e_Ok.callV rfl (Nat.le_trans (by decide) hdq) rfl rfl rfl rfl (c_334 (Nat.le_trans (by decide) hdq) j15.1 j15.2.1 j15.2.2.1 hNr j15.2.2.2.1 (by decide)) (fun r475 w476 h477 => ?_)
                    obtain ⟨rfl, q478⟩ := h477
                    obtain ⟨rfl, q478z⟩ | ⟨q478z, q478b, q478, q478s, q478t⟩ | ⟨q478z, q478b, q478, q478T, q478H, q478r⟩ := q478
                    · exact absurd q478z (by omega)
                    · refine e_Ok.nrm (q := 145) (st' := []) rfl rfl ?_
                      have c487 := cSt.tk j15 q478 q478s
                      have t488 := tkS.lin c487.2.2.2.1
                      refine e_Ok.rets rfl rfl ?_
                      exact ⟨rfl, (show e_fr (mStm (w 275 78) (w 275 79) (w 275 80) (w 275 94)) w w476 from e_fr.trans j14 (e_fr.mono q478 (fun c k g => mTq_St g))), c487, (by unfold stL; rw [(show Hid (w476 275 78 = v3 275 78) from Hid.mk (q478 275 78 (mTq_fld (by decide)))).out, (show Hid (w476 275 79 = v3 275 79) from Hid.mk (q478 275 79 (mTq_fld (by decide)))).out, (show Hid (w476 275 80 = v3 275 80) from Hid.mk (q478 275 80 (mTq_fld (by decide)))).out, (show Hid (w476 275 81 = w 275 81) from Hid.mk (Eq.trans (q478 275 81 (mTq_fld (by decide))) u19.out)).out, (show Hid (w476 275 82 = w 275 82) from Hid.mk (Eq.trans (q478 275 82 (mTq_fld (by decide))) u20.out)).out, (show Hid (w476 275 83 = v3 275 83) from Hid.mk (q478 275 83 (mTq_fld (by decide)))).out, (show Hid (w476 275 88 = v3 275 88) from Hid.mk (q478 275 88 (mTq_fld (by decide)))).out, (show Hid (w476 275 94 = v3 275 94) from Hid.mk (q478 275 94 (mTq_fld (by decide)))).out]; omega), (Hid.mk (fun z => by rw [(show Hid (w476 275 88 = v3 275 88) from Hid.mk (q478 275 88 (mTq_fld (by decide)))).out] at z; rw [(show Hid (w476 275 78 = v3 275 78) from Hid.mk (q478 275 78 (mTq_fld (by decide)))).out, (show Hid (w476 275 94 = v3 275 94) from Hid.mk (q478 275 94 (mTq_fld (by decide)))).out, (show Hid (w476 275 79 = v3 275 79) from Hid.mk (q478 275 79 (mTq_fld (by decide)))).out, (show Hid (w476 275 80 = v3 275 80) from Hid.mk (q478 275 80 (mTq_fld (by decide)))).out]; exact ((show Hid (v3 275 88 = 0 → GX w476 N (v3 275 78) (v3 275 94) (v3 275 79) (v3 275 80) (fun _ => False) (w 275 81) (fun _ => False) 0) from Hid.mk (fun z => GX.pr (j17.out z) (prE.tk q478))).out (by omega)))).out⟩
                    · exact absurd q478b (by decide)
                · replace h456 : (0 : Int) ≠ 0 := (show ¬ ((0 : Int) = 0) from h456)
                  exfalso; omega
        refine e_Ok.sub eAlk (e_sub_of rfl ?_) (hL12 (32010 + 1 : Int).toNat  v1 ⟨j3, j4, (by unfold stL; rw [u9.out, u10.out]; omega), (Hid.mk (fun z => absurd z (by omega))), (by omega)⟩ ((by omega)))
        exact ⟨rfl, trivial⟩
      · replace h11 : (v1 275 88 : Int) = 0 := Classical.not_not.mp (show ¬ ((v1 275 88 : Int) ≠ 0) from h11)
        replace x3 := x3 (by omega)
        refine e_Ok.ps2 (x := (0, 0)) (y := (1, 275)) (q := 9) 2 rfl ?_
        refine e_Ok.callV rfl (Nat.le_trans (by decide) hdq) rfl rfl rfl rfl (c_332 j4.1 (N := N) j4.2.2.2.1) (fun r491 w492 h493 => ?_)
        obtain ⟨z494, rfl, rfl, q495⟩ := h493
        obtain ⟨rfl, q495, q495b⟩ | ⟨rfl, q495n⟩ := q495
        · refine e_Ok.nrm (q := 12) (st' := [(0, 1)]) rfl rfl ?_
          refine e_Ok.if1 rfl (fun h496 => ?_) (fun h496 => ?_)
          · replace h496 : (1 : Int) = 0 := h496
            exfalso; omega
          · replace h496 : (1 : Int) ≠ 0 := (show ¬ ((1 : Int) = 0) from h496)
            refine e_Ok.ps1 (x := (1, 275)) (q := 16) 1 rfl ?_
            refine e_Ok.callV rfl (Nat.le_trans (by decide) hdq) rfl rfl rfl rfl (c_327 (Nat.le_trans (by decide) hdq) j4.1 j4.2.1 j4.2.2.1 hNr (t := v1 275 87) rfl (by omega)) (fun r497 w498 h499 => ?_)
            have p501 := tkS.pos j4.2.2.2.1 (by omega)
            have p502 := tkS.key j4.2.2.2.1 (by omega)
            obtain ⟨rfl, q500, q500s, q500t⟩ := h499
            have u509 : Hid (w498 275 88 = v1 275 88) := Hid.mk (q500 275 88 (mTq_fld (by decide)))
            have c511 := cSt.tk j4 q500 q500s
            have t512 := tkS.lin c511.2.2.2.1
            have f513 : e_fr (mStm (w 275 78) (w 275 79) (w 275 80) (w 275 94)) w w498 := e_fr.trans j3 (e_fr.mono q500 (fun c k g => mTq_St g))
            refine e_Ok.nrm (q := 19) (st' := []) rfl rfl ?_
            refine e_Ok.ps3 (x := (0, 0)) (y := (0, 0)) (z := (1, 275)) (q := 22) 3 rfl ?_
            refine e_Ok.callV rfl (Nat.le_trans (by decide) hdq) rfl rfl rfl rfl (c_338 (Nat.le_trans (by decide) hdq) c511.1 c511.2.1 c511.2.2.1 hNr c511.2.2.2.1 (mm := v1 275 94) (show Hid (w498 275 94 = v1 275 94) from Hid.mk (q500 275 94 (mTq_fld (by decide)))).out (by omega) (by decide) (by omega)) (fun r515 w516 h517 => ?_)
            obtain ⟨rfl, q518⟩ := h517
            obtain ⟨rfl, q518z⟩ | ⟨q518z, q518k, q518, q518T, q518H, q518r⟩ | ⟨q518z, q518k, w519, q518F, q518T, q518H, q518v, q518o, q518, q518s, q518t⟩ := q518
            · rw [u509.out] at q518z; exact absurd q518z (by omega)
            · refine e_Ok.nrm (q := 25) (st' := []) rfl rfl ?_
              rw [u509.out] at q518z
              clear q518k
              have u528 : Hid (w516 275 86 = w498 275 86) := Hid.mk (q518 275 86 (mRf_fld (by decide)))
              have hL533 : ∀ (nn : Nat) (v2 : eW), e_fr (mStm (w 275 78) (w 275 79) (w 275 80) (w 275 94)) w v2 ∧ cSt v2 N ∧ stL w v2 0 640 ∧ Hid (v2 275 88 = 0 → GV v2 N (v2 275 78) (v2 275 94) (v2 275 79) (v2 275 80) (fun _ => False) (w 275 81) (fun _ => False) 0) ∧ ((0 ≤ v2 275 86 ∧ v2 275 86 ≤ N ∧ 0 ≤ v2 275 88 ∧ v2 275 88 ≤ 7)) ∧ ((v2 275 78 = 0 ∧ v2 275 79 = 0 ∧ v2 275 80 = 0)) ∧ (v1 275 86 < v2 275 86) → 8 * (N - v2 275 86) + 7 - v2 275 88 < nn → e_Ok 20 elay ecode eI (d + 1) 353 (25, [(0, (1, 275))], [], v2) (fun r w' => r = [] ∧ e_fr (mStm (w 275 78) (w 275 79) (w 275 80) (w 275 94)) w w' ∧ cSt w' N ∧ stL w w' 0 640 ∧ (w' 275 88 = 0 → GX w' N (w' 275 78) (w' 275 94) (w' 275 79) (w' 275 80) (fun _ => False) (w 275 81) (fun _ => False) 0)) := by
                intro nn
                induction nn with
                | zero => intro v2 hj hm; obtain ⟨j535, j536, j537, j538, j539, j540, j541⟩ := hj; exfalso; omega
                | succ nn ih534 =>
                  intro v2 hj hm
                  obtain ⟨j535, j536, j537, j538, j539, j540, j541⟩ := hj
                  have xl := j537
                  unfold stL at xl
                  obtain ⟨x1, x2, x3, x4, x5, x6, x7, x8, x9, x10, x11, x12⟩ := xl
                  have xt := tkS.lin j536.2.2.2.1
                  have xf := e_Has.get j536.2.1 (c := 275) (k := 88) (lo := 0) (hi := 7) rfl (by decide)
                  have xr := j536.2.2.2.2
                  have u542 : Hid (v2 275 81 = w 275 81) := Hid.mk (by omega)
                  have u543 : Hid (v2 275 82 = w 275 82) := Hid.mk (by omega)
                  refine e_Ok.run (t' := (26, [(0, (1, 275))], [(1, 275)], v2)) 1 rfl ?_
                  refine e_Ok.getf (z := v2 275 88) rfl (el_o rfl) rfl (ef_o rfl) rfl (by omega) ?_
                  refine e_Ok.if1 rfl (fun h544 => ?_) (fun h544 => ?_)
                  · replace h544 : (v2 275 88 : Int) ≠ 0 := h544
                    clear x3
                    refine e_Ok.ps3 (x := (0, 59)) (y := (1, 275)) (z := (1, 275)) (q := 58) 3 rfl ?_
                    refine e_Ok.callV rfl (Nat.le_trans (by decide) hdq) rfl rfl rfl rfl (c_331 j536.1 (N := N) j536.2.2.2.1) (fun r545 w546 h547 => ?_)
                    obtain ⟨z548, rfl, rfl, q549⟩ := h547
                    obtain ⟨rfl, q549, q549b⟩ | ⟨rfl, q549n⟩ := q549
                    · refine e_Ok.nrm (q := 61) (st' := [(0, 1), (1, 275)]) rfl rfl ?_
                      refine e_Ok.callV rfl (Nat.le_trans (by decide) hdq) rfl rfl rfl rfl (c_334 (Nat.le_trans (by decide) hdq) j536.1 j536.2.1 j536.2.2.1 hNr j536.2.2.2.1 (by decide)) (fun r550 w551 h552 => ?_)
                      obtain ⟨rfl, q553⟩ := h552
                      obtain ⟨rfl, q553z⟩ | ⟨q553z, q553b, q553, q553s, q553t⟩ | ⟨q553z, q553b, q553, q553T, q553H, q553r⟩ := q553
                      · refine e_Ok.nrm (q := 64) (st' := []) rfl rfl ?_
                        refine e_Ok.ps0 (q := 0) 1 rfl ?_
                        refine e_Ok.sub eAlk (e_sub_of rfl ?_) (ih2  v2 ⟨j535, j536, (by unfold stL; rw [u542.out, u543.out]; omega), (Hid.mk (fun z => absurd z (by omega))), (by omega), (by omega)⟩ ((by omega)))
                        exact ⟨rfl, trivial⟩
                      · exact absurd q553z (by omega)
                      · exact absurd q553z (by omega)
                    · refine e_Ok.nrm (q := 61) (st' := [(0, 0), (1, 275)]) rfl rfl ?_
                      clear q549n
                      refine e_Ok.callV rfl (Nat.le_trans (by decide) hdq) rfl rfl rfl rfl (c_334 (Nat.le_trans (by decide) hdq) j536.1 j536.2.1 j536.2.2.1 hNr j536.2.2.2.1 (by decide)) (fun r554 w555 h556 => ?_)
                      obtain ⟨rfl, q557⟩ := h556
                      obtain ⟨rfl, q557z⟩ | ⟨q557z, q557b, q557, q557s, q557t⟩ | ⟨q557z, q557b, q557, q557T, q557H, q557r⟩ := q557
                      · refine e_Ok.nrm (q := 64) (st' := []) rfl rfl ?_
                        refine e_Ok.ps0 (q := 0) 1 rfl ?_
                        refine e_Ok.sub eAlk (e_sub_of rfl ?_) (ih2  v2 ⟨j535, j536, (by unfold stL; rw [u542.out, u543.out]; omega), (Hid.mk (fun z => absurd z (by omega))), (by omega), (by omega)⟩ ((by omega)))
                        exact ⟨rfl, trivial⟩
                      · exact absurd q557z (by omega)
                      · exact absurd q557z (by omega)
                  · replace h544 : (v2 275 88 : Int) = 0 := Classical.not_not.mp (show ¬ ((v2 275 88 : Int) ≠ 0) from h544)
                    replace x3 := x3 (by omega)
                    refine e_Ok.ps2 (x := (0, 44)) (y := (1, 275)) (q := 35) 2 rfl ?_
                    refine e_Ok.callV rfl (Nat.le_trans (by decide) hdq) rfl rfl rfl rfl (c_331 j536.1 (N := N) j536.2.2.2.1) (fun r558 w559 h560 => ?_)
                    obtain ⟨z561, rfl, rfl, q562⟩ := h560
                    obtain ⟨rfl, q562, q562b⟩ | ⟨rfl, q562n⟩ := q562
                    · refine e_Ok.nrm (q := 38) (st' := [(0, 1)]) rfl rfl ?_
                      refine e_Ok.if1 rfl (fun h563 => ?_) (fun h563 => ?_)
                      · replace h563 : (1 : Int) = 0 := h563
                        exfalso; omega
                      · replace h563 : (1 : Int) ≠ 0 := (show ¬ ((1 : Int) = 0) from h563)
                        refine e_Ok.ps1 (x := (1, 275)) (q := 42) 1 rfl ?_
                        refine e_Ok.callV rfl (Nat.le_trans (by decide) hdq) rfl rfl rfl rfl (c_327 (Nat.le_trans (by decide) hdq) j536.1 j536.2.1 j536.2.2.1 hNr (t := v2 275 87) rfl (by omega)) (fun r564 w565 h566 => ?_)
                        have p568 := tkS.pos j536.2.2.2.1 (by omega)
                        obtain ⟨rfl, q567, q567s, q567t⟩ := h566
                        have u575 : Hid (w565 275 88 = v2 275 88) := Hid.mk (q567 275 88 (mTq_fld (by decide)))
                        have c577 := cSt.tk j536 q567 q567s
                        have t578 := tkS.lin c577.2.2.2.1
                        have f579 : e_fr (mStm (w 275 78) (w 275 79) (w 275 80) (w 275 94)) w w565 := e_fr.trans j535 (e_fr.mono q567 (fun c k g => mTq_St g))
                        refine e_Ok.nrm (q := 45) (st' := []) rfl rfl ?_
                        refine e_Ok.ps3 (x := (0, 0)) (y := (0, 0)) (z := (1, 275)) (q := 48) 3 rfl ?_
                        refine e_Ok.callV rfl (Nat.le_trans (by decide) hdq) rfl rfl rfl rfl (c_338 (Nat.le_trans (by decide) hdq) c577.1 c577.2.1 c577.2.2.1 hNr c577.2.2.2.1 (mm := v2 275 94) (show Hid (w565 275 94 = v2 275 94) from Hid.mk (q567 275 94 (mTq_fld (by decide)))).out (by omega) (by decide) (by omega)) (fun r581 w582 h583 => ?_)
                        obtain ⟨rfl, q584⟩ := h583
                        obtain ⟨rfl, q584z⟩ | ⟨q584z, q584k, q584, q584T, q584H, q584r⟩ | ⟨q584z, q584k, w585, q584F, q584T, q584H, q584v, q584o, q584, q584s, q584t⟩ := q584
                        · rw [u575.out] at q584z; exact absurd q584z (by omega)
                        · refine e_Ok.nrm (q := 51) (st' := []) rfl rfl ?_
                          rw [u575.out] at q584z
                          clear q584k
                          have u594 : Hid (w582 275 86 = w565 275 86) := Hid.mk (q584 275 86 (mRf_fld (by decide)))
                          refine e_Ok.run (t' := (25, [(0, (1, 275))], [], w582)) 1 rfl ?_
                          refine e_Ok.sub eAlk (e_sub_of rfl ?_) (ih534  w582 ⟨(show e_fr (mStm (w 275 78) (w 275 79) (w 275 80) (w 275 94)) w w582 from e_fr.trans f579 (e_fr.mono q584 (fun c k g => mRf_St g))), (cSt.rf c577 q584 q584T q584H), (by unfold stL; rw [(show Hid (w582 275 78 = v2 275 78) from Hid.mk (Eq.trans (q584 275 78 (mRf_fld (by decide))) (show Hid (w565 275 78 = v2 275 78) from Hid.mk (q567 275 78 (mTq_fld (by decide)))).out)).out, (show Hid (w582 275 79 = v2 275 79) from Hid.mk (Eq.trans (q584 275 79 (mRf_fld (by decide))) (show Hid (w565 275 79 = v2 275 79) from Hid.mk (q567 275 79 (mTq_fld (by decide)))).out)).out, (show Hid (w582 275 80 = v2 275 80) from Hid.mk (Eq.trans (q584 275 80 (mRf_fld (by decide))) (show Hid (w565 275 80 = v2 275 80) from Hid.mk (q567 275 80 (mTq_fld (by decide)))).out)).out, (show Hid (w582 275 81 = w 275 81) from Hid.mk (Eq.trans (q584 275 81 (mRf_fld (by decide))) (show Hid (w565 275 81 = w 275 81) from Hid.mk (Eq.trans (q567 275 81 (mTq_fld (by decide))) u542.out)).out)).out, (show Hid (w582 275 82 = w 275 82) from Hid.mk (Eq.trans (q584 275 82 (mRf_fld (by decide))) (show Hid (w565 275 82 = w 275 82) from Hid.mk (Eq.trans (q567 275 82 (mTq_fld (by decide))) u543.out)).out)).out, (show Hid (w582 275 83 = v2 275 83) from Hid.mk (Eq.trans (q584 275 83 (mRf_fld (by decide))) (show Hid (w565 275 83 = v2 275 83) from Hid.mk (q567 275 83 (mTq_fld (by decide)))).out)).out, u594.out, (show Hid (w582 275 94 = v2 275 94) from Hid.mk (Eq.trans (q584 275 94 (mRf_fld (by decide))) (show Hid (w565 275 94 = v2 275 94) from Hid.mk (q567 275 94 (mTq_fld (by decide)))).out)).out]; omega), (Hid.mk (fun z => absurd z (by omega))), (by rw [u594.out] <;> omega), (by rw [(show Hid (w582 275 78 = v2 275 78) from Hid.mk (Eq.trans (q584 275 78 (mRf_fld (by decide))) (show Hid (w565 275 78 = v2 275 78) from Hid.mk (q567 275 78 (mTq_fld (by decide)))).out)).out, (show Hid (w582 275 79 = v2 275 79) from Hid.mk (Eq.trans (q584 275 79 (mRf_fld (by decide))) (show Hid (w565 275 79 = v2 275 79) from Hid.mk (q567 275 79 (mTq_fld (by decide)))).out)).out, (show Hid (w582 275 80 = v2 275 80) from Hid.mk (Eq.trans (q584 275 80 (mRf_fld (by decide))) (show Hid (w565 275 80 = v2 275 80) from Hid.mk (q567 275 80 (mTq_fld (by decide)))).out)).out] <;> omega), (by rw [u594.out] <;> omega)⟩ ((by rw [u594.out] <;> omega)))
                          exact ⟨rfl, trivial⟩
                        · refine e_Ok.nrm (q := 51) (st' := []) rfl rfl ?_
                          rw [u575.out] at q584z
                          have p599 := tkS.pos c577.2.2.2.1 (by omega)
                          obtain ⟨q584v1, q584v2, q584v3, q584v4, q584v5⟩ := q584v
                          replace q584v1 := (show Hid _ from q584v1)
                          replace q584v2 := (show Hid _ from q584v2)
                          replace q584v3 := (show Hid _ from q584v3)
                          replace q584v4 := (show Hid _ from q584v4)
                          replace q584v5 := (show Hid _ from q584v5)
                          replace q584o := (show Hid _ from q584o)
                          have u623 : Hid (w582 275 88 = v2 275 88) := Hid.mk (Eq.trans (q584 275 88 (mTq_fld (by decide))) (show Hid (w585 275 88 = v2 275 88) from Hid.mk (Eq.trans (q584F 275 88 (mNm_fld (by decide))) u575.out)).out)
                          have c625 := cSt.tk (cSt.nm c577 q584F) q584 q584s
                          have t626 := tkS.lin c625.2.2.2.1
                          refine e_Ok.run (t' := (25, [(0, (1, 275))], [], w582)) 1 rfl ?_
                          refine e_Ok.sub eAlk (e_sub_of rfl ?_) (ih534  w582 ⟨(show e_fr (mStm (w 275 78) (w 275 79) (w 275 80) (w 275 94)) w w582 from e_fr.trans (show e_fr (mStm (w 275 78) (w 275 79) (w 275 80) (w 275 94)) w w585 from e_fr.trans f579 (fun c k g => q584o.out c k (fun g2 => g (by unfold mStm; omega)))) (e_fr.mono q584 (fun c k g => mTq_St g))), c625, (by unfold stL; rw [(show Hid (w582 275 78 = v2 275 78) from Hid.mk (Eq.trans (q584 275 78 (mTq_fld (by decide))) (show Hid (w585 275 78 = v2 275 78) from Hid.mk (Eq.trans (q584F 275 78 (mNm_fld (by decide))) (show Hid (w565 275 78 = v2 275 78) from Hid.mk (q567 275 78 (mTq_fld (by decide)))).out)).out)).out, (show Hid (w582 275 79 = v2 275 79) from Hid.mk (Eq.trans (q584 275 79 (mTq_fld (by decide))) (show Hid (w585 275 79 = v2 275 79) from Hid.mk (Eq.trans (q584F 275 79 (mNm_fld (by decide))) (show Hid (w565 275 79 = v2 275 79) from Hid.mk (q567 275 79 (mTq_fld (by decide)))).out)).out)).out, (show Hid (w582 275 80 = v2 275 80) from Hid.mk (Eq.trans (q584 275 80 (mTq_fld (by decide))) (show Hid (w585 275 80 = v2 275 80) from Hid.mk (Eq.trans (q584F 275 80 (mNm_fld (by decide))) (show Hid (w565 275 80 = v2 275 80) from Hid.mk (q567 275 80 (mTq_fld (by decide)))).out)).out)).out, (show Hid (w582 275 81 = w 275 81) from Hid.mk (Eq.trans (q584 275 81 (mTq_fld (by decide))) (show Hid (w585 275 81 = w 275 81) from Hid.mk (Eq.trans (q584F 275 81 (mNm_fld (by decide))) (show Hid (w565 275 81 = w 275 81) from Hid.mk (Eq.trans (q567 275 81 (mTq_fld (by decide))) u542.out)).out)).out)).out, (show Hid (w582 275 82 = w 275 82) from Hid.mk (Eq.trans (q584 275 82 (mTq_fld (by decide))) (show Hid (w585 275 82 = w 275 82) from Hid.mk (Eq.trans (q584F 275 82 (mNm_fld (by decide))) (show Hid (w565 275 82 = w 275 82) from Hid.mk (Eq.trans (q567 275 82 (mTq_fld (by decide))) u543.out)).out)).out)).out, (show Hid (w582 275 83 = v2 275 83) from Hid.mk (Eq.trans (q584 275 83 (mTq_fld (by decide))) (show Hid (w585 275 83 = v2 275 83) from Hid.mk (Eq.trans (q584F 275 83 (mNm_fld (by decide))) (show Hid (w565 275 83 = v2 275 83) from Hid.mk (q567 275 83 (mTq_fld (by decide)))).out)).out)).out, u623.out, (show Hid (w582 275 94 = v2 275 94 + 1) from Hid.mk (Eq.trans (q584 275 94 (mTq_fld (by decide))) (show Hid (w585 275 94 = v2 275 94 + 1) from Hid.mk (Eq.trans q584v5.out (by omega))).out)).out]; omega), (Hid.mk (fun z => by rw [u623.out] at z; rw [(show Hid (w582 275 78 = v2 275 78) from Hid.mk (Eq.trans (q584 275 78 (mTq_fld (by decide))) (show Hid (w585 275 78 = v2 275 78) from Hid.mk (Eq.trans (q584F 275 78 (mNm_fld (by decide))) (show Hid (w565 275 78 = v2 275 78) from Hid.mk (q567 275 78 (mTq_fld (by decide)))).out)).out)).out, (show Hid (w582 275 94 = v2 275 94 + 1) from Hid.mk (Eq.trans (q584 275 94 (mTq_fld (by decide))) (show Hid (w585 275 94 = v2 275 94 + 1) from Hid.mk (Eq.trans q584v5.out (by omega))).out)).out, (show Hid (w582 275 79 = v2 275 79) from Hid.mk (Eq.trans (q584 275 79 (mTq_fld (by decide))) (show Hid (w585 275 79 = v2 275 79) from Hid.mk (Eq.trans (q584F 275 79 (mNm_fld (by decide))) (show Hid (w565 275 79 = v2 275 79) from Hid.mk (q567 275 79 (mTq_fld (by decide)))).out)).out)).out, (show Hid (w582 275 80 = v2 275 80) from Hid.mk (Eq.trans (q584 275 80 (mTq_fld (by decide))) (show Hid (w585 275 80 = v2 275 80) from Hid.mk (Eq.trans (q584F 275 80 (mNm_fld (by decide))) (show Hid (w565 275 80 = v2 275 80) from Hid.mk (q567 275 80 (mTq_fld (by decide)))).out)).out)).out]; exact ((show Hid (v2 275 88 = 0 → GV w582 N (v2 275 78) (v2 275 94 + 1) (v2 275 79) (v2 275 80) (fun _ => False) (w 275 81) (fun _ => False) 0) from Hid.mk (fun z => GV.pr ((show Hid (v2 275 88 = 0 → GV w585 N (v2 275 78) (v2 275 94 + 1) (v2 275 79) (v2 275 80) (fun _ => False) (w 275 81) (fun _ => False) 0) from Hid.mk (fun z => (GV.note ((show Hid (v2 275 88 = 0 → GV w565 N (v2 275 78) (v2 275 94) (v2 275 79) (v2 275 80) (fun _ => False) (w 275 81) (fun _ => False) 0) from Hid.mk (fun z => GV.pr (j538.out z) (prE.tk q567))).out (by omega)) q584o.out (by unfold nmO; rw [q584v1.out, q584v2.out, q584v3.out, q584v4.out]; exact ⟨by omega, by omega, fun _ => by omega⟩) q584v1.out))).out z) (prE.tk q584))).out (by omega)))), (by rw [u623.out] <;> omega), (by rw [(show Hid (w582 275 78 = v2 275 78) from Hid.mk (Eq.trans (q584 275 78 (mTq_fld (by decide))) (show Hid (w585 275 78 = v2 275 78) from Hid.mk (Eq.trans (q584F 275 78 (mNm_fld (by decide))) (show Hid (w565 275 78 = v2 275 78) from Hid.mk (q567 275 78 (mTq_fld (by decide)))).out)).out)).out, (show Hid (w582 275 79 = v2 275 79) from Hid.mk (Eq.trans (q584 275 79 (mTq_fld (by decide))) (show Hid (w585 275 79 = v2 275 79) from Hid.mk (Eq.trans (q584F 275 79 (mNm_fld (by decide))) (show Hid (w565 275 79 = v2 275 79) from Hid.mk (q567 275 79 (mTq_fld (by decide)))).out)).out)).out, (show Hid (w582 275 80 = v2 275 80) from Hid.mk (Eq.trans (q584 275 80 (mTq_fld (by decide))) (show Hid (w585 275 80 = v2 275 80) from Hid.mk (Eq.trans (q584F 275 80 (mNm_fld (by decide))) (show Hid (w565 275 80 = v2 275 80) from Hid.mk (q567 275 80 (mTq_fld (by decide)))).out)).out)).out] <;> omega), (by omega)⟩ ((by rw [u623.out] <;> omega)))
                          exact ⟨rfl, trivial⟩
                    · refine e_Ok.nrm (q := 38) (st' := [(0, 0)]) rfl rfl ?_
                      clear q562n
                      refine e_Ok.if1 rfl (fun h631 => ?_) (fun h631 => ?_)
                      · replace h631 : (0 : Int) = 0 := h631
                        refine e_Ok.ps3 (x := (0, 59)) (y := (1, 275)) (z := (1, 275)) (q := 58) 3 rfl ?_
                        refine e_Ok.callV rfl (Nat.le_trans (by decide) hdq) rfl rfl rfl rfl (c_331 j536.1 (N := N) j536.2.2.2.1) (fun r632 w633 h634 => ?_)
                        obtain ⟨z635, rfl, rfl, q636⟩ := h634
                        obtain ⟨rfl, q636, q636b⟩ | ⟨rfl, q636n⟩ := q636
                        · refine e_Ok.nrm (q := 61) (st' := [(0, 1), (1, 275)]) rfl rfl ?_
                          refine e_Ok.callV rfl (Nat.le_trans (by decide) hdq) rfl rfl rfl rfl (c_334 (Nat.le_trans (by decide) hdq) j536.1 j536.2.1 j536.2.2.1 hNr j536.2.2.2.1 (by decide)) (fun r637 w638 h639 => ?_)
                          obtain ⟨rfl, q640⟩ := h639
                          obtain ⟨rfl, q640z⟩ | ⟨q640z, q640b, q640, q640s, q640t⟩ | ⟨q640z, q640b, q640, q640T, q640H, q640r⟩ := q640
                          · exact absurd q640z (by omega)
                          · refine e_Ok.nrm (q := 64) (st' := []) rfl rfl ?_
                            have p641 := tkS.pos j536.2.2.2.1 (by omega)
                            have u648 : Hid (w638 275 88 = v2 275 88) := Hid.mk (q640 275 88 (mTq_fld (by decide)))
                            have c650 := cSt.tk j536 q640 q640s
                            have t651 := tkS.lin c650.2.2.2.1
                            refine e_Ok.ps0 (q := 0) 1 rfl ?_
                            refine e_Ok.sub eAlk (e_sub_of rfl ?_) (ih2  w638 ⟨(show e_fr (mStm (w 275 78) (w 275 79) (w 275 80) (w 275 94)) w w638 from e_fr.trans j535 (e_fr.mono q640 (fun c k g => mTq_St g))), c650, (by unfold stL; rw [(show Hid (w638 275 78 = v2 275 78) from Hid.mk (q640 275 78 (mTq_fld (by decide)))).out, (show Hid (w638 275 79 = v2 275 79) from Hid.mk (q640 275 79 (mTq_fld (by decide)))).out, (show Hid (w638 275 80 = v2 275 80) from Hid.mk (q640 275 80 (mTq_fld (by decide)))).out, (show Hid (w638 275 81 = w 275 81) from Hid.mk (Eq.trans (q640 275 81 (mTq_fld (by decide))) u542.out)).out, (show Hid (w638 275 82 = w 275 82) from Hid.mk (Eq.trans (q640 275 82 (mTq_fld (by decide))) u543.out)).out, (show Hid (w638 275 83 = v2 275 83) from Hid.mk (q640 275 83 (mTq_fld (by decide)))).out, u648.out, (show Hid (w638 275 94 = v2 275 94) from Hid.mk (q640 275 94 (mTq_fld (by decide)))).out]; omega), (Hid.mk (fun z => by rw [u648.out] at z; rw [(show Hid (w638 275 78 = v2 275 78) from Hid.mk (q640 275 78 (mTq_fld (by decide)))).out, (show Hid (w638 275 94 = v2 275 94) from Hid.mk (q640 275 94 (mTq_fld (by decide)))).out, (show Hid (w638 275 79 = v2 275 79) from Hid.mk (q640 275 79 (mTq_fld (by decide)))).out, (show Hid (w638 275 80 = v2 275 80) from Hid.mk (q640 275 80 (mTq_fld (by decide)))).out]; exact ((show Hid (v2 275 88 = 0 → GV w638 N (v2 275 78) (v2 275 94) (v2 275 79) (v2 275 80) (fun _ => False) (w 275 81) (fun _ => False) 0) from Hid.mk (fun z => GV.pr (j538.out z) (prE.tk q640))).out (by omega)))), (by rw [u648.out] <;> omega), (by rw [(show Hid (w638 275 78 = v2 275 78) from Hid.mk (q640 275 78 (mTq_fld (by decide)))).out, (show Hid (w638 275 79 = v2 275 79) from Hid.mk (q640 275 79 (mTq_fld (by decide)))).out, (show Hid (w638 275 80 = v2 275 80) from Hid.mk (q640 275 80 (mTq_fld (by decide)))).out] <;> omega)⟩ ((by rw [u648.out] <;> omega)))
                            exact ⟨rfl, trivial⟩
                          · exact absurd q640b (by decide)
                        · refine e_Ok.nrm (q := 61) (st' := [(0, 0), (1, 275)]) rfl rfl ?_
                          clear q636n
                          refine e_Ok.callV rfl (Nat.le_trans (by decide) hdq) rfl rfl rfl rfl (c_334 (Nat.le_trans (by decide) hdq) j536.1 j536.2.1 j536.2.2.1 hNr j536.2.2.2.1 (by decide)) (fun r654 w655 h656 => ?_)
                          obtain ⟨rfl, q657⟩ := h656
                          obtain ⟨rfl, q657z⟩ | ⟨q657z, q657b, q657, q657s, q657t⟩ | ⟨q657z, q657b, q657, q657T, q657H, q657r⟩ := q657
                          · exact absurd q657z (by omega)
                          · exact absurd q657b (by decide)
                          · refine e_Ok.nrm (q := 64) (st' := []) rfl rfl ?_
                            refine e_Ok.ps0 (q := 0) 1 rfl ?_
                            refine e_Ok.sub eAlk (e_sub_of rfl ?_) (ih2  w655 ⟨(show e_fr (mStm (w 275 78) (w 275 79) (w 275 80) (w 275 94)) w w655 from e_fr.trans j535 (e_fr.mono q657 (fun c k g => mRf_St g))), (cSt.rf j536 q657 q657T q657H), (by unfold stL; rw [(show Hid (w655 275 78 = v2 275 78) from Hid.mk (q657 275 78 (mRf_fld (by decide)))).out, (show Hid (w655 275 79 = v2 275 79) from Hid.mk (q657 275 79 (mRf_fld (by decide)))).out, (show Hid (w655 275 80 = v2 275 80) from Hid.mk (q657 275 80 (mRf_fld (by decide)))).out, (show Hid (w655 275 81 = w 275 81) from Hid.mk (Eq.trans (q657 275 81 (mRf_fld (by decide))) u542.out)).out, (show Hid (w655 275 82 = w 275 82) from Hid.mk (Eq.trans (q657 275 82 (mRf_fld (by decide))) u543.out)).out, (show Hid (w655 275 83 = v2 275 83) from Hid.mk (q657 275 83 (mRf_fld (by decide)))).out, (show Hid (w655 275 86 = v2 275 86) from Hid.mk (q657 275 86 (mRf_fld (by decide)))).out, (show Hid (w655 275 94 = v2 275 94) from Hid.mk (q657 275 94 (mRf_fld (by decide)))).out]; omega), (Hid.mk (fun z => absurd z (by omega))), (by rw [(show Hid (w655 275 86 = v2 275 86) from Hid.mk (q657 275 86 (mRf_fld (by decide)))).out] <;> omega), (by rw [(show Hid (w655 275 78 = v2 275 78) from Hid.mk (q657 275 78 (mRf_fld (by decide)))).out, (show Hid (w655 275 79 = v2 275 79) from Hid.mk (q657 275 79 (mRf_fld (by decide)))).out, (show Hid (w655 275 80 = v2 275 80) from Hid.mk (q657 275 80 (mRf_fld (by decide)))).out] <;> omega)⟩ ((by rw [(show Hid (w655 275 86 = v2 275 86) from Hid.mk (q657 275 86 (mRf_fld (by decide)))).out] <;> omega)))
                            exact ⟨rfl, trivial⟩
                      · replace h631 : (0 : Int) ≠ 0 := (show ¬ ((0 : Int) = 0) from h631)
                        exfalso; omega
              refine e_Ok.sub eAlk (e_sub_of rfl ?_) (hL533 (32010 + 1 : Int).toNat  w516 ⟨(show e_fr (mStm (w 275 78) (w 275 79) (w 275 80) (w 275 94)) w w516 from e_fr.trans f513 (e_fr.mono q518 (fun c k g => mRf_St g))), (cSt.rf c511 q518 q518T q518H), (by unfold stL; rw [(show Hid (w516 275 78 = v1 275 78) from Hid.mk (Eq.trans (q518 275 78 (mRf_fld (by decide))) (show Hid (w498 275 78 = v1 275 78) from Hid.mk (q500 275 78 (mTq_fld (by decide)))).out)).out, (show Hid (w516 275 79 = v1 275 79) from Hid.mk (Eq.trans (q518 275 79 (mRf_fld (by decide))) (show Hid (w498 275 79 = v1 275 79) from Hid.mk (q500 275 79 (mTq_fld (by decide)))).out)).out, (show Hid (w516 275 80 = v1 275 80) from Hid.mk (Eq.trans (q518 275 80 (mRf_fld (by decide))) (show Hid (w498 275 80 = v1 275 80) from Hid.mk (q500 275 80 (mTq_fld (by decide)))).out)).out, (show Hid (w516 275 81 = w 275 81) from Hid.mk (Eq.trans (q518 275 81 (mRf_fld (by decide))) (show Hid (w498 275 81 = w 275 81) from Hid.mk (Eq.trans (q500 275 81 (mTq_fld (by decide))) u9.out)).out)).out, (show Hid (w516 275 82 = w 275 82) from Hid.mk (Eq.trans (q518 275 82 (mRf_fld (by decide))) (show Hid (w498 275 82 = w 275 82) from Hid.mk (Eq.trans (q500 275 82 (mTq_fld (by decide))) u10.out)).out)).out, (show Hid (w516 275 83 = v1 275 83) from Hid.mk (Eq.trans (q518 275 83 (mRf_fld (by decide))) (show Hid (w498 275 83 = v1 275 83) from Hid.mk (q500 275 83 (mTq_fld (by decide)))).out)).out, u528.out, (show Hid (w516 275 94 = v1 275 94) from Hid.mk (Eq.trans (q518 275 94 (mRf_fld (by decide))) (show Hid (w498 275 94 = v1 275 94) from Hid.mk (q500 275 94 (mTq_fld (by decide)))).out)).out]; omega), (Hid.mk (fun z => absurd z (by omega))), (by rw [u528.out] <;> omega), (by rw [(show Hid (w516 275 78 = v1 275 78) from Hid.mk (Eq.trans (q518 275 78 (mRf_fld (by decide))) (show Hid (w498 275 78 = v1 275 78) from Hid.mk (q500 275 78 (mTq_fld (by decide)))).out)).out, (show Hid (w516 275 79 = v1 275 79) from Hid.mk (Eq.trans (q518 275 79 (mRf_fld (by decide))) (show Hid (w498 275 79 = v1 275 79) from Hid.mk (q500 275 79 (mTq_fld (by decide)))).out)).out, (show Hid (w516 275 80 = v1 275 80) from Hid.mk (Eq.trans (q518 275 80 (mRf_fld (by decide))) (show Hid (w498 275 80 = v1 275 80) from Hid.mk (q500 275 80 (mTq_fld (by decide)))).out)).out] <;> omega), (by rw [u528.out] <;> omega)⟩ ((by rw [u528.out] <;> omega)))
              exact ⟨rfl, trivial⟩
            · refine e_Ok.nrm (q := 25) (st' := []) rfl rfl ?_
              rw [u509.out] at q518z
              have p671 := tkS.pos c511.2.2.2.1 (by omega)
              obtain ⟨q518v1, q518v2, q518v3, q518v4, q518v5⟩ := q518v
              replace q518v1 := (show Hid _ from q518v1)
              replace q518v2 := (show Hid _ from q518v2)
              replace q518v3 := (show Hid _ from q518v3)
              replace q518v4 := (show Hid _ from q518v4)
              replace q518v5 := (show Hid _ from q518v5)
              replace q518o := (show Hid _ from q518o)
              have u695 : Hid (w516 275 88 = v1 275 88) := Hid.mk (Eq.trans (q518 275 88 (mTq_fld (by decide))) (show Hid (w519 275 88 = v1 275 88) from Hid.mk (Eq.trans (q518F 275 88 (mNm_fld (by decide))) u509.out)).out)
              have c697 := cSt.tk (cSt.nm c511 q518F) q518 q518s
              have t698 := tkS.lin c697.2.2.2.1
              have hL703 : ∀ (nn : Nat) (v2 : eW), e_fr (mStm (w 275 78) (w 275 79) (w 275 80) (w 275 94)) w v2 ∧ cSt v2 N ∧ stL w v2 0 640 ∧ Hid (v2 275 88 = 0 → GV v2 N (v2 275 78) (v2 275 94) (v2 275 79) (v2 275 80) (fun _ => False) (w 275 81) (fun _ => False) 0) ∧ ((0 ≤ v2 275 86 ∧ v2 275 86 ≤ N ∧ 0 ≤ v2 275 88 ∧ v2 275 88 ≤ 7)) ∧ ((v2 275 78 = 0 ∧ v2 275 79 = 0 ∧ v2 275 80 = 0)) ∧ (v1 275 86 < v2 275 86) → 8 * (N - v2 275 86) + 7 - v2 275 88 < nn → e_Ok 20 elay ecode eI (d + 1) 353 (25, [(0, (1, 275))], [], v2) (fun r w' => r = [] ∧ e_fr (mStm (w 275 78) (w 275 79) (w 275 80) (w 275 94)) w w' ∧ cSt w' N ∧ stL w w' 0 640 ∧ (w' 275 88 = 0 → GX w' N (w' 275 78) (w' 275 94) (w' 275 79) (w' 275 80) (fun _ => False) (w 275 81) (fun _ => False) 0)) := by
                intro nn
                induction nn with
                | zero => intro v2 hj hm; obtain ⟨j705, j706, j707, j708, j709, j710, j711⟩ := hj; exfalso; omega
                | succ nn ih704 =>
                  intro v2 hj hm
                  obtain ⟨j705, j706, j707, j708, j709, j710, j711⟩ := hj
                  have xl := j707
                  unfold stL at xl
                  obtain ⟨x1, x2, x3, x4, x5, x6, x7, x8, x9, x10, x11, x12⟩ := xl
                  have xt := tkS.lin j706.2.2.2.1
                  have xf := e_Has.get j706.2.1 (c := 275) (k := 88) (lo := 0) (hi := 7) rfl (by decide)
                  have xr := j706.2.2.2.2
                  have u712 : Hid (v2 275 81 = w 275 81) := Hid.mk (by omega)
                  have u713 : Hid (v2 275 82 = w 275 82) := Hid.mk (by omega)
                  refine e_Ok.run (t' := (26, [(0, (1, 275))], [(1, 275)], v2)) 1 rfl ?_
                  refine e_Ok.getf (z := v2 275 88) rfl (el_o rfl) rfl (ef_o rfl) rfl (by omega) ?_
                  refine e_Ok.if1 rfl (fun h714 => ?_) (fun h714 => ?_)
                  · replace h714 : (v2 275 88 : Int) ≠ 0 := h714
                    clear x3
                    refine e_Ok.ps3 (x := (0, 59)) (y := (1, 275)) (z := (1, 275)) (q := 58) 3 rfl ?_
                    refine e_Ok.callV rfl (Nat.le_trans (by decide) hdq) rfl rfl rfl rfl (c_331 j706.1 (N := N) j706.2.2.2.1) (fun r715 w716 h717 => ?_)
                    obtain ⟨z718, rfl, rfl, q719⟩ := h717
                    obtain ⟨rfl, q719, q719b⟩ | ⟨rfl, q719n⟩ := q719
                    · refine e_Ok.nrm (q := 61) (st' := [(0, 1), (1, 275)]) rfl rfl ?_
                      refine e_Ok.callV rfl (Nat.le_trans (by decide) hdq) rfl rfl rfl rfl (c_334 (Nat.le_trans (by decide) hdq) j706.1 j706.2.1 j706.2.2.1 hNr j706.2.2.2.1 (by decide)) (fun r720 w721 h722 => ?_)
                      obtain ⟨rfl, q723⟩ := h722
                      obtain ⟨rfl, q723z⟩ | ⟨q723z, q723b, q723, q723s, q723t⟩ | ⟨q723z, q723b, q723, q723T, q723H, q723r⟩ := q723
                      · refine e_Ok.nrm (q := 64) (st' := []) rfl rfl ?_
                        refine e_Ok.ps0 (q := 0) 1 rfl ?_
                        refine e_Ok.sub eAlk (e_sub_of rfl ?_) (ih2  v2 ⟨j705, j706, (by unfold stL; rw [u712.out, u713.out]; omega), (Hid.mk (fun z => absurd z (by omega))), (by omega), (by omega)⟩ ((by omega)))
                        exact ⟨rfl, trivial⟩
                      · exact absurd q723z (by omega)
                      · exact absurd q723z (by omega)
                    · refine e_Ok.nrm (q := 61) (st' := [(0, 0), (1, 275)]) rfl rfl ?_
                      clear q719n
                      refine e_Ok.callV rfl (Nat.le_trans (by decide) hdq) rfl rfl rfl rfl (c_334 (Nat.le_trans (by decide) hdq) j706.1 j706.2.1 j706.2.2.1 hNr j706.2.2.2.1 (by decide)) (fun r724 w725 h726 => ?_)
                      obtain ⟨rfl, q727⟩ := h726
                      obtain ⟨rfl, q727z⟩ | ⟨q727z, q727b, q727, q727s, q727t⟩ | ⟨q727z, q727b, q727, q727T, q727H, q727r⟩ := q727
                      · refine e_Ok.nrm (q := 64) (st' := []) rfl rfl ?_
                        refine e_Ok.ps0 (q := 0) 1 rfl ?_
                        refine e_Ok.sub eAlk (e_sub_of rfl ?_) (ih2  v2 ⟨j705, j706, (by unfold stL; rw [u712.out, u713.out]; omega), (Hid.mk (fun z => absurd z (by omega))), (by omega), (by omega)⟩ ((by omega)))
                        exact ⟨rfl, trivial⟩
                      · exact absurd q727z (by omega)
                      · exact absurd q727z (by omega)
                  · replace h714 : (v2 275 88 : Int) = 0 := Classical.not_not.mp (show ¬ ((v2 275 88 : Int) ≠ 0) from h714)
                    replace x3 := x3 (by omega)
                    refine e_Ok.ps2 (x := (0, 44)) (y := (1, 275)) (q := 35) 2 rfl ?_
                    refine e_Ok.callV rfl (Nat.le_trans (by decide) hdq) rfl rfl rfl rfl (c_331 j706.1 (N := N) j706.2.2.2.1) (fun r728 w729 h730 => ?_)
                    obtain ⟨z731, rfl, rfl, q732⟩ := h730
                    obtain ⟨rfl, q732, q732b⟩ | ⟨rfl, q732n⟩ := q732
                    · refine e_Ok.nrm (q := 38) (st' := [(0, 1)]) rfl rfl ?_
                      refine e_Ok.if1 rfl (fun h733 => ?_) (fun h733 => ?_)
                      · replace h733 : (1 : Int) = 0 := h733
                        exfalso; omega
                      · replace h733 : (1 : Int) ≠ 0 := (show ¬ ((1 : Int) = 0) from h733)
                        refine e_Ok.ps1 (x := (1, 275)) (q := 42) 1 rfl ?_
                        refine e_Ok.callV rfl (Nat.le_trans (by decide) hdq) rfl rfl rfl rfl (c_327 (Nat.le_trans (by decide) hdq) j706.1 j706.2.1 j706.2.2.1 hNr (t := v2 275 87) rfl (by omega)) (fun r734 w735 h736 => ?_)
                        have p738 := tkS.pos j706.2.2.2.1 (by omega)
                        obtain ⟨rfl, q737, q737s, q737t⟩ := h736
                        have u745 : Hid (w735 275 88 = v2 275 88) := Hid.mk (q737 275 88 (mTq_fld (by decide)))
                        have c747 := cSt.tk j706 q737 q737s
                        have t748 := tkS.lin c747.2.2.2.1
                        have f749 : e_fr (mStm (w 275 78) (w 275 79) (w 275 80) (w 275 94)) w w735 := e_fr.trans j705 (e_fr.mono q737 (fun c k g => mTq_St g))
                        refine e_Ok.nrm (q := 45) (st' := []) rfl rfl ?_
                        refine e_Ok.ps3 (x := (0, 0)) (y := (0, 0)) (z := (1, 275)) (q := 48) 3 rfl ?_
                        refine e_Ok.callV rfl (Nat.le_trans (by decide) hdq) rfl rfl rfl rfl (c_338 (Nat.le_trans (by decide) hdq) c747.1 c747.2.1 c747.2.2.1 hNr c747.2.2.2.1 (mm := v2 275 94) (show Hid (w735 275 94 = v2 275 94) from Hid.mk (q737 275 94 (mTq_fld (by decide)))).out (by omega) (by decide) (by omega)) (fun r751 w752 h753 => ?_)
                        obtain ⟨rfl, q754⟩ := h753
                        obtain ⟨rfl, q754z⟩ | ⟨q754z, q754k, q754, q754T, q754H, q754r⟩ | ⟨q754z, q754k, w755, q754F, q754T, q754H, q754v, q754o, q754, q754s, q754t⟩ := q754
                        · rw [u745.out] at q754z; exact absurd q754z (by omega)
                        · refine e_Ok.nrm (q := 51) (st' := []) rfl rfl ?_
                          rw [u745.out] at q754z
                          clear q754k
                          have u764 : Hid (w752 275 86 = w735 275 86) := Hid.mk (q754 275 86 (mRf_fld (by decide)))
                          refine e_Ok.run (t' := (25, [(0, (1, 275))], [], w752)) 1 rfl ?_
                          refine e_Ok.sub eAlk (e_sub_of rfl ?_) (ih704  w752 ⟨(show e_fr (mStm (w 275 78) (w 275 79) (w 275 80) (w 275 94)) w w752 from e_fr.trans f749 (e_fr.mono q754 (fun c k g => mRf_St g))), (cSt.rf c747 q754 q754T q754H), (by unfold stL; rw [(show Hid (w752 275 78 = v2 275 78) from Hid.mk (Eq.trans (q754 275 78 (mRf_fld (by decide))) (show Hid (w735 275 78 = v2 275 78) from Hid.mk (q737 275 78 (mTq_fld (by decide)))).out)).out, (show Hid (w752 275 79 = v2 275 79) from Hid.mk (Eq.trans (q754 275 79 (mRf_fld (by decide))) (show Hid (w735 275 79 = v2 275 79) from Hid.mk (q737 275 79 (mTq_fld (by decide)))).out)).out, (show Hid (w752 275 80 = v2 275 80) from Hid.mk (Eq.trans (q754 275 80 (mRf_fld (by decide))) (show Hid (w735 275 80 = v2 275 80) from Hid.mk (q737 275 80 (mTq_fld (by decide)))).out)).out, (show Hid (w752 275 81 = w 275 81) from Hid.mk (Eq.trans (q754 275 81 (mRf_fld (by decide))) (show Hid (w735 275 81 = w 275 81) from Hid.mk (Eq.trans (q737 275 81 (mTq_fld (by decide))) u712.out)).out)).out, (show Hid (w752 275 82 = w 275 82) from Hid.mk (Eq.trans (q754 275 82 (mRf_fld (by decide))) (show Hid (w735 275 82 = w 275 82) from Hid.mk (Eq.trans (q737 275 82 (mTq_fld (by decide))) u713.out)).out)).out, (show Hid (w752 275 83 = v2 275 83) from Hid.mk (Eq.trans (q754 275 83 (mRf_fld (by decide))) (show Hid (w735 275 83 = v2 275 83) from Hid.mk (q737 275 83 (mTq_fld (by decide)))).out)).out, u764.out, (show Hid (w752 275 94 = v2 275 94) from Hid.mk (Eq.trans (q754 275 94 (mRf_fld (by decide))) (show Hid (w735 275 94 = v2 275 94) from Hid.mk (q737 275 94 (mTq_fld (by decide)))).out)).out]; omega), (Hid.mk (fun z => absurd z (by omega))), (by rw [u764.out] <;> omega), (by rw [(show Hid (w752 275 78 = v2 275 78) from Hid.mk (Eq.trans (q754 275 78 (mRf_fld (by decide))) (show Hid (w735 275 78 = v2 275 78) from Hid.mk (q737 275 78 (mTq_fld (by decide)))).out)).out, (show Hid (w752 275 79 = v2 275 79) from Hid.mk (Eq.trans (q754 275 79 (mRf_fld (by decide))) (show Hid (w735 275 79 = v2 275 79) from Hid.mk (q737 275 79 (mTq_fld (by decide)))).out)).out, (show Hid (w752 275 80 = v2 275 80) from Hid.mk (Eq.trans (q754 275 80 (mRf_fld (by decide))) (show Hid (w735 275 80 = v2 275 80) from Hid.mk (q737 275 80 (mTq_fld (by decide)))).out)).out] <;> omega), (by rw [u764.out] <;> omega)⟩ ((by rw [u764.out] <;> omega)))
                          exact ⟨rfl, trivial⟩
                        · refine e_Ok.nrm (q := 51) (st' := []) rfl rfl ?_
                          rw [u745.out] at q754z
                          have p769 := tkS.pos c747.2.2.2.1 (by omega)
                          obtain ⟨q754v1, q754v2, q754v3, q754v4, q754v5⟩ := q754v
                          replace q754v1 := (show Hid _ from q754v1)
                          replace q754v2 := (show Hid _ from q754v2)
                          replace q754v3 := (show Hid _ from q754v3)
                          replace q754v4 := (show Hid _ from q754v4)
                          replace q754v5 := (show Hid _ from q754v5)
                          replace q754o := (show Hid _ from q754o)
                          have u793 : Hid (w752 275 88 = v2 275 88) := Hid.mk (Eq.trans (q754 275 88 (mTq_fld (by decide))) (show Hid (w755 275 88 = v2 275 88) from Hid.mk (Eq.trans (q754F 275 88 (mNm_fld (by decide))) u745.out)).out)
                          have c795 := cSt.tk (cSt.nm c747 q754F) q754 q754s
                          have t796 := tkS.lin c795.2.2.2.1
                          refine e_Ok.run (t' := (25, [(0, (1, 275))], [], w752)) 1 rfl ?_
                          refine e_Ok.sub eAlk (e_sub_of rfl ?_) (ih704  w752 ⟨(show e_fr (mStm (w 275 78) (w 275 79) (w 275 80) (w 275 94)) w w752 from e_fr.trans (show e_fr (mStm (w 275 78) (w 275 79) (w 275 80) (w 275 94)) w w755 from e_fr.trans f749 (fun c k g => q754o.out c k (fun g2 => g (by unfold mStm; omega)))) (e_fr.mono q754 (fun c k g => mTq_St g))), c795, (by unfold stL; rw [(show Hid (w752 275 78 = v2 275 78) from Hid.mk (Eq.trans (q754 275 78 (mTq_fld (by decide))) (show Hid (w755 275 78 = v2 275 78) from Hid.mk (Eq.trans (q754F 275 78 (mNm_fld (by decide))) (show Hid (w735 275 78 = v2 275 78) from Hid.mk (q737 275 78 (mTq_fld (by decide)))).out)).out)).out, (show Hid (w752 275 79 = v2 275 79) from Hid.mk (Eq.trans (q754 275 79 (mTq_fld (by decide))) (show Hid (w755 275 79 = v2 275 79) from Hid.mk (Eq.trans (q754F 275 79 (mNm_fld (by decide))) (show Hid (w735 275 79 = v2 275 79) from Hid.mk (q737 275 79 (mTq_fld (by decide)))).out)).out)).out, (show Hid (w752 275 80 = v2 275 80) from Hid.mk (Eq.trans (q754 275 80 (mTq_fld (by decide))) (show Hid (w755 275 80 = v2 275 80) from Hid.mk (Eq.trans (q754F 275 80 (mNm_fld (by decide))) (show Hid (w735 275 80 = v2 275 80) from Hid.mk (q737 275 80 (mTq_fld (by decide)))).out)).out)).out, (show Hid (w752 275 81 = w 275 81) from Hid.mk (Eq.trans (q754 275 81 (mTq_fld (by decide))) (show Hid (w755 275 81 = w 275 81) from Hid.mk (Eq.trans (q754F 275 81 (mNm_fld (by decide))) (show Hid (w735 275 81 = w 275 81) from Hid.mk (Eq.trans (q737 275 81 (mTq_fld (by decide))) u712.out)).out)).out)).out, (show Hid (w752 275 82 = w 275 82) from Hid.mk (Eq.trans (q754 275 82 (mTq_fld (by decide))) (show Hid (w755 275 82 = w 275 82) from Hid.mk (Eq.trans (q754F 275 82 (mNm_fld (by decide))) (show Hid (w735 275 82 = w 275 82) from Hid.mk (Eq.trans (q737 275 82 (mTq_fld (by decide))) u713.out)).out)).out)).out, (show Hid (w752 275 83 = v2 275 83) from Hid.mk (Eq.trans (q754 275 83 (mTq_fld (by decide))) (show Hid (w755 275 83 = v2 275 83) from Hid.mk (Eq.trans (q754F 275 83 (mNm_fld (by decide))) (show Hid (w735 275 83 = v2 275 83) from Hid.mk (q737 275 83 (mTq_fld (by decide)))).out)).out)).out, u793.out, (show Hid (w752 275 94 = v2 275 94 + 1) from Hid.mk (Eq.trans (q754 275 94 (mTq_fld (by decide))) (show Hid (w755 275 94 = v2 275 94 + 1) from Hid.mk (Eq.trans q754v5.out (by omega))).out)).out]; omega), (Hid.mk (fun z => by rw [u793.out] at z; rw [(show Hid (w752 275 78 = v2 275 78) from Hid.mk (Eq.trans (q754 275 78 (mTq_fld (by decide))) (show Hid (w755 275 78 = v2 275 78) from Hid.mk (Eq.trans (q754F 275 78 (mNm_fld (by decide))) (show Hid (w735 275 78 = v2 275 78) from Hid.mk (q737 275 78 (mTq_fld (by decide)))).out)).out)).out, (show Hid (w752 275 94 = v2 275 94 + 1) from Hid.mk (Eq.trans (q754 275 94 (mTq_fld (by decide))) (show Hid (w755 275 94 = v2 275 94 + 1) from Hid.mk (Eq.trans q754v5.out (by omega))).out)).out, (show Hid (w752 275 79 = v2 275 79) from Hid.mk (Eq.trans (q754 275 79 (mTq_fld (by decide))) (show Hid (w755 275 79 = v2 275 79) from Hid.mk (Eq.trans (q754F 275 79 (mNm_fld (by decide))) (show Hid (w735 275 79 = v2 275 79) from Hid.mk (q737 275 79 (mTq_fld (by decide)))).out)).out)).out, (show Hid (w752 275 80 = v2 275 80) from Hid.mk (Eq.trans (q754 275 80 (mTq_fld (by decide))) (show Hid (w755 275 80 = v2 275 80) from Hid.mk (Eq.trans (q754F 275 80 (mNm_fld (by decide))) (show Hid (w735 275 80 = v2 275 80) from Hid.mk (q737 275 80 (mTq_fld (by decide)))).out)).out)).out]; exact ((show Hid (v2 275 88 = 0 → GV w752 N (v2 275 78) (v2 275 94 + 1) (v2 275 79) (v2 275 80) (fun _ => False) (w 275 81) (fun _ => False) 0) from Hid.mk (fun z => GV.pr ((show Hid (v2 275 88 = 0 → GV w755 N (v2 275 78) (v2 275 94 + 1) (v2 275 79) (v2 275 80) (fun _ => False) (w 275 81) (fun _ => False) 0) from Hid.mk (fun z => (GV.note ((show Hid (v2 275 88 = 0 → GV w735 N (v2 275 78) (v2 275 94) (v2 275 79) (v2 275 80) (fun _ => False) (w 275 81) (fun _ => False) 0) from Hid.mk (fun z => GV.pr (j708.out z) (prE.tk q737))).out (by omega)) q754o.out (by unfold nmO; rw [q754v1.out, q754v2.out, q754v3.out, q754v4.out]; exact ⟨by omega, by omega, fun _ => by omega⟩) q754v1.out))).out z) (prE.tk q754))).out (by omega)))), (by rw [u793.out] <;> omega), (by rw [(show Hid (w752 275 78 = v2 275 78) from Hid.mk (Eq.trans (q754 275 78 (mTq_fld (by decide))) (show Hid (w755 275 78 = v2 275 78) from Hid.mk (Eq.trans (q754F 275 78 (mNm_fld (by decide))) (show Hid (w735 275 78 = v2 275 78) from Hid.mk (q737 275 78 (mTq_fld (by decide)))).out)).out)).out, (show Hid (w752 275 79 = v2 275 79) from Hid.mk (Eq.trans (q754 275 79 (mTq_fld (by decide))) (show Hid (w755 275 79 = v2 275 79) from Hid.mk (Eq.trans (q754F 275 79 (mNm_fld (by decide))) (show Hid (w735 275 79 = v2 275 79) from Hid.mk (q737 275 79 (mTq_fld (by decide)))).out)).out)).out, (show Hid (w752 275 80 = v2 275 80) from Hid.mk (Eq.trans (q754 275 80 (mTq_fld (by decide))) (show Hid (w755 275 80 = v2 275 80) from Hid.mk (Eq.trans (q754F 275 80 (mNm_fld (by decide))) (show Hid (w735 275 80 = v2 275 80) from Hid.mk (q737 275 80 (mTq_fld (by decide)))).out)).out)).out] <;> omega), (by omega)⟩ ((by rw [u793.out] <;> omega)))
                          exact ⟨rfl, trivial⟩
                    · refine e_Ok.nrm (q := 38) (st' := [(0, 0)]) rfl rfl ?_
                      clear q732n
                      refine e_Ok.if1 rfl (fun h801 => ?_) (fun h801 => ?_)
                      · replace h801 : (0 : Int) = 0 := h801
                        refine e_Ok.ps3 (x := (0, 59)) (y := (1, 275)) (z := (1, 275)) (q := 58) 3 rfl ?_
                        refine e_Ok.callV rfl (Nat.le_trans (by decide) hdq) rfl rfl rfl rfl (c_331 j706.1 (N := N) j706.2.2.2.1) (fun r802 w803 h804 => ?_)
                        obtain ⟨z805, rfl, rfl, q806⟩ := h804
                        obtain ⟨rfl, q806, q806b⟩ | ⟨rfl, q806n⟩ := q806
                        · refine e_Ok.nrm (q := 61) (st' := [(0, 1), (1, 275)]) rfl rfl ?_
                          refine e_Ok.callV rfl (Nat.le_trans (by decide) hdq) rfl rfl rfl rfl (c_334 (Nat.le_trans (by decide) hdq) j706.1 j706.2.1 j706.2.2.1 hNr j706.2.2.2.1 (by decide)) (fun r807 w808 h809 => ?_)
                          obtain ⟨rfl, q810⟩ := h809
                          obtain ⟨rfl, q810z⟩ | ⟨q810z, q810b, q810, q810s, q810t⟩ | ⟨q810z, q810b, q810, q810T, q810H, q810r⟩ := q810
                          · exact absurd q810z (by omega)
                          · refine e_Ok.nrm (q := 64) (st' := []) rfl rfl ?_
                            have p811 := tkS.pos j706.2.2.2.1 (by omega)
                            have u818 : Hid (w808 275 88 = v2 275 88) := Hid.mk (q810 275 88 (mTq_fld (by decide)))
                            have c820 := cSt.tk j706 q810 q810s
                            have t821 := tkS.lin c820.2.2.2.1
                            refine e_Ok.ps0 (q := 0) 1 rfl ?_
                            refine e_Ok.sub eAlk (e_sub_of rfl ?_) (ih2  w808 ⟨(show e_fr (mStm (w 275 78) (w 275 79) (w 275 80) (w 275 94)) w w808 from e_fr.trans j705 (e_fr.mono q810 (fun c k g => mTq_St g))), c820, (by unfold stL; rw [(show Hid (w808 275 78 = v2 275 78) from Hid.mk (q810 275 78 (mTq_fld (by decide)))).out, (show Hid (w808 275 79 = v2 275 79) from Hid.mk (q810 275 79 (mTq_fld (by decide)))).out, (show Hid (w808 275 80 = v2 275 80) from Hid.mk (q810 275 80 (mTq_fld (by decide)))).out, (show Hid (w808 275 81 = w 275 81) from Hid.mk (Eq.trans (q810 275 81 (mTq_fld (by decide))) u712.out)).out, (show Hid (w808 275 82 = w 275 82) from Hid.mk (Eq.trans (q810 275 82 (mTq_fld (by decide))) u713.out)).out, (show Hid (w808 275 83 = v2 275 83) from Hid.mk (q810 275 83 (mTq_fld (by decide)))).out, u818.out, (show Hid (w808 275 94 = v2 275 94) from Hid.mk (q810 275 94 (mTq_fld (by decide)))).out]; omega), (Hid.mk (fun z => by rw [u818.out] at z; rw [(show Hid (w808 275 78 = v2 275 78) from Hid.mk (q810 275 78 (mTq_fld (by decide)))).out, (show Hid (w808 275 94 = v2 275 94) from Hid.mk (q810 275 94 (mTq_fld (by decide)))).out, (show Hid (w808 275 79 = v2 275 79) from Hid.mk (q810 275 79 (mTq_fld (by decide)))).out, (show Hid (w808 275 80 = v2 275 80) from Hid.mk (q810 275 80 (mTq_fld (by decide)))).out]; exact ((show Hid (v2 275 88 = 0 → GV w808 N (v2 275 78) (v2 275 94) (v2 275 79) (v2 275 80) (fun _ => False) (w 275 81) (fun _ => False) 0) from Hid.mk (fun z => GV.pr (j708.out z) (prE.tk q810))).out (by omega)))), (by rw [u818.out] <;> omega), (by rw [(show Hid (w808 275 78 = v2 275 78) from Hid.mk (q810 275 78 (mTq_fld (by decide)))).out, (show Hid (w808 275 79 = v2 275 79) from Hid.mk (q810 275 79 (mTq_fld (by decide)))).out, (show Hid (w808 275 80 = v2 275 80) from Hid.mk (q810 275 80 (mTq_fld (by decide)))).out] <;> omega)⟩ ((by rw [u818.out] <;> omega)))
                            exact ⟨rfl, trivial⟩
                          · exact absurd q810b (by decide)
                        · refine e_Ok.nrm (q := 61) (st' := [(0, 0), (1, 275)]) rfl rfl ?_
                          clear q806n
                          refine e_Ok.callV rfl (Nat.le_trans (by decide) hdq) rfl rfl rfl rfl (c_334 (Nat.le_trans (by decide) hdq) j706.1 j706.2.1 j706.2.2.1 hNr j706.2.2.2.1 (by decide)) (fun r824 w825 h826 => ?_)
                          obtain ⟨rfl, q827⟩ := h826
                          obtain ⟨rfl, q827z⟩ | ⟨q827z, q827b, q827, q827s, q827t⟩ | ⟨q827z, q827b, q827, q827T, q827H, q827r⟩ := q827
                          · exact absurd q827z (by omega)
                          · exact absurd q827b (by decide)
                          · refine e_Ok.nrm (q := 64) (st' := []) rfl rfl ?_
                            refine e_Ok.ps0 (q := 0) 1 rfl ?_
                            refine e_Ok.sub eAlk (e_sub_of rfl ?_) (ih2  w825 ⟨(show e_fr (mStm (w 275 78) (w 275 79) (w 275 80) (w 275 94)) w w825 from e_fr.trans j705 (e_fr.mono q827 (fun c k g => mRf_St g))), (cSt.rf j706 q827 q827T q827H), (by unfold stL; rw [(show Hid (w825 275 78 = v2 275 78) from Hid.mk (q827 275 78 (mRf_fld (by decide)))).out, (show Hid (w825 275 79 = v2 275 79) from Hid.mk (q827 275 79 (mRf_fld (by decide)))).out, (show Hid (w825 275 80 = v2 275 80) from Hid.mk (q827 275 80 (mRf_fld (by decide)))).out, (show Hid (w825 275 81 = w 275 81) from Hid.mk (Eq.trans (q827 275 81 (mRf_fld (by decide))) u712.out)).out, (show Hid (w825 275 82 = w 275 82) from Hid.mk (Eq.trans (q827 275 82 (mRf_fld (by decide))) u713.out)).out, (show Hid (w825 275 83 = v2 275 83) from Hid.mk (q827 275 83 (mRf_fld (by decide)))).out, (show Hid (w825 275 86 = v2 275 86) from Hid.mk (q827 275 86 (mRf_fld (by decide)))).out, (show Hid (w825 275 94 = v2 275 94) from Hid.mk (q827 275 94 (mRf_fld (by decide)))).out]; omega), (Hid.mk (fun z => absurd z (by omega))), (by rw [(show Hid (w825 275 86 = v2 275 86) from Hid.mk (q827 275 86 (mRf_fld (by decide)))).out] <;> omega), (by rw [(show Hid (w825 275 78 = v2 275 78) from Hid.mk (q827 275 78 (mRf_fld (by decide)))).out, (show Hid (w825 275 79 = v2 275 79) from Hid.mk (q827 275 79 (mRf_fld (by decide)))).out, (show Hid (w825 275 80 = v2 275 80) from Hid.mk (q827 275 80 (mRf_fld (by decide)))).out] <;> omega)⟩ ((by rw [(show Hid (w825 275 86 = v2 275 86) from Hid.mk (q827 275 86 (mRf_fld (by decide)))).out] <;> omega)))
                            exact ⟨rfl, trivial⟩
                      · replace h801 : (0 : Int) ≠ 0 := (show ¬ ((0 : Int) = 0) from h801)
                        exfalso; omega
              refine e_Ok.sub eAlk (e_sub_of rfl ?_) (hL703 (32010 + 1 : Int).toNat  w516 ⟨(show e_fr (mStm (w 275 78) (w 275 79) (w 275 80) (w 275 94)) w w516 from e_fr.trans (show e_fr (mStm (w 275 78) (w 275 79) (w 275 80) (w 275 94)) w w519 from e_fr.trans f513 (fun c k g => q518o.out c k (fun g2 => g (by unfold mStm; omega)))) (e_fr.mono q518 (fun c k g => mTq_St g))), c697, (by unfold stL; rw [(show Hid (w516 275 78 = v1 275 78) from Hid.mk (Eq.trans (q518 275 78 (mTq_fld (by decide))) (show Hid (w519 275 78 = v1 275 78) from Hid.mk (Eq.trans (q518F 275 78 (mNm_fld (by decide))) (show Hid (w498 275 78 = v1 275 78) from Hid.mk (q500 275 78 (mTq_fld (by decide)))).out)).out)).out, (show Hid (w516 275 79 = v1 275 79) from Hid.mk (Eq.trans (q518 275 79 (mTq_fld (by decide))) (show Hid (w519 275 79 = v1 275 79) from Hid.mk (Eq.trans (q518F 275 79 (mNm_fld (by decide))) (show Hid (w498 275 79 = v1 275 79) from Hid.mk (q500 275 79 (mTq_fld (by decide)))).out)).out)).out, (show Hid (w516 275 80 = v1 275 80) from Hid.mk (Eq.trans (q518 275 80 (mTq_fld (by decide))) (show Hid (w519 275 80 = v1 275 80) from Hid.mk (Eq.trans (q518F 275 80 (mNm_fld (by decide))) (show Hid (w498 275 80 = v1 275 80) from Hid.mk (q500 275 80 (mTq_fld (by decide)))).out)).out)).out, (show Hid (w516 275 81 = w 275 81) from Hid.mk (Eq.trans (q518 275 81 (mTq_fld (by decide))) (show Hid (w519 275 81 = w 275 81) from Hid.mk (Eq.trans (q518F 275 81 (mNm_fld (by decide))) (show Hid (w498 275 81 = w 275 81) from Hid.mk (Eq.trans (q500 275 81 (mTq_fld (by decide))) u9.out)).out)).out)).out, (show Hid (w516 275 82 = w 275 82) from Hid.mk (Eq.trans (q518 275 82 (mTq_fld (by decide))) (show Hid (w519 275 82 = w 275 82) from Hid.mk (Eq.trans (q518F 275 82 (mNm_fld (by decide))) (show Hid (w498 275 82 = w 275 82) from Hid.mk (Eq.trans (q500 275 82 (mTq_fld (by decide))) u10.out)).out)).out)).out, (show Hid (w516 275 83 = v1 275 83) from Hid.mk (Eq.trans (q518 275 83 (mTq_fld (by decide))) (show Hid (w519 275 83 = v1 275 83) from Hid.mk (Eq.trans (q518F 275 83 (mNm_fld (by decide))) (show Hid (w498 275 83 = v1 275 83) from Hid.mk (q500 275 83 (mTq_fld (by decide)))).out)).out)).out, u695.out, (show Hid (w516 275 94 = v1 275 94 + 1) from Hid.mk (Eq.trans (q518 275 94 (mTq_fld (by decide))) (show Hid (w519 275 94 = v1 275 94 + 1) from Hid.mk (Eq.trans q518v5.out (by omega))).out)).out]; omega), (Hid.mk (fun z => by rw [u695.out] at z; rw [(show Hid (w516 275 78 = v1 275 78) from Hid.mk (Eq.trans (q518 275 78 (mTq_fld (by decide))) (show Hid (w519 275 78 = v1 275 78) from Hid.mk (Eq.trans (q518F 275 78 (mNm_fld (by decide))) (show Hid (w498 275 78 = v1 275 78) from Hid.mk (q500 275 78 (mTq_fld (by decide)))).out)).out)).out, (show Hid (w516 275 94 = v1 275 94 + 1) from Hid.mk (Eq.trans (q518 275 94 (mTq_fld (by decide))) (show Hid (w519 275 94 = v1 275 94 + 1) from Hid.mk (Eq.trans q518v5.out (by omega))).out)).out, (show Hid (w516 275 79 = v1 275 79) from Hid.mk (Eq.trans (q518 275 79 (mTq_fld (by decide))) (show Hid (w519 275 79 = v1 275 79) from Hid.mk (Eq.trans (q518F 275 79 (mNm_fld (by decide))) (show Hid (w498 275 79 = v1 275 79) from Hid.mk (q500 275 79 (mTq_fld (by decide)))).out)).out)).out, (show Hid (w516 275 80 = v1 275 80) from Hid.mk (Eq.trans (q518 275 80 (mTq_fld (by decide))) (show Hid (w519 275 80 = v1 275 80) from Hid.mk (Eq.trans (q518F 275 80 (mNm_fld (by decide))) (show Hid (w498 275 80 = v1 275 80) from Hid.mk (q500 275 80 (mTq_fld (by decide)))).out)).out)).out]; exact ((show Hid (v1 275 88 = 0 → GV w516 N (v1 275 78) (v1 275 94 + 1) (v1 275 79) (v1 275 80) (fun _ => False) (w 275 81) (fun _ => False) 0) from Hid.mk (fun z => GV.pr ((show Hid (v1 275 88 = 0 → GV w519 N (v1 275 78) (v1 275 94 + 1) (v1 275 79) (v1 275 80) (fun _ => False) (w 275 81) (fun _ => False) 0) from Hid.mk (fun z => (GV.note ((show Hid (v1 275 88 = 0 → GV w498 N (v1 275 78) (v1 275 94) (v1 275 79) (v1 275 80) (fun _ => False) (w 275 81) (fun _ => False) 0) from Hid.mk (fun z => GV.pr (j6.out z) (prE.tk q500))).out (by omega)) q518o.out (by unfold nmO; rw [q518v1.out, q518v2.out, q518v3.out, q518v4.out]; exact ⟨by omega, by omega, fun _ => by omega⟩) q518v1.out))).out z) (prE.tk q518))).out (by omega)))), (by rw [u695.out] <;> omega), (by rw [(show Hid (w516 275 78 = v1 275 78) from Hid.mk (Eq.trans (q518 275 78 (mTq_fld (by decide))) (show Hid (w519 275 78 = v1 275 78) from Hid.mk (Eq.trans (q518F 275 78 (mNm_fld (by decide))) (show Hid (w498 275 78 = v1 275 78) from Hid.mk (q500 275 78 (mTq_fld (by decide)))).out)).out)).out, (show Hid (w516 275 79 = v1 275 79) from Hid.mk (Eq.trans (q518 275 79 (mTq_fld (by decide))) (show Hid (w519 275 79 = v1 275 79) from Hid.mk (Eq.trans (q518F 275 79 (mNm_fld (by decide))) (show Hid (w498 275 79 = v1 275 79) from Hid.mk (q500 275 79 (mTq_fld (by decide)))).out)).out)).out, (show Hid (w516 275 80 = v1 275 80) from Hid.mk (Eq.trans (q518 275 80 (mTq_fld (by decide))) (show Hid (w519 275 80 = v1 275 80) from Hid.mk (Eq.trans (q518F 275 80 (mNm_fld (by decide))) (show Hid (w498 275 80 = v1 275 80) from Hid.mk (q500 275 80 (mTq_fld (by decide)))).out)).out)).out] <;> omega), (by omega)⟩ ((by rw [u695.out] <;> omega)))
              exact ⟨rfl, trivial⟩
        · refine e_Ok.nrm (q := 12) (st' := [(0, 0)]) rfl rfl ?_
          clear q495n
          refine e_Ok.if1 rfl (fun h841 => ?_) (fun h841 => ?_)
          · replace h841 : (0 : Int) = 0 := h841
            have hL842 : ∀ (nn : Nat) (v3 : eW), e_fr (mStm (w 275 78) (w 275 79) (w 275 80) (w 275 94)) w v3 ∧ cSt v3 N ∧ stL w v3 0 640 ∧ Hid (v3 275 88 = 0 → GX v3 N (v3 275 78) (v3 275 94) (v3 275 79) (v3 275 80) (fun _ => False) (w 275 81) (fun _ => False) 0) ∧ ((0 ≤ v3 275 86 ∧ v3 275 86 ≤ N ∧ 0 ≤ v3 275 88 ∧ v3 275 88 ≤ 7)) → 8 * (N - v3 275 86) + 7 - v3 275 88 < nn → e_Ok 20 elay ecode eI (d + 1) 353 (67, [(0, (1, 275))], [], v3) (fun r w' => r = [] ∧ e_fr (mStm (w 275 78) (w 275 79) (w 275 80) (w 275 94)) w w' ∧ cSt w' N ∧ stL w w' 0 640 ∧ (w' 275 88 = 0 → GX w' N (w' 275 78) (w' 275 94) (w' 275 79) (w' 275 80) (fun _ => False) (w 275 81) (fun _ => False) 0)) := by
              intro nn
              induction nn with
              | zero => intro v3 hj hm; obtain ⟨j844, j845, j846, j847, j848⟩ := hj; exfalso; omega
              | succ nn ih843 =>
                intro v3 hj hm
                obtain ⟨j844, j845, j846, j847, j848⟩ := hj
                have xl := j846
                unfold stL at xl
                obtain ⟨x1, x2, x3, x4, x5, x6, x7, x8, x9, x10, x11, x12⟩ := xl
                have xt := tkS.lin j845.2.2.2.1
                have xf := e_Has.get j845.2.1 (c := 275) (k := 88) (lo := 0) (hi := 7) rfl (by decide)
                have xr := j845.2.2.2.2
                have u849 : Hid (v3 275 81 = w 275 81) := Hid.mk (by omega)
                have u850 : Hid (v3 275 82 = w 275 82) := Hid.mk (by omega)
                refine e_Ok.run (t' := (68, [(0, (1, 275))], [(1, 275)], v3)) 1 rfl ?_
                refine e_Ok.getf (z := v3 275 88) rfl (el_o rfl) rfl (ef_o rfl) rfl (by omega) ?_
                refine e_Ok.if1 rfl (fun h851 => ?_) (fun h851 => ?_)
                · replace h851 : (v3 275 88 : Int) ≠ 0 := h851
                  clear x3
                  refine e_Ok.ps2 (x := (1, 275)) (y := (1, 275)) (q := 131) 2 rfl ?_
                  refine e_Ok.getf (z := v3 275 84) rfl (el_o rfl) rfl (ef_o rfl) rfl (by omega) ?_
                  refine e_Ok.if1 rfl (fun h852 => ?_) (fun h852 => ?_)
                  · replace h852 : (v3 275 84 : Int) ≠ 0 := h852
                    refine e_Ok.ps1 (x := (0, 0)) (q := 142) 1 rfl ?_
                    refine e_Ok.callV rfl (Nat.le_trans (by decide) hdq) rfl rfl rfl rfl (c_334 (Nat.le_trans (by decide) hdq) j845.1 j845.2.1 j845.2.2.1 hNr j845.2.2.2.1 (by decide)) (fun r853 w854 h855 => ?_)
                    obtain ⟨rfl, q856⟩ := h855
                    obtain ⟨rfl, q856z⟩ | ⟨q856z, q856b, q856, q856s, q856t⟩ | ⟨q856z, q856b, q856, q856T, q856H, q856r⟩ := q856
                    · refine e_Ok.nrm (q := 145) (st' := []) rfl rfl ?_
                      refine e_Ok.rets rfl rfl ?_
                      exact ⟨rfl, j844, j845, (by unfold stL; rw [u849.out, u850.out]; omega), (Hid.mk (fun z => absurd z (by omega))).out⟩
                    · exact absurd q856z (by omega)
                    · exact absurd q856z (by omega)
                  · replace h852 : (v3 275 84 : Int) = 0 := Classical.not_not.mp (show ¬ ((v3 275 84 : Int) ≠ 0) from h852)
                    refine e_Ok.ps1 (x := (0, 1)) (q := 142) 2 rfl ?_
                    refine e_Ok.callV rfl (Nat.le_trans (by decide) hdq) rfl rfl rfl rfl (c_334 (Nat.le_trans (by decide) hdq) j845.1 j845.2.1 j845.2.2.1 hNr j845.2.2.2.1 (by decide)) (fun r857 w858 h859 => ?_)
                    obtain ⟨rfl, q860⟩ := h859
                    obtain ⟨rfl, q860z⟩ | ⟨q860z, q860b, q860, q860s, q860t⟩ | ⟨q860z, q860b, q860, q860T, q860H, q860r⟩ := q860
                    · refine e_Ok.nrm (q := 145) (st' := []) rfl rfl ?_
                      refine e_Ok.rets rfl rfl ?_
                      exact ⟨rfl, j844, j845, (by unfold stL; rw [u849.out, u850.out]; omega), (Hid.mk (fun z => absurd z (by omega))).out⟩
                    · exact absurd q860z (by omega)
                    · exact absurd q860z (by omega)
                · replace h851 : (v3 275 88 : Int) = 0 := Classical.not_not.mp (show ¬ ((v3 275 88 : Int) ≠ 0) from h851)
                  replace x3 := x3 (by omega)
                  refine e_Ok.ps2 (x := (0, 1)) (y := (1, 275)) (q := 76) 2 rfl ?_
                  refine e_Ok.callV rfl (Nat.le_trans (by decide) hdq) rfl rfl rfl rfl (c_332 j845.1 (N := N) j845.2.2.2.1) (fun r861 w862 h863 => ?_)
                  obtain ⟨z864, rfl, rfl, q865⟩ := h863
                  obtain ⟨rfl, q865, q865b⟩ | ⟨rfl, q865n⟩ := q865
                  · refine e_Ok.nrm (q := 79) (st' := [(0, 1)]) rfl rfl ?_
                    refine e_Ok.if1 rfl (fun h866 => ?_) (fun h866 => ?_)
                    · replace h866 : (1 : Int) = 0 := h866
                      exfalso; omega
                    · replace h866 : (1 : Int) ≠ 0 := (show ¬ ((1 : Int) = 0) from h866)
                      refine e_Ok.ps1 (x := (1, 275)) (q := 83) 1 rfl ?_
                      refine e_Ok.callV rfl (Nat.le_trans (by decide) hdq) rfl rfl rfl rfl (c_327 (Nat.le_trans (by decide) hdq) j845.1 j845.2.1 j845.2.2.1 hNr (t := v3 275 87) rfl (by omega)) (fun r867 w868 h869 => ?_)
                      have p871 := tkS.pos j845.2.2.2.1 (by omega)
                      have p872 := tkS.key j845.2.2.2.1 (by omega)
                      obtain ⟨rfl, q870, q870s, q870t⟩ := h869
                      have u879 : Hid (w868 275 88 = v3 275 88) := Hid.mk (q870 275 88 (mTq_fld (by decide)))
                      have c881 := cSt.tk j845 q870 q870s
                      have t882 := tkS.lin c881.2.2.2.1
                      have f883 : e_fr (mStm (w 275 78) (w 275 79) (w 275 80) (w 275 94)) w w868 := e_fr.trans j844 (e_fr.mono q870 (fun c k g => mTq_St g))
                      refine e_Ok.nrm (q := 86) (st' := []) rfl rfl ?_
                      refine e_Ok.ps3 (x := (1, 275)) (y := (0, 1)) (z := (1, 275)) (q := 89) 3 rfl ?_
                      refine e_Ok.getf (z := v3 275 78) rfl (el_o rfl) rfl (ef_o rfl) (show Hid (w868 275 78 = v3 275 78) from Hid.mk (q870 275 78 (mTq_fld (by decide)))).out (by omega) ?_
                      refine e_Ok.callV rfl (Nat.le_trans (by decide) hdq) rfl rfl rfl rfl (c_338 (Nat.le_trans (by decide) hdq) c881.1 c881.2.1 c881.2.2.1 hNr c881.2.2.2.1 (mm := v3 275 94) (show Hid (w868 275 94 = v3 275 94) from Hid.mk (q870 275 94 (mTq_fld (by decide)))).out (by omega) (by decide) (by omega)) (fun r885 w886 h887 => ?_)
                      obtain ⟨rfl, q888⟩ := h887
                      obtain ⟨rfl, q888z⟩ | ⟨q888z, q888k, q888, q888T, q888H, q888r⟩ | ⟨q888z, q888k, w889, q888F, q888T, q888H, q888v, q888o, q888, q888s, q888t⟩ := q888
                      · rw [u879.out] at q888z; exact absurd q888z (by omega)
                      · refine e_Ok.nrm (q := 95) (st' := []) rfl rfl ?_
                        rw [u879.out] at q888z
                        clear q888k
                        have u890 : Hid (w886 275 78 = v3 275 78) := Hid.mk (Eq.trans (q888 275 78 (mRf_fld (by decide))) (show Hid (w868 275 78 = v3 275 78) from Hid.mk (q870 275 78 (mTq_fld (by decide)))).out)
                        have u891 : Hid (w886 275 79 = v3 275 79) := Hid.mk (Eq.trans (q888 275 79 (mRf_fld (by decide))) (show Hid (w868 275 79 = v3 275 79) from Hid.mk (q870 275 79 (mTq_fld (by decide)))).out)
                        have u892 : Hid (w886 275 80 = v3 275 80) := Hid.mk (Eq.trans (q888 275 80 (mRf_fld (by decide))) (show Hid (w868 275 80 = v3 275 80) from Hid.mk (q870 275 80 (mTq_fld (by decide)))).out)
                        have u893 : Hid (w886 275 81 = w 275 81) := Hid.mk (Eq.trans (q888 275 81 (mRf_fld (by decide))) (show Hid (w868 275 81 = w 275 81) from Hid.mk (Eq.trans (q870 275 81 (mTq_fld (by decide))) u849.out)).out)
                        have u894 : Hid (w886 275 82 = w 275 82) := Hid.mk (Eq.trans (q888 275 82 (mRf_fld (by decide))) (show Hid (w868 275 82 = w 275 82) from Hid.mk (Eq.trans (q870 275 82 (mTq_fld (by decide))) u850.out)).out)
                        have u895 : Hid (w886 275 83 = v3 275 83) := Hid.mk (Eq.trans (q888 275 83 (mRf_fld (by decide))) (show Hid (w868 275 83 = v3 275 83) from Hid.mk (q870 275 83 (mTq_fld (by decide)))).out)
                        have u898 : Hid (w886 275 86 = w868 275 86) := Hid.mk (q888 275 86 (mRf_fld (by decide)))
                        have u900 : Hid (w886 275 94 = v3 275 94) := Hid.mk (Eq.trans (q888 275 94 (mRf_fld (by decide))) (show Hid (w868 275 94 = v3 275 94) from Hid.mk (q870 275 94 (mTq_fld (by decide)))).out)
                        have c901 := cSt.rf c881 q888 q888T q888H
                        have f902 : e_fr (mStm (w 275 78) (w 275 79) (w 275 80) (w 275 94)) w w886 := e_fr.trans f883 (e_fr.mono q888 (fun c k g => mRf_St g))
                        refine e_Ok.run (t' := (99, [(0, (1, 275))], [(0, 58), (1, 275), (1, 275)], w886)) 3 rfl ?_
                        refine e_Ok.callV rfl (Nat.le_trans (by decide) hdq) rfl rfl rfl rfl (c_331 c901.1 (N := N) c901.2.2.2.1) (fun r903 w904 h905 => ?_)
                        obtain ⟨z906, rfl, rfl, q907⟩ := h905
                        obtain ⟨rfl, q907, q907b⟩ | ⟨rfl, q907n⟩ := q907
                        · refine e_Ok.nrm (q := 102) (st' := [(0, 1), (1, 275)]) rfl rfl ?_
                          rw [(show Hid (w886 275 84 = w868 275 84) from Hid.mk (q888 275 84 (mRf_fld (by decide)))).out] at q907
                          rw [(show Hid (w886 275 85 = w868 275 85) from Hid.mk (q888 275 85 (mRf_fld (by decide)))).out] at q907b
                          refine e_Ok.callV rfl (Nat.le_trans (by decide) hdq) rfl rfl rfl rfl (c_334 (Nat.le_trans (by decide) hdq) c901.1 c901.2.1 c901.2.2.1 hNr c901.2.2.2.1 (by decide)) (fun r908 w909 h910 => ?_)
                          obtain ⟨rfl, q911⟩ := h910
                          obtain ⟨rfl, q911z⟩ | ⟨q911z, q911b, q911, q911s, q911t⟩ | ⟨q911z, q911b, q911, q911T, q911H, q911r⟩ := q911
                          · show e_Ok 20 elay ecode eI (d + 1) 353 (105, [(0, (1, 275))], [], w886) _
                            refine e_Ok.ps1 (x := (1, 275)) (q := 106) 1 rfl ?_
                            refine e_Ok.callV rfl (Nat.le_trans (by decide) hdq) rfl rfl rfl rfl (c_348_0 (Nat.le_trans (by decide) hdq) c901 (by omega)) (fun r912 w913 h914 => ?_)
                            obtain ⟨rfl, rfl⟩ := h914
                            refine e_Ok.nrm (q := 109) (st' := []) rfl rfl ?_
                            refine e_Ok.ps3 (x := (0, 2)) (y := (1, 275)) (z := (1, 275)) (q := 112) 3 rfl ?_
                            refine e_Ok.callV rfl (Nat.le_trans (by decide) hdq) rfl rfl rfl rfl (c_332 c901.1 (N := N) c901.2.2.2.1) (fun r915 w916 h917 => ?_)
                            obtain ⟨z918, rfl, rfl, q919⟩ := h917
                            obtain ⟨rfl, q919, q919b⟩ | ⟨rfl, q919n⟩ := q919
                            · refine e_Ok.nrm (q := 115) (st' := [(0, 1), (1, 275)]) rfl rfl ?_
                              rw [(show Hid (w886 275 84 = w868 275 84) from Hid.mk (q888 275 84 (mRf_fld (by decide)))).out] at q919
                              rw [(show Hid (w886 275 85 = w868 275 85) from Hid.mk (q888 275 85 (mRf_fld (by decide)))).out] at q919b
                              refine e_Ok.callV rfl (Nat.le_trans (by decide) hdq) rfl rfl rfl rfl (c_334 (Nat.le_trans (by decide) hdq) c901.1 c901.2.1 c901.2.2.1 hNr c901.2.2.2.1 (by decide)) (fun r920 w921 h922 => ?_)
                              obtain ⟨rfl, q923⟩ := h922
                              obtain ⟨rfl, q923z⟩ | ⟨q923z, q923b, q923, q923s, q923t⟩ | ⟨q923z, q923b, q923, q923T, q923H, q923r⟩ := q923
                              · show e_Ok 20 elay ecode eI (d + 1) 353 (118, [(0, (1, 275))], [], w886) _
                                refine e_Ok.ps3 (x := (0, 0)) (y := (0, 45)) (z := (1, 275)) (q := 122) 3 rfl ?_
                                refine e_Ok.callV rfl (Nat.le_trans (by decide) hdq) rfl rfl rfl rfl (c_336 c901.1 (n := v3 275 78) u890.out (by omega) (s := w 275 81) u893.out (by omega)) (fun r924 w925 h926 => ?_)
                                obtain ⟨rfl, q927⟩ := h926
                                replace q927 := (show Hid (EM w886 w925 (v3 275 78) 45 (0) (w 275 81)) from q927)
                                have u938 : Hid (w925 275 88 = w886 275 88) := Hid.mk (q927.out.fld (by decide))
                                refine e_Ok.nrm (q := 125) (st' := [(0, v3 275 78)]) rfl rfl ?_
                                refine e_Ok.run (t' := (67, [(0, (1, 275))], [], w925)) 2 rfl ?_
                                refine e_Ok.sub eAlk (e_sub_of rfl ?_) (ih843  w925 ⟨(show e_fr (mStm (w 275 78) (w 275 79) (w 275 80) (w 275 94)) w w925 from e_fr.trans f902 (q927.out.st (by omega))), (cSt.em c901 q927.out (by decide) (by omega) (by omega)), (by unfold stL; rw [(show Hid (w925 275 78 = v3 275 78 + 1) from Hid.mk (Eq.trans q927.out.2.2.2.2 (by omega))).out, (show Hid (w925 275 79 = v3 275 79) from Hid.mk (Eq.trans (q927.out.fld (by decide)) u891.out)).out, (show Hid (w925 275 80 = v3 275 80) from Hid.mk (Eq.trans (q927.out.fld (by decide)) u892.out)).out, (show Hid (w925 275 81 = w 275 81) from Hid.mk (Eq.trans (q927.out.fld (by decide)) u893.out)).out, (show Hid (w925 275 82 = w 275 82) from Hid.mk (Eq.trans (q927.out.fld (by decide)) u894.out)).out, (show Hid (w925 275 83 = v3 275 83) from Hid.mk (Eq.trans (q927.out.fld (by decide)) u895.out)).out, (show Hid (w925 275 86 = w868 275 86) from Hid.mk (Eq.trans (q927.out.fld (by decide)) u898.out)).out, u938.out, (show Hid (w925 275 94 = v3 275 94) from Hid.mk (Eq.trans (q927.out.fld (by decide)) u900.out)).out]; omega), (Hid.mk (fun z => by rw [u938.out] at z; exact absurd z (by omega))), (by rw [(show Hid (w925 275 86 = w868 275 86) from Hid.mk (Eq.trans (q927.out.fld (by decide)) u898.out)).out, u938.out] <;> omega)⟩ ((by rw [(show Hid (w925 275 86 = w868 275 86) from Hid.mk (Eq.trans (q927.out.fld (by decide)) u898.out)).out, u938.out] <;> omega)))
                                exact ⟨rfl, trivial⟩
                              · exact absurd q923z (by omega)
                              · exact absurd q923z (by omega)
                            · refine e_Ok.nrm (q := 115) (st' := [(0, 0), (1, 275)]) rfl rfl ?_
                              clear q919n
                              refine e_Ok.callV rfl (Nat.le_trans (by decide) hdq) rfl rfl rfl rfl (c_334 (Nat.le_trans (by decide) hdq) c901.1 c901.2.1 c901.2.2.1 hNr c901.2.2.2.1 (by decide)) (fun r942 w943 h944 => ?_)
                              obtain ⟨rfl, q945⟩ := h944
                              obtain ⟨rfl, q945z⟩ | ⟨q945z, q945b, q945, q945s, q945t⟩ | ⟨q945z, q945b, q945, q945T, q945H, q945r⟩ := q945
                              · refine e_Ok.nrm (q := 118) (st' := []) rfl rfl ?_
                                refine e_Ok.ps3 (x := (0, 0)) (y := (0, 45)) (z := (1, 275)) (q := 122) 3 rfl ?_
                                refine e_Ok.callV rfl (Nat.le_trans (by decide) hdq) rfl rfl rfl rfl (c_336 c901.1 (n := v3 275 78) u890.out (by omega) (s := w 275 81) u893.out (by omega)) (fun r946 w947 h948 => ?_)
                                obtain ⟨rfl, q949⟩ := h948
                                replace q949 := (show Hid (EM w886 w947 (v3 275 78) 45 (0) (w 275 81)) from q949)
                                have u960 : Hid (w947 275 88 = w886 275 88) := Hid.mk (q949.out.fld (by decide))
                                refine e_Ok.nrm (q := 125) (st' := [(0, v3 275 78)]) rfl rfl ?_
                                refine e_Ok.run (t' := (67, [(0, (1, 275))], [], w947)) 2 rfl ?_
                                refine e_Ok.sub eAlk (e_sub_of rfl ?_) (ih843  w947 ⟨(show e_fr (mStm (w 275 78) (w 275 79) (w 275 80) (w 275 94)) w w947 from e_fr.trans f902 (q949.out.st (by omega))), (cSt.em c901 q949.out (by decide) (by omega) (by omega)), (by unfold stL; rw [(show Hid (w947 275 78 = v3 275 78 + 1) from Hid.mk (Eq.trans q949.out.2.2.2.2 (by omega))).out, (show Hid (w947 275 79 = v3 275 79) from Hid.mk (Eq.trans (q949.out.fld (by decide)) u891.out)).out, (show Hid (w947 275 80 = v3 275 80) from Hid.mk (Eq.trans (q949.out.fld (by decide)) u892.out)).out, (show Hid (w947 275 81 = w 275 81) from Hid.mk (Eq.trans (q949.out.fld (by decide)) u893.out)).out, (show Hid (w947 275 82 = w 275 82) from Hid.mk (Eq.trans (q949.out.fld (by decide)) u894.out)).out, (show Hid (w947 275 83 = v3 275 83) from Hid.mk (Eq.trans (q949.out.fld (by decide)) u895.out)).out, (show Hid (w947 275 86 = w868 275 86) from Hid.mk (Eq.trans (q949.out.fld (by decide)) u898.out)).out, u960.out, (show Hid (w947 275 94 = v3 275 94) from Hid.mk (Eq.trans (q949.out.fld (by decide)) u900.out)).out]; omega), (Hid.mk (fun z => by rw [u960.out] at z; exact absurd z (by omega))), (by rw [(show Hid (w947 275 86 = w868 275 86) from Hid.mk (Eq.trans (q949.out.fld (by decide)) u898.out)).out, u960.out] <;> omega)⟩ ((by rw [(show Hid (w947 275 86 = w868 275 86) from Hid.mk (Eq.trans (q949.out.fld (by decide)) u898.out)).out, u960.out] <;> omega)))
                                exact ⟨rfl, trivial⟩
                              · exact absurd q945z (by omega)
                              · exact absurd q945z (by omega)
                          · exact absurd q911z (by omega)
                          · exact absurd q911z (by omega)
                        · refine e_Ok.nrm (q := 102) (st' := [(0, 0), (1, 275)]) rfl rfl ?_
                          clear q907n
                          refine e_Ok.callV rfl (Nat.le_trans (by decide) hdq) rfl rfl rfl rfl (c_334 (Nat.le_trans (by decide) hdq) c901.1 c901.2.1 c901.2.2.1 hNr c901.2.2.2.1 (by decide)) (fun r964 w965 h966 => ?_)
                          obtain ⟨rfl, q967⟩ := h966
                          obtain ⟨rfl, q967z⟩ | ⟨q967z, q967b, q967, q967s, q967t⟩ | ⟨q967z, q967b, q967, q967T, q967H, q967r⟩ := q967
                          · refine e_Ok.nrm (q := 105) (st' := []) rfl rfl ?_
                            refine e_Ok.ps1 (x := (1, 275)) (q := 106) 1 rfl ?_
                            refine e_Ok.callV rfl (Nat.le_trans (by decide) hdq) rfl rfl rfl rfl (c_348_0 (Nat.le_trans (by decide) hdq) c901 (by omega)) (fun r968 w969 h970 => ?_)
                            obtain ⟨rfl, rfl⟩ := h970
                            refine e_Ok.nrm (q := 109) (st' := []) rfl rfl ?_
                            refine e_Ok.ps3 (x := (0, 2)) (y := (1, 275)) (z := (1, 275)) (q := 112) 3 rfl ?_
                            refine e_Ok.callV rfl (Nat.le_trans (by decide) hdq) rfl rfl rfl rfl (c_332 c901.1 (N := N) c901.2.2.2.1) (fun r971 w972 h973 => ?_)
                            obtain ⟨z974, rfl, rfl, q975⟩ := h973
                            obtain ⟨rfl, q975, q975b⟩ | ⟨rfl, q975n⟩ := q975
                            · refine e_Ok.nrm (q := 115) (st' := [(0, 1), (1, 275)]) rfl rfl ?_
                              rw [(show Hid (w886 275 84 = w868 275 84) from Hid.mk (q888 275 84 (mRf_fld (by decide)))).out] at q975
                              rw [(show Hid (w886 275 85 = w868 275 85) from Hid.mk (q888 275 85 (mRf_fld (by decide)))).out] at q975b
                              refine e_Ok.callV rfl (Nat.le_trans (by decide) hdq) rfl rfl rfl rfl (c_334 (Nat.le_trans (by decide) hdq) c901.1 c901.2.1 c901.2.2.1 hNr c901.2.2.2.1 (by decide)) (fun r976 w977 h978 => ?_)
                              obtain ⟨rfl, q979⟩ := h978
                              obtain ⟨rfl, q979z⟩ | ⟨q979z, q979b, q979, q979s, q979t⟩ | ⟨q979z, q979b, q979, q979T, q979H, q979r⟩ := q979
                              · show e_Ok 20 elay ecode eI (d + 1) 353 (118, [(0, (1, 275))], [], w886) _
                                refine e_Ok.ps3 (x := (0, 0)) (y := (0, 45)) (z := (1, 275)) (q := 122) 3 rfl ?_
                                refine e_Ok.callV rfl (Nat.le_trans (by decide) hdq) rfl rfl rfl rfl (c_336 c901.1 (n := v3 275 78) u890.out (by omega) (s := w 275 81) u893.out (by omega)) (fun r980 w981 h982 => ?_)
                                obtain ⟨rfl, q983⟩ := h982
                                replace q983 := (show Hid (EM w886 w981 (v3 275 78) 45 (0) (w 275 81)) from q983)
                                have u994 : Hid (w981 275 88 = w886 275 88) := Hid.mk (q983.out.fld (by decide))
                                refine e_Ok.nrm (q := 125) (st' := [(0, v3 275 78)]) rfl rfl ?_
                                refine e_Ok.run (t' := (67, [(0, (1, 275))], [], w981)) 2 rfl ?_
                                refine e_Ok.sub eAlk (e_sub_of rfl ?_) (ih843  w981 ⟨(show e_fr (mStm (w 275 78) (w 275 79) (w 275 80) (w 275 94)) w w981 from e_fr.trans f902 (q983.out.st (by omega))), (cSt.em c901 q983.out (by decide) (by omega) (by omega)), (by unfold stL; rw [(show Hid (w981 275 78 = v3 275 78 + 1) from Hid.mk (Eq.trans q983.out.2.2.2.2 (by omega))).out, (show Hid (w981 275 79 = v3 275 79) from Hid.mk (Eq.trans (q983.out.fld (by decide)) u891.out)).out, (show Hid (w981 275 80 = v3 275 80) from Hid.mk (Eq.trans (q983.out.fld (by decide)) u892.out)).out, (show Hid (w981 275 81 = w 275 81) from Hid.mk (Eq.trans (q983.out.fld (by decide)) u893.out)).out, (show Hid (w981 275 82 = w 275 82) from Hid.mk (Eq.trans (q983.out.fld (by decide)) u894.out)).out, (show Hid (w981 275 83 = v3 275 83) from Hid.mk (Eq.trans (q983.out.fld (by decide)) u895.out)).out, (show Hid (w981 275 86 = w868 275 86) from Hid.mk (Eq.trans (q983.out.fld (by decide)) u898.out)).out, u994.out, (show Hid (w981 275 94 = v3 275 94) from Hid.mk (Eq.trans (q983.out.fld (by decide)) u900.out)).out]; omega), (Hid.mk (fun z => by rw [u994.out] at z; exact absurd z (by omega))), (by rw [(show Hid (w981 275 86 = w868 275 86) from Hid.mk (Eq.trans (q983.out.fld (by decide)) u898.out)).out, u994.out] <;> omega)⟩ ((by rw [(show Hid (w981 275 86 = w868 275 86) from Hid.mk (Eq.trans (q983.out.fld (by decide)) u898.out)).out, u994.out] <;> omega)))
                                exact ⟨rfl, trivial⟩
                              · exact absurd q979z (by omega)
                              · exact absurd q979z (by omega)
                            · refine e_Ok.nrm (q := 115) (st' := [(0, 0), (1, 275)]) rfl rfl ?_
                              clear q975n
                              refine e_Ok.callV rfl (Nat.le_trans (by decide) hdq) rfl rfl rfl rfl (c_334 (Nat.le_trans (by decide) hdq) c901.1 c901.2.1 c901.2.2.1 hNr c901.2.2.2.1 (by decide)) (fun r998 w999 h1000 => ?_)
                              obtain ⟨rfl, q1001⟩ := h1000
                              obtain ⟨rfl, q1001z⟩ | ⟨q1001z, q1001b, q1001, q1001s, q1001t⟩ | ⟨q1001z, q1001b, q1001, q1001T, q1001H, q1001r⟩ := q1001
                              · refine e_Ok.nrm (q := 118) (st' := []) rfl rfl ?_
                                refine e_Ok.ps3 (x := (0, 0)) (y := (0, 45)) (z := (1, 275)) (q := 122) 3 rfl ?_
                                refine e_Ok.callV rfl (Nat.le_trans (by decide) hdq) rfl rfl rfl rfl (c_336 c901.1 (n := v3 275 78) u890.out (by omega) (s := w 275 81) u893.out (by omega)) (fun r1002 w1003 h1004 => ?_)
                                obtain ⟨rfl, q1005⟩ := h1004
                                replace q1005 := (show Hid (EM w886 w1003 (v3 275 78) 45 (0) (w 275 81)) from q1005)
                                have u1016 : Hid (w1003 275 88 = w886 275 88) := Hid.mk (q1005.out.fld (by decide))
                                refine e_Ok.nrm (q := 125) (st' := [(0, v3 275 78)]) rfl rfl ?_
                                refine e_Ok.run (t' := (67, [(0, (1, 275))], [], w1003)) 2 rfl ?_
                                refine e_Ok.sub eAlk (e_sub_of rfl ?_) (ih843  w1003 ⟨(show e_fr (mStm (w 275 78) (w 275 79) (w 275 80) (w 275 94)) w w1003 from e_fr.trans f902 (q1005.out.st (by omega))), (cSt.em c901 q1005.out (by decide) (by omega) (by omega)), (by unfold stL; rw [(show Hid (w1003 275 78 = v3 275 78 + 1) from Hid.mk (Eq.trans q1005.out.2.2.2.2 (by omega))).out, (show Hid (w1003 275 79 = v3 275 79) from Hid.mk (Eq.trans (q1005.out.fld (by decide)) u891.out)).out, (show Hid (w1003 275 80 = v3 275 80) from Hid.mk (Eq.trans (q1005.out.fld (by decide)) u892.out)).out, (show Hid (w1003 275 81 = w 275 81) from Hid.mk (Eq.trans (q1005.out.fld (by decide)) u893.out)).out, (show Hid (w1003 275 82 = w 275 82) from Hid.mk (Eq.trans (q1005.out.fld (by decide)) u894.out)).out, (show Hid (w1003 275 83 = v3 275 83) from Hid.mk (Eq.trans (q1005.out.fld (by decide)) u895.out)).out, (show Hid (w1003 275 86 = w868 275 86) from Hid.mk (Eq.trans (q1005.out.fld (by decide)) u898.out)).out, u1016.out, (show Hid (w1003 275 94 = v3 275 94) from Hid.mk (Eq.trans (q1005.out.fld (by decide)) u900.out)).out]; omega), (Hid.mk (fun z => by rw [u1016.out] at z; exact absurd z (by omega))), (by rw [(show Hid (w1003 275 86 = w868 275 86) from Hid.mk (Eq.trans (q1005.out.fld (by decide)) u898.out)).out, u1016.out] <;> omega)⟩ ((by rw [(show Hid (w1003 275 86 = w868 275 86) from Hid.mk (Eq.trans (q1005.out.fld (by decide)) u898.out)).out, u1016.out] <;> omega)))
                                exact ⟨rfl, trivial⟩
                              · exact absurd q1001z (by omega)
                              · exact absurd q1001z (by omega)
                          · exact absurd q967z (by omega)
                          · exact absurd q967z (by omega)
                      · refine e_Ok.nrm (q := 95) (st' := []) rfl rfl ?_
                        rw [u879.out] at q888z
                        have p1020 := tkS.pos c881.2.2.2.1 (by omega)
                        obtain ⟨q888v1, q888v2, q888v3, q888v4, q888v5⟩ := q888v
                        replace q888v1 := (show Hid _ from q888v1)
                        replace q888v2 := (show Hid _ from q888v2)
                        replace q888v3 := (show Hid _ from q888v3)
                        replace q888v4 := (show Hid _ from q888v4)
                        replace q888v5 := (show Hid _ from q888v5)
                        replace q888o := (show Hid _ from q888o)
                        have u1044 : Hid (w886 275 88 = v3 275 88) := Hid.mk (Eq.trans (q888 275 88 (mTq_fld (by decide))) (show Hid (w889 275 88 = v3 275 88) from Hid.mk (Eq.trans (q888F 275 88 (mNm_fld (by decide))) u879.out)).out)
                        have c1046 := cSt.tk (cSt.nm c881 q888F) q888 q888s
                        have t1047 := tkS.lin c1046.2.2.2.1
                        have f1048 : e_fr (mStm (w 275 78) (w 275 79) (w 275 80) (w 275 94)) w w886 := e_fr.trans (show e_fr (mStm (w 275 78) (w 275 79) (w 275 80) (w 275 94)) w w889 from e_fr.trans f883 (fun c k g => q888o.out c k (fun g2 => g (by unfold mStm; omega)))) (e_fr.mono q888 (fun c k g => mTq_St g))
                        refine e_Ok.run (t' := (99, [(0, (1, 275))], [(0, 58), (1, 275), (1, 275)], w886)) 3 rfl ?_
                        refine e_Ok.callV rfl (Nat.le_trans (by decide) hdq) rfl rfl rfl rfl (c_331 c1046.1 (N := N) c1046.2.2.2.1) (fun r1052 w1053 h1054 => ?_)
                        obtain ⟨z1055, rfl, rfl, q1056⟩ := h1054
                        obtain ⟨rfl, q1056, q1056b⟩ | ⟨rfl, q1056n⟩ := q1056
                        · refine e_Ok.nrm (q := 102) (st' := [(0, 1), (1, 275)]) rfl rfl ?_
                          refine e_Ok.callV rfl (Nat.le_trans (by decide) hdq) rfl rfl rfl rfl (c_334 (Nat.le_trans (by decide) hdq) c1046.1 c1046.2.1 c1046.2.2.1 hNr c1046.2.2.2.1 (by decide)) (fun r1057 w1058 h1059 => ?_)
                          obtain ⟨rfl, q1060⟩ := h1059
                          obtain ⟨rfl, q1060z⟩ | ⟨q1060z, q1060b, q1060, q1060s, q1060t⟩ | ⟨q1060z, q1060b, q1060, q1060T, q1060H, q1060r⟩ := q1060
                          · rw [u1044.out] at q1060z; exact absurd q1060z (by omega)
                          · refine e_Ok.nrm (q := 105) (st' := []) rfl rfl ?_
                            rw [u1044.out] at q1060z
                            have p1061 := tkS.pos c1046.2.2.2.1 (by omega)
                            have u1062 : Hid (w1058 275 78 = v3 275 78) := Hid.mk (Eq.trans (q1060 275 78 (mTq_fld (by decide))) (show Hid (w886 275 78 = v3 275 78) from Hid.mk (Eq.trans (q888 275 78 (mTq_fld (by decide))) (show Hid (w889 275 78 = v3 275 78) from Hid.mk (Eq.trans (q888F 275 78 (mNm_fld (by decide))) (show Hid (w868 275 78 = v3 275 78) from Hid.mk (q870 275 78 (mTq_fld (by decide)))).out)).out)).out)
                            have u1063 : Hid (w1058 275 79 = v3 275 79) := Hid.mk (Eq.trans (q1060 275 79 (mTq_fld (by decide))) (show Hid (w886 275 79 = v3 275 79) from Hid.mk (Eq.trans (q888 275 79 (mTq_fld (by decide))) (show Hid (w889 275 79 = v3 275 79) from Hid.mk (Eq.trans (q888F 275 79 (mNm_fld (by decide))) (show Hid (w868 275 79 = v3 275 79) from Hid.mk (q870 275 79 (mTq_fld (by decide)))).out)).out)).out)
                            have u1064 : Hid (w1058 275 80 = v3 275 80) := Hid.mk (Eq.trans (q1060 275 80 (mTq_fld (by decide))) (show Hid (w886 275 80 = v3 275 80) from Hid.mk (Eq.trans (q888 275 80 (mTq_fld (by decide))) (show Hid (w889 275 80 = v3 275 80) from Hid.mk (Eq.trans (q888F 275 80 (mNm_fld (by decide))) (show Hid (w868 275 80 = v3 275 80) from Hid.mk (q870 275 80 (mTq_fld (by decide)))).out)).out)).out)
                            have u1067 : Hid (w1058 275 83 = v3 275 83) := Hid.mk (Eq.trans (q1060 275 83 (mTq_fld (by decide))) (show Hid (w886 275 83 = v3 275 83) from Hid.mk (Eq.trans (q888 275 83 (mTq_fld (by decide))) (show Hid (w889 275 83 = v3 275 83) from Hid.mk (Eq.trans (q888F 275 83 (mNm_fld (by decide))) (show Hid (w868 275 83 = v3 275 83) from Hid.mk (q870 275 83 (mTq_fld (by decide)))).out)).out)).out)
                            have u1069 : Hid (w1058 275 94 = v3 275 94 + 1) := Hid.mk (Eq.trans (q1060 275 94 (mTq_fld (by decide))) (show Hid (w886 275 94 = v3 275 94 + 1) from Hid.mk (Eq.trans (q888 275 94 (mTq_fld (by decide))) (show Hid (w889 275 94 = v3 275 94 + 1) from Hid.mk (Eq.trans q888v5.out (by omega))).out)).out)
                            have c1070 := cSt.tk c1046 q1060 q1060s
                            have t1071 := tkS.lin c1070.2.2.2.1
                            refine e_Ok.run (t' := (106, [(0, (1, 275))], [(1, 275)], w1058)) 1 rfl ?_
                            refine e_Ok.callV rfl (Nat.le_trans (by decide) hdq) rfl rfl rfl rfl ((c_stats (o := 0) (Nat.le_trans (by decide) hdq) (by decide)) w1058 N 0 (fun _ => False) (fun _ => False) c1070 hNr (by rw [(show Hid (w1058 275 88 = v3 275 88) from Hid.mk (Eq.trans (q1060 275 88 (mTq_fld (by decide))) u1044.out)).out] <;> omega) (Eq.trans u1067.out (show _ = 0 from by omega)) (Or.inl (by rw [(show Hid (w1058 275 82 = w 275 82) from Hid.mk (Eq.trans (q1060 275 82 (mTq_fld (by decide))) (show Hid (w886 275 82 = w 275 82) from Hid.mk (Eq.trans (q888 275 82 (mTq_fld (by decide))) (show Hid (w889 275 82 = w 275 82) from Hid.mk (Eq.trans (q888F 275 82 (mNm_fld (by decide))) (show Hid (w868 275 82 = w 275 82) from Hid.mk (Eq.trans (q870 275 82 (mTq_fld (by decide))) u850.out)).out)).out)).out)).out] <;> omega)) (by unfold stB; rw [u1062.out, u1069.out, u1063.out, u1064.out]; omega) (by omega) (by rw [u1062.out, u1069.out, u1063.out, u1064.out, (show Hid (w1058 275 81 = w 275 81) from Hid.mk (Eq.trans (q1060 275 81 (mTq_fld (by decide))) (show Hid (w886 275 81 = w 275 81) from Hid.mk (Eq.trans (q888 275 81 (mTq_fld (by decide))) (show Hid (w889 275 81 = w 275 81) from Hid.mk (Eq.trans (q888F 275 81 (mNm_fld (by decide))) (show Hid (w868 275 81 = w 275 81) from Hid.mk (Eq.trans (q870 275 81 (mTq_fld (by decide))) u849.out)).out)).out)).out)).out] <;> exact ((show Hid (v3 275 88 = 0 → GB w1058 N (v3 275 78) (v3 275 94 + 1) (v3 275 79) (v3 275 80) (fun _ => False) (w 275 81) (fun _ => False) 0) from Hid.mk (fun z => GB.pr ((show Hid (v3 275 88 = 0 → GB w886 N (v3 275 78) (v3 275 94 + 1) (v3 275 79) (v3 275 80) (fun _ => False) (w 275 81) (fun _ => False) 0) from Hid.mk (fun z => GB.pr ((show Hid (v3 275 88 = 0 → GB w889 N (v3 275 78) (v3 275 94 + 1) (v3 275 79) (v3 275 80) (fun _ => False) (w 275 81) (fun _ => False) 0) from Hid.mk (fun z => (GB.note (GX.gb ((show Hid (v3 275 88 = 0 → GX w868 N (v3 275 78) (v3 275 94) (v3 275 79) (v3 275 80) (fun _ => False) (w 275 81) (fun _ => False) 0) from Hid.mk (fun z => GX.pr (j847.out z) (prE.tk q870))).out (by omega))) q888o.out (by unfold nmO; rw [q888v1.out, q888v2.out, q888v3.out, q888v4.out]; exact ⟨by omega, by omega, fun _ => by omega⟩) (Or.inr ⟨q888v1.out, Eq.trans q888v4.out (by omega), by omega⟩)))).out z) (prE.tk q888))).out z) (prE.tk q1060))).out (by omega)))) (fun r1076 w1077 h1078 => ?_)
                            obtain ⟨rfl, q1079F, q1079c, q1079l, q1079w⟩ := h1078
                            unfold stL at q1079l
                            obtain ⟨q10791, q10792, q10793, q10794, q10795, q10796, q10797, q10798, q10799, q107910, q107911, q107912⟩ := q1079l
                            replace q10799 := (show Hid _ from q10799)
                            replace q107910 := (show Hid _ from q107910)
                            replace q1079F := (show Hid _ from q1079F)
                            rw [u1062.out] at q10792
                            rw [u1062.out, u1067.out, u1063.out, u1064.out] at q10793
                            rw [u1062.out] at q10794
                            rw [u1069.out] at q10795
                            rw [u1069.out] at q10796
                            rw [u1067.out] at q10797
                            rw [u1067.out] at q10798
                            rw [u1063.out] at q107911
                            rw [u1064.out] at q107912
                            replace q1079w := (show Hid _ from q1079w)
                            have u1081 : Hid (w1077 275 81 = w 275 81) := Hid.mk (Eq.trans (q10799.out) (show Hid (w1058 275 81 = w 275 81) from Hid.mk (Eq.trans (q1060 275 81 (mTq_fld (by decide))) (show Hid (w886 275 81 = w 275 81) from Hid.mk (Eq.trans (q888 275 81 (mTq_fld (by decide))) (show Hid (w889 275 81 = w 275 81) from Hid.mk (Eq.trans (q888F 275 81 (mNm_fld (by decide))) (show Hid (w868 275 81 = w 275 81) from Hid.mk (Eq.trans (q870 275 81 (mTq_fld (by decide))) u849.out)).out)).out)).out)).out)
                            have u1082 : Hid (w1077 275 82 = w 275 82) := Hid.mk (Eq.trans (q107910.out) (show Hid (w1058 275 82 = w 275 82) from Hid.mk (Eq.trans (q1060 275 82 (mTq_fld (by decide))) (show Hid (w886 275 82 = w 275 82) from Hid.mk (Eq.trans (q888 275 82 (mTq_fld (by decide))) (show Hid (w889 275 82 = w 275 82) from Hid.mk (Eq.trans (q888F 275 82 (mNm_fld (by decide))) (show Hid (w868 275 82 = w 275 82) from Hid.mk (Eq.trans (q870 275 82 (mTq_fld (by decide))) u850.out)).out)).out)).out)).out)
                            have t1083 := tkS.lin q1079c.2.2.2.1
                            have t1084 := e_Has.get q1079c.2.1 (c := 275) (k := 88) (lo := 0) (hi := 7) rfl (by decide)
                            have f1085 : e_fr (mStm (w 275 78) (w 275 79) (w 275 80) (w 275 94)) w w1077 := e_fr.trans (show e_fr (mStm (w 275 78) (w 275 79) (w 275 80) (w 275 94)) w w1058 from e_fr.trans f1048 (e_fr.mono q1060 (fun c k g => mTq_St g))) (e_fr.mono (show Hid (e_fr (mStm (v3 275 78) (v3 275 79) (v3 275 80) (v3 275 94 + 1)) w1058 w1077) from Hid.mk (by have y := q1079F.out; rw [u1062.out, u1063.out, u1064.out, u1069.out] at y; exact y)).out (fun c k g => mSt_St (by omega) (by omega) (by omega) (by omega) g))
                            show e_Ok 20 elay ecode eI (d + 1) 353 (109, [(0, (1, 275))], [], w1077) _
                            refine e_Ok.ps3 (x := (0, 2)) (y := (1, 275)) (z := (1, 275)) (q := 112) 3 rfl ?_
                            refine e_Ok.callV rfl (Nat.le_trans (by decide) hdq) rfl rfl rfl rfl (c_332 q1079c.1 (N := N) q1079c.2.2.2.1) (fun r1089 w1090 h1091 => ?_)
                            obtain ⟨z1092, rfl, rfl, q1093⟩ := h1091
                            obtain ⟨rfl, q1093, q1093b⟩ | ⟨rfl, q1093n⟩ := q1093
                            · refine e_Ok.nrm (q := 115) (st' := [(0, 1), (1, 275)]) rfl rfl ?_
                              refine e_Ok.callV rfl (Nat.le_trans (by decide) hdq) rfl rfl rfl rfl (c_334 (Nat.le_trans (by decide) hdq) q1079c.1 q1079c.2.1 q1079c.2.2.1 hNr q1079c.2.2.2.1 (by decide)) (fun r1094 w1095 h1096 => ?_)
                              obtain ⟨rfl, q1097⟩ := h1096
                              obtain ⟨rfl, q1097z⟩ | ⟨q1097z, q1097b, q1097, q1097s, q1097t⟩ | ⟨q1097z, q1097b, q1097, q1097T, q1097H, q1097r⟩ := q1097
                              · refine e_Ok.nrm (q := 118) (st' := []) rfl rfl ?_
                                clear q10793
                                refine e_Ok.ps3 (x := (0, 0)) (y := (0, 45)) (z := (1, 275)) (q := 122) 3 rfl ?_
                                refine e_Ok.callV rfl (Nat.le_trans (by decide) hdq) rfl rfl rfl rfl (c_336 q1079c.1 (n := w1077 275 78) rfl (by omega) (s := w 275 81) u1081.out (by omega)) (fun r1098 w1099 h1100 => ?_)
                                obtain ⟨rfl, q1101⟩ := h1100
                                replace q1101 := (show Hid (EM w1077 w1099 (w1077 275 78) 45 (0) (w 275 81)) from q1101)
                                have u1112 : Hid (w1099 275 88 = w1077 275 88) := Hid.mk (q1101.out.fld (by decide))
                                refine e_Ok.nrm (q := 125) (st' := [(0, w1077 275 78)]) rfl rfl ?_
                                refine e_Ok.run (t' := (67, [(0, (1, 275))], [], w1099)) 2 rfl ?_
                                refine e_Ok.sub eAlk (e_sub_of rfl ?_) (ih843  w1099 ⟨(show e_fr (mStm (w 275 78) (w 275 79) (w 275 80) (w 275 94)) w w1099 from e_fr.trans f1085 (q1101.out.st (by omega))), (cSt.em q1079c q1101.out (by decide) (by omega) (by omega)), (by unfold stL; rw [(show Hid (w1099 275 78 = w1077 275 78 + 1) from Hid.mk (Eq.trans q1101.out.2.2.2.2 (by omega))).out, (show Hid (w1099 275 79 = w1077 275 79) from Hid.mk (q1101.out.fld (by decide))).out, (show Hid (w1099 275 80 = w1077 275 80) from Hid.mk (q1101.out.fld (by decide))).out, (show Hid (w1099 275 81 = w 275 81) from Hid.mk (Eq.trans (q1101.out.fld (by decide)) u1081.out)).out, (show Hid (w1099 275 82 = w 275 82) from Hid.mk (Eq.trans (q1101.out.fld (by decide)) u1082.out)).out, (show Hid (w1099 275 83 = w1077 275 83) from Hid.mk (q1101.out.fld (by decide))).out, (show Hid (w1099 275 86 = w1077 275 86) from Hid.mk (q1101.out.fld (by decide))).out, u1112.out, (show Hid (w1099 275 94 = w1077 275 94) from Hid.mk (q1101.out.fld (by decide))).out]; omega), (Hid.mk (fun z => by rw [u1112.out] at z; exact absurd z (by omega))), (by rw [(show Hid (w1099 275 86 = w1077 275 86) from Hid.mk (q1101.out.fld (by decide))).out, u1112.out] <;> omega)⟩ ((by rw [(show Hid (w1099 275 86 = w1077 275 86) from Hid.mk (q1101.out.fld (by decide))).out, u1112.out] <;> omega)))
                                exact ⟨rfl, trivial⟩
                              · refine e_Ok.nrm (q := 118) (st' := []) rfl rfl ?_
                                replace q10793 := q10793 (by omega)
                                have p1116 := tkS.pos q1079c.2.2.2.1 (by omega)
                                have p1117 := tkS.key q1079c.2.2.2.1 (by omega)
                                have c1126 := cSt.tk q1079c q1097 q1097s
                                have t1127 := tkS.lin c1126.2.2.2.1
                                refine e_Ok.ps3 (x := (0, 0)) (y := (0, 45)) (z := (1, 275)) (q := 122) 3 rfl ?_
                                refine e_Ok.callV rfl (Nat.le_trans (by decide) hdq) rfl rfl rfl rfl (c_336 c1126.1 (n := w1077 275 78) (show Hid (w1095 275 78 = w1077 275 78) from Hid.mk (q1097 275 78 (mTq_fld (by decide)))).out (by omega) (s := w 275 81) (show Hid (w1095 275 81 = w 275 81) from Hid.mk (Eq.trans (q1097 275 81 (mTq_fld (by decide))) u1081.out)).out (by omega)) (fun r1132 w1133 h1134 => ?_)
                                obtain ⟨rfl, q1135⟩ := h1134
                                replace q1135 := (show Hid (EM w1095 w1133 (w1077 275 78) 45 (0) (w 275 81)) from q1135)
                                have u1136 : Hid (w1133 275 78 = w1077 275 78 + 1) := Hid.mk (Eq.trans q1135.out.2.2.2.2 (by omega))
                                have u1146 : Hid (w1133 275 88 = w1077 275 88) := Hid.mk (Eq.trans (q1135.out.fld (by decide)) (show Hid (w1095 275 88 = w1077 275 88) from Hid.mk (q1097 275 88 (mTq_fld (by decide)))).out)
                                refine e_Ok.nrm (q := 125) (st' := [(0, w1077 275 78)]) rfl rfl ?_
                                refine e_Ok.run (t' := (67, [(0, (1, 275))], [], w1133)) 2 rfl ?_
                                refine e_Ok.sub eAlk (e_sub_of rfl ?_) (ih843  w1133 ⟨(show e_fr (mStm (w 275 78) (w 275 79) (w 275 80) (w 275 94)) w w1133 from e_fr.trans (show e_fr (mStm (w 275 78) (w 275 79) (w 275 80) (w 275 94)) w w1095 from e_fr.trans f1085 (e_fr.mono q1097 (fun c k g => mTq_St g))) (q1135.out.st (by omega))), (cSt.em c1126 q1135.out (by decide) (by omega) (by omega)), (by unfold stL; rw [u1136.out, (show Hid (w1133 275 79 = w1077 275 79) from Hid.mk (Eq.trans (q1135.out.fld (by decide)) (show Hid (w1095 275 79 = w1077 275 79) from Hid.mk (q1097 275 79 (mTq_fld (by decide)))).out)).out, (show Hid (w1133 275 80 = w1077 275 80) from Hid.mk (Eq.trans (q1135.out.fld (by decide)) (show Hid (w1095 275 80 = w1077 275 80) from Hid.mk (q1097 275 80 (mTq_fld (by decide)))).out)).out, (show Hid (w1133 275 81 = w 275 81) from Hid.mk (Eq.trans (q1135.out.fld (by decide)) (show Hid (w1095 275 81 = w 275 81) from Hid.mk (Eq.trans (q1097 275 81 (mTq_fld (by decide))) u1081.out)).out)).out, (show Hid (w1133 275 82 = w 275 82) from Hid.mk (Eq.trans (q1135.out.fld (by decide)) (show Hid (w1095 275 82 = w 275 82) from Hid.mk (Eq.trans (q1097 275 82 (mTq_fld (by decide))) u1082.out)).out)).out, (show Hid (w1133 275 83 = w1077 275 83) from Hid.mk (Eq.trans (q1135.out.fld (by decide)) (show Hid (w1095 275 83 = w1077 275 83) from Hid.mk (q1097 275 83 (mTq_fld (by decide)))).out)).out, (show Hid (w1133 275 86 = w1095 275 86) from Hid.mk (q1135.out.fld (by decide))).out, u1146.out, (show Hid (w1133 275 94 = w1077 275 94) from Hid.mk (Eq.trans (q1135.out.fld (by decide)) (show Hid (w1095 275 94 = w1077 275 94) from Hid.mk (q1097 275 94 (mTq_fld (by decide)))).out)).out]; omega), (Hid.mk (fun z => by rw [u1146.out] at z; rw [u1136.out, (show Hid (w1133 275 94 = w1077 275 94) from Hid.mk (Eq.trans (q1135.out.fld (by decide)) (show Hid (w1095 275 94 = w1077 275 94) from Hid.mk (q1097 275 94 (mTq_fld (by decide)))).out)).out, (show Hid (w1133 275 79 = w1077 275 79) from Hid.mk (Eq.trans (q1135.out.fld (by decide)) (show Hid (w1095 275 79 = w1077 275 79) from Hid.mk (q1097 275 79 (mTq_fld (by decide)))).out)).out, (show Hid (w1133 275 80 = w1077 275 80) from Hid.mk (Eq.trans (q1135.out.fld (by decide)) (show Hid (w1095 275 80 = w1077 275 80) from Hid.mk (q1097 275 80 (mTq_fld (by decide)))).out)).out]; exact (Or.inr ((show Hid (w1077 275 88 = 0 → GZ w1133 N (w1077 275 78 + 1) (w1077 275 94) (w1077 275 79) (w1077 275 80) (fun _ => False) (w 275 81) (fun _ => False) 0) from Hid.mk (fun z => (GI.zz ((show Hid (w1077 275 88 = 0 → GB w1095 N (w1077 275 78) (w1077 275 94) (w1077 275 79) (w1077 275 80) (fun _ => False) (w 275 81) (fun _ => False) 0) from Hid.mk (fun z => GB.pr ((show Hid (w1077 275 88 = 0 → GB w1077 N (w1077 275 78) (w1077 275 94) (w1077 275 79) (w1077 275 80) (fun _ => False) (w 275 81) (fun _ => False) 0) from Hid.mk (fun z => by have y := q1079w.out z; rw [u1081.out] at y; exact y)).out z) (prE.tk q1097))).out (by omega)).1 (((show Hid (w1077 275 88 = 0 → GB w1095 N (w1077 275 78) (w1077 275 94) (w1077 275 79) (w1077 275 80) (fun _ => False) (w 275 81) (fun _ => False) 0) from Hid.mk (fun z => GB.pr ((show Hid (w1077 275 88 = 0 → GB w1077 N (w1077 275 78) (w1077 275 94) (w1077 275 79) (w1077 275 80) (fun _ => False) (w 275 81) (fun _ => False) 0) from Hid.mk (fun z => by have y := q1079w.out z; rw [u1081.out] at y; exact y)).out z) (prE.tk q1097))).out (by omega)).2.2 45 (sg_no (by omega))) ((show Hid (w1077 275 88 = 0 → GB w1095 N (w1077 275 78) (w1077 275 94) (w1077 275 79) (w1077 275 80) (fun _ => False) (w 275 81) (fun _ => False) 0) from Hid.mk (fun z => GB.pr ((show Hid (w1077 275 88 = 0 → GB w1077 N (w1077 275 78) (w1077 275 94) (w1077 275 79) (w1077 275 80) (fun _ => False) (w 275 81) (fun _ => False) 0) from Hid.mk (fun z => by have y := q1079w.out z; rw [u1081.out] at y; exact y)).out z) (prE.tk q1097))).out (by omega)).2.1 q1135.out (by omega) (fun y => absurd y (by decide)) (fun y => absurd y (by decide))))).out (by omega))))), (by rw [(show Hid (w1133 275 86 = w1095 275 86) from Hid.mk (q1135.out.fld (by decide))).out, u1146.out] <;> omega)⟩ ((by rw [(show Hid (w1133 275 86 = w1095 275 86) from Hid.mk (q1135.out.fld (by decide))).out, u1146.out] <;> omega)))
                                exact ⟨rfl, trivial⟩
                              · exact absurd q1097b (by decide)
                            · refine e_Ok.nrm (q := 115) (st' := [(0, 0), (1, 275)]) rfl rfl ?_
                              clear q1093n
                              refine e_Ok.callV rfl (Nat.le_trans (by decide) hdq) rfl rfl rfl rfl (c_334 (Nat.le_trans (by decide) hdq) q1079c.1 q1079c.2.1 q1079c.2.2.1 hNr q1079c.2.2.2.1 (by decide)) (fun r1153 w1154 h1155 => ?_)
                              obtain ⟨rfl, q1156⟩ := h1155
                              obtain ⟨rfl, q1156z⟩ | ⟨q1156z, q1156b, q1156, q1156s, q1156t⟩ | ⟨q1156z, q1156b, q1156, q1156T, q1156H, q1156r⟩ := q1156
                              · refine e_Ok.nrm (q := 118) (st' := []) rfl rfl ?_
                                clear q10793
                                refine e_Ok.ps3 (x := (0, 0)) (y := (0, 45)) (z := (1, 275)) (q := 122) 3 rfl ?_
                                refine e_Ok.callV rfl (Nat.le_trans (by decide) hdq) rfl rfl rfl rfl (c_336 q1079c.1 (n := w1077 275 78) rfl (by omega) (s := w 275 81) u1081.out (by omega)) (fun r1157 w1158 h1159 => ?_)
                                obtain ⟨rfl, q1160⟩ := h1159
                                replace q1160 := (show Hid (EM w1077 w1158 (w1077 275 78) 45 (0) (w 275 81)) from q1160)
                                have u1171 : Hid (w1158 275 88 = w1077 275 88) := Hid.mk (q1160.out.fld (by decide))
                                refine e_Ok.nrm (q := 125) (st' := [(0, w1077 275 78)]) rfl rfl ?_
                                refine e_Ok.run (t' := (67, [(0, (1, 275))], [], w1158)) 2 rfl ?_
                                refine e_Ok.sub eAlk (e_sub_of rfl ?_) (ih843  w1158 ⟨(show e_fr (mStm (w 275 78) (w 275 79) (w 275 80) (w 275 94)) w w1158 from e_fr.trans f1085 (q1160.out.st (by omega))), (cSt.em q1079c q1160.out (by decide) (by omega) (by omega)), (by unfold stL; rw [(show Hid (w1158 275 78 = w1077 275 78 + 1) from Hid.mk (Eq.trans q1160.out.2.2.2.2 (by omega))).out, (show Hid (w1158 275 79 = w1077 275 79) from Hid.mk (q1160.out.fld (by decide))).out, (show Hid (w1158 275 80 = w1077 275 80) from Hid.mk (q1160.out.fld (by decide))).out, (show Hid (w1158 275 81 = w 275 81) from Hid.mk (Eq.trans (q1160.out.fld (by decide)) u1081.out)).out, (show Hid (w1158 275 82 = w 275 82) from Hid.mk (Eq.trans (q1160.out.fld (by decide)) u1082.out)).out, (show Hid (w1158 275 83 = w1077 275 83) from Hid.mk (q1160.out.fld (by decide))).out, (show Hid (w1158 275 86 = w1077 275 86) from Hid.mk (q1160.out.fld (by decide))).out, u1171.out, (show Hid (w1158 275 94 = w1077 275 94) from Hid.mk (q1160.out.fld (by decide))).out]; omega), (Hid.mk (fun z => by rw [u1171.out] at z; exact absurd z (by omega))), (by rw [(show Hid (w1158 275 86 = w1077 275 86) from Hid.mk (q1160.out.fld (by decide))).out, u1171.out] <;> omega)⟩ ((by rw [(show Hid (w1158 275 86 = w1077 275 86) from Hid.mk (q1160.out.fld (by decide))).out, u1171.out] <;> omega)))
                                exact ⟨rfl, trivial⟩
                              · exact absurd q1156b (by decide)
                              · refine e_Ok.nrm (q := 118) (st' := []) rfl rfl ?_
                                replace q10793 := q10793 (by omega)
                                have c1186 := cSt.rf q1079c q1156 q1156T q1156H
                                refine e_Ok.ps3 (x := (0, 0)) (y := (0, 45)) (z := (1, 275)) (q := 122) 3 rfl ?_
                                refine e_Ok.callV rfl (Nat.le_trans (by decide) hdq) rfl rfl rfl rfl (c_336 c1186.1 (n := w1077 275 78) (show Hid (w1154 275 78 = w1077 275 78) from Hid.mk (q1156 275 78 (mRf_fld (by decide)))).out (by omega) (s := w 275 81) (show Hid (w1154 275 81 = w 275 81) from Hid.mk (Eq.trans (q1156 275 81 (mRf_fld (by decide))) u1081.out)).out (by omega)) (fun r1188 w1189 h1190 => ?_)
                                obtain ⟨rfl, q1191⟩ := h1190
                                replace q1191 := (show Hid (EM w1154 w1189 (w1077 275 78) 45 (0) (w 275 81)) from q1191)
                                have u1202 : Hid (w1189 275 88 = w1154 275 88) := Hid.mk (q1191.out.fld (by decide))
                                refine e_Ok.nrm (q := 125) (st' := [(0, w1077 275 78)]) rfl rfl ?_
                                refine e_Ok.run (t' := (67, [(0, (1, 275))], [], w1189)) 2 rfl ?_
                                refine e_Ok.sub eAlk (e_sub_of rfl ?_) (ih843  w1189 ⟨(show e_fr (mStm (w 275 78) (w 275 79) (w 275 80) (w 275 94)) w w1189 from e_fr.trans (show e_fr (mStm (w 275 78) (w 275 79) (w 275 80) (w 275 94)) w w1154 from e_fr.trans f1085 (e_fr.mono q1156 (fun c k g => mRf_St g))) (q1191.out.st (by omega))), (cSt.em c1186 q1191.out (by decide) (by omega) (by omega)), (by unfold stL; rw [(show Hid (w1189 275 78 = w1077 275 78 + 1) from Hid.mk (Eq.trans q1191.out.2.2.2.2 (by omega))).out, (show Hid (w1189 275 79 = w1077 275 79) from Hid.mk (Eq.trans (q1191.out.fld (by decide)) (show Hid (w1154 275 79 = w1077 275 79) from Hid.mk (q1156 275 79 (mRf_fld (by decide)))).out)).out, (show Hid (w1189 275 80 = w1077 275 80) from Hid.mk (Eq.trans (q1191.out.fld (by decide)) (show Hid (w1154 275 80 = w1077 275 80) from Hid.mk (q1156 275 80 (mRf_fld (by decide)))).out)).out, (show Hid (w1189 275 81 = w 275 81) from Hid.mk (Eq.trans (q1191.out.fld (by decide)) (show Hid (w1154 275 81 = w 275 81) from Hid.mk (Eq.trans (q1156 275 81 (mRf_fld (by decide))) u1081.out)).out)).out, (show Hid (w1189 275 82 = w 275 82) from Hid.mk (Eq.trans (q1191.out.fld (by decide)) (show Hid (w1154 275 82 = w 275 82) from Hid.mk (Eq.trans (q1156 275 82 (mRf_fld (by decide))) u1082.out)).out)).out, (show Hid (w1189 275 83 = w1077 275 83) from Hid.mk (Eq.trans (q1191.out.fld (by decide)) (show Hid (w1154 275 83 = w1077 275 83) from Hid.mk (q1156 275 83 (mRf_fld (by decide)))).out)).out, (show Hid (w1189 275 86 = w1077 275 86) from Hid.mk (Eq.trans (q1191.out.fld (by decide)) (show Hid (w1154 275 86 = w1077 275 86) from Hid.mk (q1156 275 86 (mRf_fld (by decide)))).out)).out, u1202.out, (show Hid (w1189 275 94 = w1077 275 94) from Hid.mk (Eq.trans (q1191.out.fld (by decide)) (show Hid (w1154 275 94 = w1077 275 94) from Hid.mk (q1156 275 94 (mRf_fld (by decide)))).out)).out]; omega), (Hid.mk (fun z => by rw [u1202.out] at z; exact absurd z (by omega))), (by rw [(show Hid (w1189 275 86 = w1077 275 86) from Hid.mk (Eq.trans (q1191.out.fld (by decide)) (show Hid (w1154 275 86 = w1077 275 86) from Hid.mk (q1156 275 86 (mRf_fld (by decide)))).out)).out, u1202.out] <;> omega)⟩ ((by rw [(show Hid (w1189 275 86 = w1077 275 86) from Hid.mk (Eq.trans (q1191.out.fld (by decide)) (show Hid (w1154 275 86 = w1077 275 86) from Hid.mk (q1156 275 86 (mRf_fld (by decide)))).out)).out, u1202.out] <;> omega)))
                                exact ⟨rfl, trivial⟩
                          · exact absurd q1060b (by decide)
                        · refine e_Ok.nrm (q := 102) (st' := [(0, 0), (1, 275)]) rfl rfl ?_
                          clear q1056n
                          refine e_Ok.callV rfl (Nat.le_trans (by decide) hdq) rfl rfl rfl rfl (c_334 (Nat.le_trans (by decide) hdq) c1046.1 c1046.2.1 c1046.2.2.1 hNr c1046.2.2.2.1 (by decide)) (fun r1206 w1207 h1208 => ?_)
                          obtain ⟨rfl, q1209⟩ := h1208
                          obtain ⟨rfl, q1209z⟩ | ⟨q1209z, q1209b, q1209, q1209s, q1209t⟩ | ⟨q1209z, q1209b, q1209, q1209T, q1209H, q1209r⟩ := q1209
                          · rw [u1044.out] at q1209z; exact absurd q1209z (by omega)
                          · exact absurd q1209b (by decide)
                          · refine e_Ok.nrm (q := 105) (st' := []) rfl rfl ?_
                            rw [u1044.out] at q1209z
                            have u1213 : Hid (w1207 275 81 = w 275 81) := Hid.mk (Eq.trans (q1209 275 81 (mRf_fld (by decide))) (show Hid (w886 275 81 = w 275 81) from Hid.mk (Eq.trans (q888 275 81 (mTq_fld (by decide))) (show Hid (w889 275 81 = w 275 81) from Hid.mk (Eq.trans (q888F 275 81 (mNm_fld (by decide))) (show Hid (w868 275 81 = w 275 81) from Hid.mk (Eq.trans (q870 275 81 (mTq_fld (by decide))) u849.out)).out)).out)).out)
                            have c1221 := cSt.rf c1046 q1209 q1209T q1209H
                            have f1222 : e_fr (mStm (w 275 78) (w 275 79) (w 275 80) (w 275 94)) w w1207 := e_fr.trans f1048 (e_fr.mono q1209 (fun c k g => mRf_St g))
                            refine e_Ok.run (t' := (106, [(0, (1, 275))], [(1, 275)], w1207)) 1 rfl ?_
                            refine e_Ok.callV rfl (Nat.le_trans (by decide) hdq) rfl rfl rfl rfl (c_348_0 (Nat.le_trans (by decide) hdq) c1221 (by omega)) (fun r1223 w1224 h1225 => ?_)
                            obtain ⟨rfl, rfl⟩ := h1225
                            refine e_Ok.nrm (q := 109) (st' := []) rfl rfl ?_
                            refine e_Ok.ps3 (x := (0, 2)) (y := (1, 275)) (z := (1, 275)) (q := 112) 3 rfl ?_
                            refine e_Ok.callV rfl (Nat.le_trans (by decide) hdq) rfl rfl rfl rfl (c_332 c1221.1 (N := N) c1221.2.2.2.1) (fun r1226 w1227 h1228 => ?_)
                            obtain ⟨z1229, rfl, rfl, q1230⟩ := h1228
                            obtain ⟨rfl, q1230, q1230b⟩ | ⟨rfl, q1230n⟩ := q1230
                            · refine e_Ok.nrm (q := 115) (st' := [(0, 1), (1, 275)]) rfl rfl ?_
                              rw [(show Hid (w1207 275 84 = w886 275 84) from Hid.mk (q1209 275 84 (mRf_fld (by decide)))).out] at q1230
                              rw [(show Hid (w1207 275 85 = w886 275 85) from Hid.mk (q1209 275 85 (mRf_fld (by decide)))).out] at q1230b
                              refine e_Ok.callV rfl (Nat.le_trans (by decide) hdq) rfl rfl rfl rfl (c_334 (Nat.le_trans (by decide) hdq) c1221.1 c1221.2.1 c1221.2.2.1 hNr c1221.2.2.2.1 (by decide)) (fun r1231 w1232 h1233 => ?_)
                              obtain ⟨rfl, q1234⟩ := h1233
                              obtain ⟨rfl, q1234z⟩ | ⟨q1234z, q1234b, q1234, q1234s, q1234t⟩ | ⟨q1234z, q1234b, q1234, q1234T, q1234H, q1234r⟩ := q1234
                              · show e_Ok 20 elay ecode eI (d + 1) 353 (118, [(0, (1, 275))], [], w1207) _
                                refine e_Ok.ps3 (x := (0, 0)) (y := (0, 45)) (z := (1, 275)) (q := 122) 3 rfl ?_
                                refine e_Ok.callV rfl (Nat.le_trans (by decide) hdq) rfl rfl rfl rfl (c_336 c1221.1 (n := v3 275 78) (show Hid (w1207 275 78 = v3 275 78) from Hid.mk (Eq.trans (q1209 275 78 (mRf_fld (by decide))) (show Hid (w886 275 78 = v3 275 78) from Hid.mk (Eq.trans (q888 275 78 (mTq_fld (by decide))) (show Hid (w889 275 78 = v3 275 78) from Hid.mk (Eq.trans (q888F 275 78 (mNm_fld (by decide))) (show Hid (w868 275 78 = v3 275 78) from Hid.mk (q870 275 78 (mTq_fld (by decide)))).out)).out)).out)).out (by omega) (s := w 275 81) u1213.out (by omega)) (fun r1235 w1236 h1237 => ?_)
                                obtain ⟨rfl, q1238⟩ := h1237
                                replace q1238 := (show Hid (EM w1207 w1236 (v3 275 78) 45 (0) (w 275 81)) from q1238)
                                have u1249 : Hid (w1236 275 88 = w1207 275 88) := Hid.mk (q1238.out.fld (by decide))
                                refine e_Ok.nrm (q := 125) (st' := [(0, v3 275 78)]) rfl rfl ?_
                                refine e_Ok.run (t' := (67, [(0, (1, 275))], [], w1236)) 2 rfl ?_
                                refine e_Ok.sub eAlk (e_sub_of rfl ?_) (ih843  w1236 ⟨(show e_fr (mStm (w 275 78) (w 275 79) (w 275 80) (w 275 94)) w w1236 from e_fr.trans f1222 (q1238.out.st (by omega))), (cSt.em c1221 q1238.out (by decide) (by omega) (by omega)), (by unfold stL; rw [(show Hid (w1236 275 78 = v3 275 78 + 1) from Hid.mk (Eq.trans q1238.out.2.2.2.2 (by omega))).out, (show Hid (w1236 275 79 = v3 275 79) from Hid.mk (Eq.trans (q1238.out.fld (by decide)) (show Hid (w1207 275 79 = v3 275 79) from Hid.mk (Eq.trans (q1209 275 79 (mRf_fld (by decide))) (show Hid (w886 275 79 = v3 275 79) from Hid.mk (Eq.trans (q888 275 79 (mTq_fld (by decide))) (show Hid (w889 275 79 = v3 275 79) from Hid.mk (Eq.trans (q888F 275 79 (mNm_fld (by decide))) (show Hid (w868 275 79 = v3 275 79) from Hid.mk (q870 275 79 (mTq_fld (by decide)))).out)).out)).out)).out)).out, (show Hid (w1236 275 80 = v3 275 80) from Hid.mk (Eq.trans (q1238.out.fld (by decide)) (show Hid (w1207 275 80 = v3 275 80) from Hid.mk (Eq.trans (q1209 275 80 (mRf_fld (by decide))) (show Hid (w886 275 80 = v3 275 80) from Hid.mk (Eq.trans (q888 275 80 (mTq_fld (by decide))) (show Hid (w889 275 80 = v3 275 80) from Hid.mk (Eq.trans (q888F 275 80 (mNm_fld (by decide))) (show Hid (w868 275 80 = v3 275 80) from Hid.mk (q870 275 80 (mTq_fld (by decide)))).out)).out)).out)).out)).out, (show Hid (w1236 275 81 = w 275 81) from Hid.mk (Eq.trans (q1238.out.fld (by decide)) u1213.out)).out, (show Hid (w1236 275 82 = w 275 82) from Hid.mk (Eq.trans (q1238.out.fld (by decide)) (show Hid (w1207 275 82 = w 275 82) from Hid.mk (Eq.trans (q1209 275 82 (mRf_fld (by decide))) (show Hid (w886 275 82 = w 275 82) from Hid.mk (Eq.trans (q888 275 82 (mTq_fld (by decide))) (show Hid (w889 275 82 = w 275 82) from Hid.mk (Eq.trans (q888F 275 82 (mNm_fld (by decide))) (show Hid (w868 275 82 = w 275 82) from Hid.mk (Eq.trans (q870 275 82 (mTq_fld (by decide))) u850.out)).out)).out)).out)).out)).out, (show Hid (w1236 275 83 = v3 275 83) from Hid.mk (Eq.trans (q1238.out.fld (by decide)) (show Hid (w1207 275 83 = v3 275 83) from Hid.mk (Eq.trans (q1209 275 83 (mRf_fld (by decide))) (show Hid (w886 275 83 = v3 275 83) from Hid.mk (Eq.trans (q888 275 83 (mTq_fld (by decide))) (show Hid (w889 275 83 = v3 275 83) from Hid.mk (Eq.trans (q888F 275 83 (mNm_fld (by decide))) (show Hid (w868 275 83 = v3 275 83) from Hid.mk (q870 275 83 (mTq_fld (by decide)))).out)).out)).out)).out)).out, (show Hid (w1236 275 86 = w886 275 86) from Hid.mk (Eq.trans (q1238.out.fld (by decide)) (show Hid (w1207 275 86 = w886 275 86) from Hid.mk (q1209 275 86 (mRf_fld (by decide)))).out)).out, u1249.out, (show Hid (w1236 275 94 = v3 275 94 + 1) from Hid.mk (Eq.trans (q1238.out.fld (by decide)) (show Hid (w1207 275 94 = v3 275 94 + 1) from Hid.mk (Eq.trans (q1209 275 94 (mRf_fld (by decide))) (show Hid (w886 275 94 = v3 275 94 + 1) from Hid.mk (Eq.trans (q888 275 94 (mTq_fld (by decide))) (show Hid (w889 275 94 = v3 275 94 + 1) from Hid.mk (Eq.trans q888v5.out (by omega))).out)).out)).out)).out]; omega), (Hid.mk (fun z => by rw [u1249.out] at z; exact absurd z (by omega))), (by rw [(show Hid (w1236 275 86 = w886 275 86) from Hid.mk (Eq.trans (q1238.out.fld (by decide)) (show Hid (w1207 275 86 = w886 275 86) from Hid.mk (q1209 275 86 (mRf_fld (by decide)))).out)).out, u1249.out] <;> omega)⟩ ((by rw [(show Hid (w1236 275 86 = w886 275 86) from Hid.mk (Eq.trans (q1238.out.fld (by decide)) (show Hid (w1207 275 86 = w886 275 86) from Hid.mk (q1209 275 86 (mRf_fld (by decide)))).out)).out, u1249.out] <;> omega)))
                                exact ⟨rfl, trivial⟩
                              · exact absurd q1234z (by omega)
                              · exact absurd q1234z (by omega)
                            · refine e_Ok.nrm (q := 115) (st' := [(0, 0), (1, 275)]) rfl rfl ?_
                              clear q1230n
                              refine e_Ok.callV rfl (Nat.le_trans (by decide) hdq) rfl rfl rfl rfl (c_334 (Nat.le_trans (by decide) hdq) c1221.1 c1221.2.1 c1221.2.2.1 hNr c1221.2.2.2.1 (by decide)) (fun r1253 w1254 h1255 => ?_)
                              obtain ⟨rfl, q1256⟩ := h1255
                              obtain ⟨rfl, q1256z⟩ | ⟨q1256z, q1256b, q1256, q1256s, q1256t⟩ | ⟨q1256z, q1256b, q1256, q1256T, q1256H, q1256r⟩ := q1256
                              · refine e_Ok.nrm (q := 118) (st' := []) rfl rfl ?_
                                refine e_Ok.ps3 (x := (0, 0)) (y := (0, 45)) (z := (1, 275)) (q := 122) 3 rfl ?_
                                refine e_Ok.callV rfl (Nat.le_trans (by decide) hdq) rfl rfl rfl rfl (c_336 c1221.1 (n := v3 275 78) (show Hid (w1207 275 78 = v3 275 78) from Hid.mk (Eq.trans (q1209 275 78 (mRf_fld (by decide))) (show Hid (w886 275 78 = v3 275 78) from Hid.mk (Eq.trans (q888 275 78 (mTq_fld (by decide))) (show Hid (w889 275 78 = v3 275 78) from Hid.mk (Eq.trans (q888F 275 78 (mNm_fld (by decide))) (show Hid (w868 275 78 = v3 275 78) from Hid.mk (q870 275 78 (mTq_fld (by decide)))).out)).out)).out)).out (by omega) (s := w 275 81) u1213.out (by omega)) (fun r1257 w1258 h1259 => ?_)
                                obtain ⟨rfl, q1260⟩ := h1259
                                replace q1260 := (show Hid (EM w1207 w1258 (v3 275 78) 45 (0) (w 275 81)) from q1260)
                                have u1271 : Hid (w1258 275 88 = w1207 275 88) := Hid.mk (q1260.out.fld (by decide))
                                refine e_Ok.nrm (q := 125) (st' := [(0, v3 275 78)]) rfl rfl ?_
                                refine e_Ok.run (t' := (67, [(0, (1, 275))], [], w1258)) 2 rfl ?_
                                refine e_Ok.sub eAlk (e_sub_of rfl ?_) (ih843  w1258 ⟨(show e_fr (mStm (w 275 78) (w 275 79) (w 275 80) (w 275 94)) w w1258 from e_fr.trans f1222 (q1260.out.st (by omega))), (cSt.em c1221 q1260.out (by decide) (by omega) (by omega)), (by unfold stL; rw [(show Hid (w1258 275 78 = v3 275 78 + 1) from Hid.mk (Eq.trans q1260.out.2.2.2.2 (by omega))).out, (show Hid (w1258 275 79 = v3 275 79) from Hid.mk (Eq.trans (q1260.out.fld (by decide)) (show Hid (w1207 275 79 = v3 275 79) from Hid.mk (Eq.trans (q1209 275 79 (mRf_fld (by decide))) (show Hid (w886 275 79 = v3 275 79) from Hid.mk (Eq.trans (q888 275 79 (mTq_fld (by decide))) (show Hid (w889 275 79 = v3 275 79) from Hid.mk (Eq.trans (q888F 275 79 (mNm_fld (by decide))) (show Hid (w868 275 79 = v3 275 79) from Hid.mk (q870 275 79 (mTq_fld (by decide)))).out)).out)).out)).out)).out, (show Hid (w1258 275 80 = v3 275 80) from Hid.mk (Eq.trans (q1260.out.fld (by decide)) (show Hid (w1207 275 80 = v3 275 80) from Hid.mk (Eq.trans (q1209 275 80 (mRf_fld (by decide))) (show Hid (w886 275 80 = v3 275 80) from Hid.mk (Eq.trans (q888 275 80 (mTq_fld (by decide))) (show Hid (w889 275 80 = v3 275 80) from Hid.mk (Eq.trans (q888F 275 80 (mNm_fld (by decide))) (show Hid (w868 275 80 = v3 275 80) from Hid.mk (q870 275 80 (mTq_fld (by decide)))).out)).out)).out)).out)).out, (show Hid (w1258 275 81 = w 275 81) from Hid.mk (Eq.trans (q1260.out.fld (by decide)) u1213.out)).out, (show Hid (w1258 275 82 = w 275 82) from Hid.mk (Eq.trans (q1260.out.fld (by decide)) (show Hid (w1207 275 82 = w 275 82) from Hid.mk (Eq.trans (q1209 275 82 (mRf_fld (by decide))) (show Hid (w886 275 82 = w 275 82) from Hid.mk (Eq.trans (q888 275 82 (mTq_fld (by decide))) (show Hid (w889 275 82 = w 275 82) from Hid.mk (Eq.trans (q888F 275 82 (mNm_fld (by decide))) (show Hid (w868 275 82 = w 275 82) from Hid.mk (Eq.trans (q870 275 82 (mTq_fld (by decide))) u850.out)).out)).out)).out)).out)).out, (show Hid (w1258 275 83 = v3 275 83) from Hid.mk (Eq.trans (q1260.out.fld (by decide)) (show Hid (w1207 275 83 = v3 275 83) from Hid.mk (Eq.trans (q1209 275 83 (mRf_fld (by decide))) (show Hid (w886 275 83 = v3 275 83) from Hid.mk (Eq.trans (q888 275 83 (mTq_fld (by decide))) (show Hid (w889 275 83 = v3 275 83) from Hid.mk (Eq.trans (q888F 275 83 (mNm_fld (by decide))) (show Hid (w868 275 83 = v3 275 83) from Hid.mk (q870 275 83 (mTq_fld (by decide)))).out)).out)).out)).out)).out, (show Hid (w1258 275 86 = w886 275 86) from Hid.mk (Eq.trans (q1260.out.fld (by decide)) (show Hid (w1207 275 86 = w886 275 86) from Hid.mk (q1209 275 86 (mRf_fld (by decide)))).out)).out, u1271.out, (show Hid (w1258 275 94 = v3 275 94 + 1) from Hid.mk (Eq.trans (q1260.out.fld (by decide)) (show Hid (w1207 275 94 = v3 275 94 + 1) from Hid.mk (Eq.trans (q1209 275 94 (mRf_fld (by decide))) (show Hid (w886 275 94 = v3 275 94 + 1) from Hid.mk (Eq.trans (q888 275 94 (mTq_fld (by decide))) (show Hid (w889 275 94 = v3 275 94 + 1) from Hid.mk (Eq.trans q888v5.out (by omega))).out)).out)).out)).out]; omega), (Hid.mk (fun z => by rw [u1271.out] at z; exact absurd z (by omega))), (by rw [(show Hid (w1258 275 86 = w886 275 86) from Hid.mk (Eq.trans (q1260.out.fld (by decide)) (show Hid (w1207 275 86 = w886 275 86) from Hid.mk (q1209 275 86 (mRf_fld (by decide)))).out)).out, u1271.out] <;> omega)⟩ ((by rw [(show Hid (w1258 275 86 = w886 275 86) from Hid.mk (Eq.trans (q1260.out.fld (by decide)) (show Hid (w1207 275 86 = w886 275 86) from Hid.mk (q1209 275 86 (mRf_fld (by decide)))).out)).out, u1271.out] <;> omega)))
                                exact ⟨rfl, trivial⟩
                              · exact absurd q1256z (by omega)
                              · exact absurd q1256z (by omega)
                  · refine e_Ok.nrm (q := 79) (st' := [(0, 0)]) rfl rfl ?_
                    clear q865n
                    refine e_Ok.if1 rfl (fun h1275 => ?_) (fun h1275 => ?_)
                    · replace h1275 : (0 : Int) = 0 := h1275
                      refine e_Ok.ps2 (x := (1, 275)) (y := (1, 275)) (q := 131) 2 rfl ?_
                      refine e_Ok.getf (z := v3 275 84) rfl (el_o rfl) rfl (ef_o rfl) rfl (by omega) ?_
                      refine e_Ok.if1 rfl (fun h1276 => ?_) (fun h1276 => ?_)
                      · replace h1276 : (v3 275 84 : Int) ≠ 0 := h1276
                        refine e_Ok.ps1 (x := (0, 0)) (q := 142) 1 rfl ?_
                        refine e_Ok.callV rfl (Nat.le_trans (by decide) hdq) rfl rfl rfl rfl (c_334 (Nat.le_trans (by decide) hdq) j845.1 j845.2.1 j845.2.2.1 hNr j845.2.2.2.1 (by decide)) (fun r1277 w1278 h1279 => ?_)
                        obtain ⟨rfl, q1280⟩ := h1279
                        obtain ⟨rfl, q1280z⟩ | ⟨q1280z, q1280b, q1280, q1280s, q1280t⟩ | ⟨q1280z, q1280b, q1280, q1280T, q1280H, q1280r⟩ := q1280
                        · exact absurd q1280z (by omega)
                        · exact absurd q1280b (by decide)
                        · refine e_Ok.nrm (q := 145) (st' := []) rfl rfl ?_
                          refine e_Ok.rets rfl rfl ?_
                          exact ⟨rfl, (show e_fr (mStm (w 275 78) (w 275 79) (w 275 80) (w 275 94)) w w1278 from e_fr.trans j844 (e_fr.mono q1280 (fun c k g => mRf_St g))), (cSt.rf j845 q1280 q1280T q1280H), (by unfold stL; rw [(show Hid (w1278 275 78 = v3 275 78) from Hid.mk (q1280 275 78 (mRf_fld (by decide)))).out, (show Hid (w1278 275 79 = v3 275 79) from Hid.mk (q1280 275 79 (mRf_fld (by decide)))).out, (show Hid (w1278 275 80 = v3 275 80) from Hid.mk (q1280 275 80 (mRf_fld (by decide)))).out, (show Hid (w1278 275 81 = w 275 81) from Hid.mk (Eq.trans (q1280 275 81 (mRf_fld (by decide))) u849.out)).out, (show Hid (w1278 275 82 = w 275 82) from Hid.mk (Eq.trans (q1280 275 82 (mRf_fld (by decide))) u850.out)).out, (show Hid (w1278 275 83 = v3 275 83) from Hid.mk (q1280 275 83 (mRf_fld (by decide)))).out, (show Hid (w1278 275 86 = v3 275 86) from Hid.mk (q1280 275 86 (mRf_fld (by decide)))).out, (show Hid (w1278 275 94 = v3 275 94) from Hid.mk (q1280 275 94 (mRf_fld (by decide)))).out]; omega), (Hid.mk (fun z => absurd z (by omega))).out⟩
                      · replace h1276 : (v3 275 84 : Int) = 0 := Classical.not_not.mp (show ¬ ((v3 275 84 : Int) ≠ 0) from h1276)
                        refine e_Ok.ps1 (x := (0, 1)) (q := 142) 2 rfl ?_
                        refine e_Ok.callV rfl (Nat.le_trans (by decide) hdq) rfl rfl rfl rfl (c_334 (Nat.le_trans (by decide) hdq) j845.1 j845.2.1 j845.2.2.1 hNr j845.2.2.2.1 (by decide)) (fun r1294 w1295 h1296 => ?_)
                        obtain ⟨rfl, q1297⟩ := h1296
                        obtain ⟨rfl, q1297z⟩ | ⟨q1297z, q1297b, q1297, q1297s, q1297t⟩ | ⟨q1297z, q1297b, q1297, q1297T, q1297H, q1297r⟩ := q1297
                        · exact absurd q1297z (by omega)
                        · refine e_Ok.nrm (q := 145) (st' := []) rfl rfl ?_
                          have c1306 := cSt.tk j845 q1297 q1297s
                          have t1307 := tkS.lin c1306.2.2.2.1
                          refine e_Ok.rets rfl rfl ?_
                          exact ⟨rfl, (show e_fr (mStm (w 275 78) (w 275 79) (w 275 80) (w 275 94)) w w1295 from e_fr.trans j844 (e_fr.mono q1297 (fun c k g => mTq_St g))), c1306, (by unfold stL; rw [(show Hid (w1295 275 78 = v3 275 78) from Hid.mk (q1297 275 78 (mTq_fld (by decide)))).out, (show Hid (w1295 275 79 = v3 275 79) from Hid.mk (q1297 275 79 (mTq_fld (by decide)))).out, (show Hid (w1295 275 80 = v3 275 80) from Hid.mk (q1297 275 80 (mTq_fld (by decide)))).out, (show Hid (w1295 275 81 = w 275 81) from Hid.mk (Eq.trans (q1297 275 81 (mTq_fld (by decide))) u849.out)).out, (show Hid (w1295 275 82 = w 275 82) from Hid.mk (Eq.trans (q1297 275 82 (mTq_fld (by decide))) u850.out)).out, (show Hid (w1295 275 83 = v3 275 83) from Hid.mk (q1297 275 83 (mTq_fld (by decide)))).out, (show Hid (w1295 275 88 = v3 275 88) from Hid.mk (q1297 275 88 (mTq_fld (by decide)))).out, (show Hid (w1295 275 94 = v3 275 94) from Hid.mk (q1297 275 94 (mTq_fld (by decide)))).out]; omega), (Hid.mk (fun z => by rw [(show Hid (w1295 275 88 = v3 275 88) from Hid.mk (q1297 275 88 (mTq_fld (by decide)))).out] at z; rw [(show Hid (w1295 275 78 = v3 275 78) from Hid.mk (q1297 275 78 (mTq_fld (by decide)))).out, (show Hid (w1295 275 94 = v3 275 94) from Hid.mk (q1297 275 94 (mTq_fld (by decide)))).out, (show Hid (w1295 275 79 = v3 275 79) from Hid.mk (q1297 275 79 (mTq_fld (by decide)))).out, (show Hid (w1295 275 80 = v3 275 80) from Hid.mk (q1297 275 80 (mTq_fld (by decide)))).out]; exact ((show Hid (v3 275 88 = 0 → GX w1295 N (v3 275 78) (v3 275 94) (v3 275 79) (v3 275 80) (fun _ => False) (w 275 81) (fun _ => False) 0) from Hid.mk (fun z => GX.pr (j847.out z) (prE.tk q1297))).out (by omega)))).out⟩
                        · exact absurd q1297b (by decide)
                    · replace h1275 : (0 : Int) ≠ 0 := (show ¬ ((0 : Int) = 0) from h1275)
                      exfalso; omega
            refine e_Ok.sub eAlk (e_sub_of rfl ?_) (hL842 (32010 + 1 : Int).toNat  v1 ⟨j3, j4, (by unfold stL; rw [u9.out, u10.out]; omega), (Hid.mk (fun z => by exact (Or.inl ⟨by omega, by omega, by omega, (j6.out (by omega))⟩))), (by omega)⟩ ((by omega)))
            exact ⟨rfl, trivial⟩
          · replace h841 : (0 : Int) ≠ 0 := (show ¬ ((0 : Int) = 0) from h841)
            exfalso; omega
  refine e_Ok.sub eAlk (e_sub_of rfl ?_) (hL1 (32010 + 1 : Int).toNat  w ⟨(e_fr.refl w), hc, (by unfold stL; omega), (Hid.mk (fun z => by exact (hgH.out (by omega)))), (by omega), (by omega)⟩ ((by omega)))
  exact ⟨rfl, trivial⟩
end
