noncomputable section
theorem no_bd_0 {n : Int} {nt : Int} {nw : Int} {m : Int} : ¬ mStm n nt nw m 275 90 := by unfold mStm; omega
theorem no_bd_1 {n : Int} {nt : Int} {nw : Int} {m : Int} : ¬ mStm n nt nw m 275 91 := by unfold mStm; omega
theorem no_bd_2 {n : Int} {nt : Int} {nw : Int} {m : Int} : ¬ mStm n nt nw m 275 92 := by unfold mStm; omega
set_option maxHeartbeats 4000000 in
theorem c_349 {d : Nat} (hd : 309 ≤ d) {w : eW} {N o O F key : Int} {P OW : Int → Prop} (hc : cSt w N) (hNr : 0 ≤ N ∧ N ≤ 4000) (h0 : w 275 88 = 0) (ho : w 275 83 = o) (hv : w 275 82 = -1 ∨ OW (w 275 82)) (hb : stB w N o) (hO : O ≤ o) (hG : GB w N (w 275 78) (w 275 94) (w 275 79) (w 275 80) P (w 275 81) OW O) (hor : 0 ≤ o ∧ o ≤ 30) (hF : 300 ≤ F ∧ F ≤ 700) (hk : 3 ≤ key ∧ key ≤ 17) (hk4 : w 275 84 = 4) : e_Ok 20 elay ecode eI d 349 (0, [(0, (1, 275)), (1, (0, key))], [], w) (fun r w' => r = [] ∧ stQ w w' N P OW O 1 (F + 10)) := by
  obtain ⟨d, rfl⟩ : ∃ e, d = e + 1 := ⟨d - 1, by omega⟩
  have hdq : 308 ≤ d := by omega
  have hct := tkS.lin hc.2.2.2.1
  have hcf := e_Has.get hc.2.1 (c := 275) (k := 88) (lo := 0) (hi := 7) rfl (by decide)
  have hsb := hc.2.2.2.2
  unfold stB at hb
  have hvr : -1 ≤ w 275 82 ∧ w 275 82 ≤ 900 := by rcases hv with g | g; omega; have := hG.1.2.2.2.2.2.2.2.1 _ g; omega
  replace hv := (show Hid _ from hv)
  have hgH : Hid (w 275 88 = 0 → GB w N (w 275 78) (w 275 94) (w 275 79) (w 275 80) P (w 275 81) OW O) := Hid.mk (fun _ => hG)
  refine e_Ok.ps3 (x := (0, 0)) (y := (0, 30)) (z := (1, 275)) (q := 4) 3 rfl ?_
  refine e_Ok.callV rfl (Nat.le_trans (by decide) hdq) rfl rfl rfl rfl (c_336 hc.1 (n := w 275 78) rfl (by omega) (s := w 275 81) rfl (by omega)) (fun r1 w2 h3 => ?_)
  obtain ⟨rfl, q4⟩ := h3
  replace q4 := (show Hid (EM w w2 (w 275 78) 30 (0) (w 275 81)) from q4)
  have u5 : Hid (w2 275 78 = w 275 78 + 1) := Hid.mk (Eq.trans q4.out.2.2.2.2 (by omega))
  have u9 : Hid (w2 275 82 = w 275 82) := Hid.mk (q4.out.fld (by decide))
  have u11 : Hid (w2 275 84 = w 275 84) := Hid.mk (q4.out.fld (by decide))
  have u13 : Hid (w2 275 86 = w 275 86) := Hid.mk (q4.out.fld (by decide))
  have u14 : Hid (w2 275 87 = w 275 87) := Hid.mk (q4.out.fld (by decide))
  have u16 : Hid (w2 275 94 = w 275 94) := Hid.mk (q4.out.fld (by decide))
  have f17 : e_fr (mStm (w 275 78) (w 275 79) (w 275 80) (w 275 94)) w w2 := e_fr.trans (e_fr.refl w) (q4.out.st (by omega))
  have c18 := cSt.em hc q4.out (by decide) (by omega) (by omega)
  have g19 : Hid (w 275 88 = 0 → GA w2 N (w 275 78 + 1) (w 275 94) (w 275 79) (w 275 80) P (w 275 81) OW O) := Hid.mk (fun z => (GB.beg (hgH.out (by omega)) q4.out))
  refine e_Ok.nrm (q := 7) (st' := [(0, w 275 78)]) rfl rfl ?_
  refine e_Ok.run (t' := (9, [(0, (1, 275)), (1, (0, key))], [(1, 275)], w2)) 2 rfl ?_
  refine e_Ok.getf (z := w 275 78 + 1) rfl (el_o rfl) rfl (ef_o rfl) u5.out (by omega) ?_
  refine e_Ok.run (t' := (16, [(2, (0, w 275 78 + 1)), (0, (1, 275)), (1, (0, key))], [(0, 17), (0, key)], w2)) 3 rfl ?_
  refine e_Ok.if2 rfl (fun h22 => ?_) (fun h22 => ?_)
  · replace h22 : (key : Int) ≠ 17 := h22
    refine e_Ok.ps1 (x := (1, 275)) (q := 70) 1 rfl ?_
    refine e_Ok.callV rfl (Nat.le_trans (by decide) hdq) rfl rfl rfl rfl (c_327 (Nat.le_trans (by decide) hdq) c18.1 c18.2.1 c18.2.2.1 hNr (t := w 275 87) u14.out (by omega)) (fun r23 w24 h25 => ?_)
    have p27 := tkS.pos c18.2.2.2.1 (by rw [u11.out] <;> omega)
    rw [u13.out, u14.out] at p27
    have p28 := tkS.key c18.2.2.2.1 (by rw [u11.out] <;> omega)
    rw [u13.out, u14.out, (show Hid (w2 275 85 = w 275 85) from Hid.mk (q4.out.fld (by decide))).out] at p28
    obtain ⟨rfl, q26, q26s, q26t⟩ := h25
    have u29 : Hid (w24 275 78 = w 275 78 + 1) := Hid.mk (Eq.trans (q26 275 78 (mTq_fld (by decide))) u5.out)
    have u30 : Hid (w24 275 79 = w 275 79) := Hid.mk (Eq.trans (q26 275 79 (mTq_fld (by decide))) (show Hid (w2 275 79 = w 275 79) from Hid.mk (q4.out.fld (by decide))).out)
    have u31 : Hid (w24 275 80 = w 275 80) := Hid.mk (Eq.trans (q26 275 80 (mTq_fld (by decide))) (show Hid (w2 275 80 = w 275 80) from Hid.mk (q4.out.fld (by decide))).out)
    have u32 : Hid (w24 275 81 = w 275 81) := Hid.mk (Eq.trans (q26 275 81 (mTq_fld (by decide))) (show Hid (w2 275 81 = w 275 81) from Hid.mk (q4.out.fld (by decide))).out)
    have u33 : Hid (w24 275 82 = w 275 82) := Hid.mk (Eq.trans (q26 275 82 (mTq_fld (by decide))) u9.out)
    have u34 : Hid (w24 275 83 = w 275 83) := Hid.mk (Eq.trans (q26 275 83 (mTq_fld (by decide))) (show Hid (w2 275 83 = w 275 83) from Hid.mk (q4.out.fld (by decide))).out)
    have u35 : Hid (w24 275 88 = w 275 88) := Hid.mk (Eq.trans (q26 275 88 (mTq_fld (by decide))) (show Hid (w2 275 88 = w 275 88) from Hid.mk (q4.out.fld (by decide))).out)
    have u36 : Hid (w24 275 94 = w 275 94) := Hid.mk (Eq.trans (q26 275 94 (mTq_fld (by decide))) u16.out)
    have c37 := cSt.tk c18 q26 q26s
    have t38 := tkS.lin c37.2.2.2.1
    have f40 : e_fr (mStm (w 275 78) (w 275 79) (w 275 80) (w 275 94)) w w24 := e_fr.trans f17 (e_fr.mono q26 (fun c k g => mTq_St g))
    have g41 : Hid (w 275 88 = 0 → GA w24 N (w 275 78 + 1) (w 275 94) (w 275 79) (w 275 80) P (w 275 81) OW O) := Hid.mk (fun z => GA.pr (g19.out z) (prE.tk q26))
    show e_Ok 20 elay ecode eI (d + 1) 349 (73, [(2, (0, w 275 78 + 1)), (0, (1, 275)), (1, (0, key))], [], w24) _
    refine e_Ok.ps1 (x := (0, key)) (q := 74) 1 rfl ?_
    have hs45 : ∀ x : Int, 3 ≤ x ∧ x ≤ 16 → (x = 3) ∨ (x = 4 ∨ x = 5 ∨ x = 7 ∨ x = 8 ∨ x = 11 ∨ x = 12) ∨ (x = 6) ∨ (x = 9) ∨ (x = 10) ∨ (x = 13) ∨ (x = 14) ∨ (x = 15) ∨ (x = 16) := fun x h => by omega
    obtain h44 | h44 | h44 | h44 | h44 | h44 | h44 | h44 | h44 := hs45 (key) (by omega)
    · refine e_Ok.sw (tg := 148) rfl (by rw [h44]; rfl) ?_
      refine e_Ok.run (t' := (149, [(2, (0, w 275 78 + 1)), (0, (1, 275)), (1, (0, key))], [(1, 275)], w24)) 1 rfl ?_
      refine e_Ok.callV rfl (Nat.le_trans (by decide) hdq) rfl rfl rfl rfl (c_exp (o := w 275 83) (Nat.le_trans (by decide) hdq) (by omega) w24 N (w 275 79) (w 275 81) (0) (enc P (w 275 78 + 1) (w 275 94)) c37 hNr (by rw [u35.out] <;> omega) u34.out u32.out (by rw [u29.out, u36.out] <;> omega) (by rw [u29.out, u36.out] <;> exact GS.wf (GA.gs (g41.out (by omega)))) (by omega)) (fun r46 w47 h48 => ?_)
      obtain ⟨rfl, q49F, q49c, q49l, q49w⟩ := h48
      unfold cLn at q49l
      rw [u29.out, u34.out, u36.out] at q49l
      rw [u29.out, u36.out] at q49F
      obtain ⟨q491, q492, q493, q494, q495, q496, q497, q498, q499⟩ := q49l
      replace q49w := (show Hid _ from q49w)
      have t54 := tkS.lin q49c.2.2.2.1
      have t55 := e_Has.get q49c.2.1 (c := 275) (k := 88) (lo := 0) (hi := 7) rfl (by decide)
      have q49x : Hid (w47 275 88 = 0 → GS w47 N (w47 275 78) (w47 275 94) (w 275 79) (w 275 80) P (w 275 81) OW O (0 + 1) ∧ (∀ p, w 275 78 + 1 ≤ p → p < w47 275 78 → w47 330 (p + 40000) = w 275 81) ∧ dp w47 (w 275 78 + 1) = 0 ∧ ((0 : Int) ≠ 0 + 1 → w 275 78 + 1 < w47 275 78)) := Hid.mk (fun z => GS.ex (GA.gs (g41.out (by omega))) q49F (by omega) (by omega) (q49w.out z))
      show e_Ok 20 elay ecode eI (d + 1) 349 (152, [(2, (0, w 275 78 + 1)), (0, (1, 275)), (1, (0, key))], [], w47) _
      refine e_Ok.run (t' := (154, [(3, (0, 1)), (2, (0, w 275 78 + 1)), (0, (1, 275)), (1, (0, key))], [], w47)) 2 rfl ?_
      have hL60 : ∀ (nn : Nat) (y3 : Int) (v1 : eW), e_fr (mStm (w 275 78) (w 275 79) (w 275 80) (w 275 94)) w v1 ∧ cSt v1 N ∧ stL w v1 1 F ∧ (v1 275 88 = 0 → v1 275 78 + 1 ≤ w 275 78 + 2 * (v1 275 86 - w 275 86)) ∧ ((y3 ≤ v1 275 86 - w 275 86 ∧ 1 ≤ y3 ∧ y3 ≤ 4001 ∧ v1 275 79 = w 275 79 ∧ v1 275 80 = w 275 80 ∧ w 275 86 + 2 ≤ v1 275 86)) ∧ Hid (v1 275 88 = 0 → GS v1 N (v1 275 78) (v1 275 94) (w 275 79) (w 275 80) P (w 275 81) OW O y3) ∧ ((0 ≤ v1 275 86 ∧ v1 275 86 ≤ N ∧ 0 ≤ v1 275 88 ∧ v1 275 88 ≤ 7)) → N - v1 275 86 < nn → e_Ok 20 elay ecode eI (d + 1) 349 (154, [(0, (1, 275)), (1, (0, key)), (2, (0, w 275 78 + 1)), (3, (0, y3))], [], v1) (fun r w' => r = [] ∧ stQ w w' N P OW O 1 (F + 10)) := by
        intro nn
        induction nn with
        | zero => intro y3 v1 hj hm; obtain ⟨j62, j63, j64, j65, j66, j67, j68⟩ := hj; exfalso; omega
        | succ nn ih61 =>
          intro y3 v1 hj hm
          obtain ⟨j62, j63, j64, j65, j66, j67, j68⟩ := hj
          have xl := j64
          unfold stL at xl
          obtain ⟨x1, x2, x3, x4, x5, x6, x7, x8, x9, x10, x11, x12⟩ := xl
          have xt := tkS.lin j63.2.2.2.1
          have xf := e_Has.get j63.2.1 (c := 275) (k := 88) (lo := 0) (hi := 7) rfl (by decide)
          have xr := j63.2.2.2.2
          have u69 : Hid (v1 275 79 = w 275 79) := Hid.mk (by omega)
          have u70 : Hid (v1 275 80 = w 275 80) := Hid.mk (by omega)
          have u71 : Hid (v1 275 81 = w 275 81) := Hid.mk (by omega)
          have u72 : Hid (v1 275 82 = w 275 82) := Hid.mk (by omega)
          refine e_Ok.run (t' := (155, [(0, (1, 275)), (1, (0, key)), (2, (0, w 275 78 + 1)), (3, (0, y3))], [(1, 275)], v1)) 1 rfl ?_
          refine e_Ok.getf (z := v1 275 88) rfl (el_o rfl) rfl (ef_o rfl) rfl (by omega) ?_
          refine e_Ok.if1 rfl (fun h73 => ?_) (fun h73 => ?_)
          · replace h73 : (v1 275 88 : Int) ≠ 0 := h73
            clear x3
            clear j65
            refine e_Ok.ps3 (x := (0, y3)) (y := (0, 32)) (z := (1, 275)) (q := 188) 3 rfl ?_
            refine e_Ok.callV rfl (Nat.le_trans (by decide) hdq) rfl rfl rfl rfl (c_336 j63.1 (n := v1 275 78) rfl (by omega) (s := w 275 81) u71.out (by omega)) (fun r74 w75 h76 => ?_)
            obtain ⟨rfl, q77⟩ := h76
            replace q77 := (show Hid (EM v1 w75 (v1 275 78) 32 (y3) (w 275 81)) from q77)
            have u78 : Hid (w75 275 78 = v1 275 78 + 1) := Hid.mk (Eq.trans q77.out.2.2.2.2 (by omega))
            have u88 : Hid (w75 275 88 = v1 275 88) := Hid.mk (q77.out.fld (by decide))
            have f90 : e_fr (mStm (w 275 78) (w 275 79) (w 275 80) (w 275 94)) w w75 := e_fr.trans j62 (q77.out.st (by omega))
            have c91 := cSt.em j63 q77.out (by decide) (by omega) (by omega)
            refine e_Ok.nrm (q := 191) (st' := [(0, v1 275 78)]) rfl rfl ?_
            refine e_Ok.run (t' := (399, [(0, (1, 275)), (1, (0, key)), (2, (0, w 275 78 + 1)), (3, (0, y3))], [(0, 59), (1, 275), (1, 275)], w75)) 5 rfl ?_
            refine e_Ok.callV rfl (Nat.le_trans (by decide) hdq) rfl rfl rfl rfl (c_331 c91.1 (N := N) c91.2.2.2.1) (fun r92 w93 h94 => ?_)
            obtain ⟨z95, rfl, rfl, q101⟩ := h94
            obtain ⟨rfl, q101, q101b⟩ | ⟨rfl, q101n⟩ := q101
            · refine e_Ok.nrm (q := 402) (st' := [(0, 1), (1, 275)]) rfl rfl ?_
              rw [(show Hid (w75 275 84 = v1 275 84) from Hid.mk (q77.out.fld (by decide))).out] at q101
              rw [(show Hid (w75 275 85 = v1 275 85) from Hid.mk (q77.out.fld (by decide))).out] at q101b
              refine e_Ok.callV rfl (Nat.le_trans (by decide) hdq) rfl rfl rfl rfl (c_334 (Nat.le_trans (by decide) hdq) c91.1 c91.2.1 c91.2.2.1 hNr c91.2.2.2.1 (by decide)) (fun r103 w104 h105 => ?_)
              obtain ⟨rfl, q106⟩ := h105
              obtain ⟨rfl, q106z⟩ | ⟨q106z, q106b, q106, q106s, q106t⟩ | ⟨q106z, q106b, q106, q106T, q106H, q106r⟩ := q106
              · show e_Ok 20 elay ecode eI (d + 1) 349 (405, [(0, (1, 275)), (1, (0, key)), (2, (0, w 275 78 + 1)), (3, (0, y3))], [], w75) _
                rw [u88.out] at q106z
                refine e_Ok.rets rfl rfl ?_
                exact ⟨rfl, f90, c91, (by unfold stL; rw [u78.out, (show Hid (w75 275 79 = w 275 79) from Hid.mk (Eq.trans (q77.out.fld (by decide)) u69.out)).out, (show Hid (w75 275 80 = w 275 80) from Hid.mk (Eq.trans (q77.out.fld (by decide)) u70.out)).out, (show Hid (w75 275 81 = w 275 81) from Hid.mk (Eq.trans (q77.out.fld (by decide)) u71.out)).out, (show Hid (w75 275 82 = w 275 82) from Hid.mk (Eq.trans (q77.out.fld (by decide)) u72.out)).out, (show Hid (w75 275 83 = v1 275 83) from Hid.mk (q77.out.fld (by decide))).out, (show Hid (w75 275 86 = v1 275 86) from Hid.mk (q77.out.fld (by decide))).out, u88.out, (show Hid (w75 275 94 = v1 275 94) from Hid.mk (q77.out.fld (by decide))).out]; omega), (fun z => by rw [u88.out] at z; exact absurd z (by omega))⟩
              · rw [u88.out] at q106z; exact absurd q106z (by omega)
              · rw [u88.out] at q106z; exact absurd q106z (by omega)
            · refine e_Ok.nrm (q := 402) (st' := [(0, 0), (1, 275)]) rfl rfl ?_
              clear q101n
              refine e_Ok.callV rfl (Nat.le_trans (by decide) hdq) rfl rfl rfl rfl (c_334 (Nat.le_trans (by decide) hdq) c91.1 c91.2.1 c91.2.2.1 hNr c91.2.2.2.1 (by decide)) (fun r107 w108 h109 => ?_)
              obtain ⟨rfl, q110⟩ := h109
              obtain ⟨rfl, q110z⟩ | ⟨q110z, q110b, q110, q110s, q110t⟩ | ⟨q110z, q110b, q110, q110T, q110H, q110r⟩ := q110
              · refine e_Ok.nrm (q := 405) (st' := []) rfl rfl ?_
                rw [u88.out] at q110z
                refine e_Ok.rets rfl rfl ?_
                exact ⟨rfl, f90, c91, (by unfold stL; rw [u78.out, (show Hid (w75 275 79 = w 275 79) from Hid.mk (Eq.trans (q77.out.fld (by decide)) u69.out)).out, (show Hid (w75 275 80 = w 275 80) from Hid.mk (Eq.trans (q77.out.fld (by decide)) u70.out)).out, (show Hid (w75 275 81 = w 275 81) from Hid.mk (Eq.trans (q77.out.fld (by decide)) u71.out)).out, (show Hid (w75 275 82 = w 275 82) from Hid.mk (Eq.trans (q77.out.fld (by decide)) u72.out)).out, (show Hid (w75 275 83 = v1 275 83) from Hid.mk (q77.out.fld (by decide))).out, (show Hid (w75 275 86 = v1 275 86) from Hid.mk (q77.out.fld (by decide))).out, u88.out, (show Hid (w75 275 94 = v1 275 94) from Hid.mk (q77.out.fld (by decide))).out]; omega), (fun z => by rw [u88.out] at z; exact absurd z (by omega))⟩
              · rw [u88.out] at q110z; exact absurd q110z (by omega)
              · rw [u88.out] at q110z; exact absurd q110z (by omega)
          · replace h73 : (v1 275 88 : Int) = 0 := Classical.not_not.mp (show ¬ ((v1 275 88 : Int) ≠ 0) from h73)
            replace x3 := x3 (by omega)
            replace j65 := j65 (by omega)
            refine e_Ok.ps2 (x := (0, 44)) (y := (1, 275)) (q := 164) 2 rfl ?_
            refine e_Ok.callV rfl (Nat.le_trans (by decide) hdq) rfl rfl rfl rfl (c_331 j63.1 (N := N) j63.2.2.2.1) (fun r111 w112 h113 => ?_)
            obtain ⟨z114, rfl, rfl, q115⟩ := h113
            obtain ⟨rfl, q115, q115b⟩ | ⟨rfl, q115n⟩ := q115
            · refine e_Ok.nrm (q := 167) (st' := [(0, 1)]) rfl rfl ?_
              refine e_Ok.if1 rfl (fun h116 => ?_) (fun h116 => ?_)
              · replace h116 : (1 : Int) = 0 := h116
                exfalso; omega
              · replace h116 : (1 : Int) ≠ 0 := (show ¬ ((1 : Int) = 0) from h116)
                refine e_Ok.ps1 (x := (1, 275)) (q := 171) 1 rfl ?_
                refine e_Ok.callV rfl (Nat.le_trans (by decide) hdq) rfl rfl rfl rfl (c_327 (Nat.le_trans (by decide) hdq) j63.1 j63.2.1 j63.2.2.1 hNr (t := v1 275 87) rfl (by omega)) (fun r117 w118 h119 => ?_)
                have p121 := tkS.pos j63.2.2.2.1 (by omega)
                obtain ⟨rfl, q120, q120s, q120t⟩ := h119
                have u122 : Hid (w118 275 78 = v1 275 78) := Hid.mk (q120 275 78 (mTq_fld (by decide)))
                have u129 : Hid (w118 275 94 = v1 275 94) := Hid.mk (q120 275 94 (mTq_fld (by decide)))
                have c130 := cSt.tk j63 q120 q120s
                have t131 := tkS.lin c130.2.2.2.1
                refine e_Ok.nrm (q := 174) (st' := []) rfl rfl ?_
                refine e_Ok.ps1 (x := (1, 275)) (q := 175) 1 rfl ?_
                refine e_Ok.callV rfl (Nat.le_trans (by decide) hdq) rfl rfl rfl rfl (c_exp (o := v1 275 83) (Nat.le_trans (by decide) hdq) (by omega) w118 N (w 275 79) (w 275 81) (y3) (enc P (v1 275 78) (v1 275 94)) c130 hNr (by rw [(show Hid (w118 275 88 = v1 275 88) from Hid.mk (q120 275 88 (mTq_fld (by decide)))).out] <;> omega) (show Hid (w118 275 83 = v1 275 83) from Hid.mk (q120 275 83 (mTq_fld (by decide)))).out (show Hid (w118 275 81 = w 275 81) from Hid.mk (Eq.trans (q120 275 81 (mTq_fld (by decide))) u71.out)).out (by rw [u122.out, u129.out] <;> omega) (by rw [u122.out, u129.out] <;> exact GS.wf ((show Hid (v1 275 88 = 0 → GS w118 N (v1 275 78) (v1 275 94) (w 275 79) (w 275 80) P (w 275 81) OW O (y3)) from Hid.mk (fun z => GS.pr (j67.out z) (prE.tk q120))).out (by omega))) (by omega)) (fun r134 w135 h136 => ?_)
                obtain ⟨rfl, q137F, q137c, q137l, q137w⟩ := h136
                unfold cLn at q137l
                rw [u122.out, (show Hid (w118 275 83 = v1 275 83) from Hid.mk (q120 275 83 (mTq_fld (by decide)))).out, u129.out] at q137l
                rw [u122.out, u129.out] at q137F
                obtain ⟨q1371, q1372, q1373, q1374, q1375, q1376, q1377, q1378, q1379⟩ := q137l
                replace q137w := (show Hid _ from q137w)
                have t142 := tkS.lin q137c.2.2.2.1
                have t143 := e_Has.get q137c.2.1 (c := 275) (k := 88) (lo := 0) (hi := 7) rfl (by decide)
                have q137x : Hid (w135 275 88 = 0 → GS w135 N (w135 275 78) (w135 275 94) (w 275 79) (w 275 80) P (w 275 81) OW O (y3 + 1) ∧ (∀ p, v1 275 78 ≤ p → p < w135 275 78 → w135 330 (p + 40000) = w 275 81) ∧ dp w135 (v1 275 78) = y3 ∧ ((y3 : Int) ≠ y3 + 1 → v1 275 78 < w135 275 78)) := Hid.mk (fun z => GS.ex ((show Hid (v1 275 88 = 0 → GS w118 N (v1 275 78) (v1 275 94) (w 275 79) (w 275 80) P (w 275 81) OW O (y3)) from Hid.mk (fun z => GS.pr (j67.out z) (prE.tk q120))).out (by omega)) q137F (by omega) (by omega) (q137w.out z))
                show e_Ok 20 elay ecode eI (d + 1) 349 (178, [(0, (1, 275)), (1, (0, key)), (2, (0, w 275 78 + 1)), (3, (0, y3))], [], w135) _
                refine e_Ok.inc (z := y3 + 1) rfl rfl (by first | with_reducible rfl | omega) (by omega) ?_
                show e_Ok 20 elay ecode eI (d + 1) 349 (181, [(3, (0, y3 + 1)), (0, (1, 275)), (1, (0, key)), (2, (0, w 275 78 + 1))], [], w135) _
                refine e_Ok.ps0 (q := 154) 1 rfl ?_
                refine e_Ok.sub eAlk (e_sub_of rfl ?_) (ih61 (y3 + 1) w135 ⟨(show e_fr (mStm (w 275 78) (w 275 79) (w 275 80) (w 275 94)) w w135 from e_fr.trans (show e_fr (mStm (w 275 78) (w 275 79) (w 275 80) (w 275 94)) w w118 from e_fr.trans j62 (e_fr.mono q120 (fun c k g => mTq_St g))) (e_fr.mono q137F (fun c k g => mEx_St (by omega) (by omega) g))), q137c, (by unfold stL; rw [(show Hid (w135 275 79 = w 275 79) from Hid.mk (Eq.trans (q137F 275 79 (mEx_fld (by decide))) (show Hid (w118 275 79 = w 275 79) from Hid.mk (Eq.trans (q120 275 79 (mTq_fld (by decide))) u69.out)).out)).out, (show Hid (w135 275 80 = w 275 80) from Hid.mk (Eq.trans (q137F 275 80 (mEx_fld (by decide))) (show Hid (w118 275 80 = w 275 80) from Hid.mk (Eq.trans (q120 275 80 (mTq_fld (by decide))) u70.out)).out)).out, (show Hid (w135 275 81 = w 275 81) from Hid.mk (Eq.trans (q137F 275 81 (mEx_fld (by decide))) (show Hid (w118 275 81 = w 275 81) from Hid.mk (Eq.trans (q120 275 81 (mTq_fld (by decide))) u71.out)).out)).out, (show Hid (w135 275 82 = w 275 82) from Hid.mk (Eq.trans (q137F 275 82 (mEx_fld (by decide))) (show Hid (w118 275 82 = w 275 82) from Hid.mk (Eq.trans (q120 275 82 (mTq_fld (by decide))) u72.out)).out)).out]; omega), (fun z => by omega), (by rw [(show Hid (w135 275 79 = w 275 79) from Hid.mk (Eq.trans (q137F 275 79 (mEx_fld (by decide))) (show Hid (w118 275 79 = w 275 79) from Hid.mk (Eq.trans (q120 275 79 (mTq_fld (by decide))) u69.out)).out)).out, (show Hid (w135 275 80 = w 275 80) from Hid.mk (Eq.trans (q137F 275 80 (mEx_fld (by decide))) (show Hid (w118 275 80 = w 275 80) from Hid.mk (Eq.trans (q120 275 80 (mTq_fld (by decide))) u70.out)).out)).out] <;> omega), (Hid.mk (fun z => GS.re ((show Hid (w135 275 88 = 0 → GS w135 N (w135 275 78) (w135 275 94) (w 275 79) (w 275 80) P (w 275 81) OW O (y3 + 1)) from Hid.mk (fun z => (q137x.out z).1)).out z) rfl rfl rfl rfl rfl (by omega))), (by omega)⟩ (by omega))
                exact ⟨rfl, rfl, rfl, rfl, trivial⟩
            · refine e_Ok.nrm (q := 167) (st' := [(0, 0)]) rfl rfl ?_
              clear q115n
              refine e_Ok.if1 rfl (fun h146 => ?_) (fun h146 => ?_)
              · replace h146 : (0 : Int) = 0 := h146
                refine e_Ok.ps3 (x := (0, y3)) (y := (0, 32)) (z := (1, 275)) (q := 188) 3 rfl ?_
                refine e_Ok.callV rfl (Nat.le_trans (by decide) hdq) rfl rfl rfl rfl (c_336 j63.1 (n := v1 275 78) rfl (by omega) (s := w 275 81) u71.out (by omega)) (fun r147 w148 h149 => ?_)
                obtain ⟨rfl, q150⟩ := h149
                replace q150 := (show Hid (EM v1 w148 (v1 275 78) 32 (y3) (w 275 81)) from q150)
                have u151 : Hid (w148 275 78 = v1 275 78 + 1) := Hid.mk (Eq.trans q150.out.2.2.2.2 (by omega))
                have u161 : Hid (w148 275 88 = v1 275 88) := Hid.mk (q150.out.fld (by decide))
                have f163 : e_fr (mStm (w 275 78) (w 275 79) (w 275 80) (w 275 94)) w w148 := e_fr.trans j62 (q150.out.st (by omega))
                have c164 := cSt.em j63 q150.out (by decide) (by omega) (by omega)
                refine e_Ok.nrm (q := 191) (st' := [(0, v1 275 78)]) rfl rfl ?_
                refine e_Ok.run (t' := (399, [(0, (1, 275)), (1, (0, key)), (2, (0, w 275 78 + 1)), (3, (0, y3))], [(0, 59), (1, 275), (1, 275)], w148)) 5 rfl ?_
                refine e_Ok.callV rfl (Nat.le_trans (by decide) hdq) rfl rfl rfl rfl (c_331 c164.1 (N := N) c164.2.2.2.1) (fun r166 w167 h168 => ?_)
                obtain ⟨z169, rfl, rfl, q170⟩ := h168
                obtain ⟨rfl, q170, q170b⟩ | ⟨rfl, q170n⟩ := q170
                · refine e_Ok.nrm (q := 402) (st' := [(0, 1), (1, 275)]) rfl rfl ?_
                  rw [(show Hid (w148 275 84 = v1 275 84) from Hid.mk (q150.out.fld (by decide))).out] at q170
                  rw [(show Hid (w148 275 85 = v1 275 85) from Hid.mk (q150.out.fld (by decide))).out] at q170b
                  refine e_Ok.callV rfl (Nat.le_trans (by decide) hdq) rfl rfl rfl rfl (c_334 (Nat.le_trans (by decide) hdq) c164.1 c164.2.1 c164.2.2.1 hNr c164.2.2.2.1 (by decide)) (fun r171 w172 h173 => ?_)
                  obtain ⟨rfl, q174⟩ := h173
                  obtain ⟨rfl, q174z⟩ | ⟨q174z, q174b, q174, q174s, q174t⟩ | ⟨q174z, q174b, q174, q174T, q174H, q174r⟩ := q174
                  · rw [u161.out] at q174z; exact absurd q174z (by omega)
                  · show e_Ok 20 elay ecode eI (d + 1) 349 (405, [(0, (1, 275)), (1, (0, key)), (2, (0, w 275 78 + 1)), (3, (0, y3))], [], w172) _
                    rw [u161.out] at q174z
                    rw [(show Hid (w148 275 87 = v1 275 87) from Hid.mk (q150.out.fld (by decide))).out] at q174t
                    have p175 := tkS.pos c164.2.2.2.1 (by rw [(show Hid (w148 275 84 = v1 275 84) from Hid.mk (q150.out.fld (by decide))).out] <;> omega)
                    rw [(show Hid (w148 275 86 = v1 275 86) from Hid.mk (q150.out.fld (by decide))).out, (show Hid (w148 275 87 = v1 275 87) from Hid.mk (q150.out.fld (by decide))).out] at p175
                    have c184 := cSt.tk c164 q174 q174s
                    have t185 := tkS.lin c184.2.2.2.1
                    refine e_Ok.rets rfl rfl ?_
                    exact ⟨rfl, (show e_fr (mStm (w 275 78) (w 275 79) (w 275 80) (w 275 94)) w w172 from e_fr.trans f163 (e_fr.mono q174 (fun c k g => mTq_St g))), c184, (by unfold stL; rw [(show Hid (w172 275 78 = v1 275 78 + 1) from Hid.mk (Eq.trans (q174 275 78 (mTq_fld (by decide))) u151.out)).out, (show Hid (w172 275 79 = w 275 79) from Hid.mk (Eq.trans (q174 275 79 (mTq_fld (by decide))) (show Hid (w148 275 79 = w 275 79) from Hid.mk (Eq.trans (q150.out.fld (by decide)) u69.out)).out)).out, (show Hid (w172 275 80 = w 275 80) from Hid.mk (Eq.trans (q174 275 80 (mTq_fld (by decide))) (show Hid (w148 275 80 = w 275 80) from Hid.mk (Eq.trans (q150.out.fld (by decide)) u70.out)).out)).out, (show Hid (w172 275 81 = w 275 81) from Hid.mk (Eq.trans (q174 275 81 (mTq_fld (by decide))) (show Hid (w148 275 81 = w 275 81) from Hid.mk (Eq.trans (q150.out.fld (by decide)) u71.out)).out)).out, (show Hid (w172 275 82 = w 275 82) from Hid.mk (Eq.trans (q174 275 82 (mTq_fld (by decide))) (show Hid (w148 275 82 = w 275 82) from Hid.mk (Eq.trans (q150.out.fld (by decide)) u72.out)).out)).out, (show Hid (w172 275 83 = v1 275 83) from Hid.mk (Eq.trans (q174 275 83 (mTq_fld (by decide))) (show Hid (w148 275 83 = v1 275 83) from Hid.mk (q150.out.fld (by decide))).out)).out, (show Hid (w172 275 88 = v1 275 88) from Hid.mk (Eq.trans (q174 275 88 (mTq_fld (by decide))) u161.out)).out, (show Hid (w172 275 94 = v1 275 94) from Hid.mk (Eq.trans (q174 275 94 (mTq_fld (by decide))) (show Hid (w148 275 94 = v1 275 94) from Hid.mk (q150.out.fld (by decide))).out)).out]; omega), (fun z => by rw [(show Hid (w172 275 88 = v1 275 88) from Hid.mk (Eq.trans (q174 275 88 (mTq_fld (by decide))) u161.out)).out] at z; rw [(show Hid (w172 275 78 = v1 275 78 + 1) from Hid.mk (Eq.trans (q174 275 78 (mTq_fld (by decide))) u151.out)).out, (show Hid (w172 275 94 = v1 275 94) from Hid.mk (Eq.trans (q174 275 94 (mTq_fld (by decide))) (show Hid (w148 275 94 = v1 275 94) from Hid.mk (q150.out.fld (by decide))).out)).out, (show Hid (w172 275 79 = w 275 79) from Hid.mk (Eq.trans (q174 275 79 (mTq_fld (by decide))) (show Hid (w148 275 79 = w 275 79) from Hid.mk (Eq.trans (q150.out.fld (by decide)) u69.out)).out)).out, (show Hid (w172 275 80 = w 275 80) from Hid.mk (Eq.trans (q174 275 80 (mTq_fld (by decide))) (show Hid (w148 275 80 = w 275 80) from Hid.mk (Eq.trans (q150.out.fld (by decide)) u70.out)).out)).out, (show Hid (w172 275 81 = w 275 81) from Hid.mk (Eq.trans (q174 275 81 (mTq_fld (by decide))) (show Hid (w148 275 81 = w 275 81) from Hid.mk (Eq.trans (q150.out.fld (by decide)) u71.out)).out)).out]; exact ((show Hid (v1 275 88 = 0 → GB w172 N (v1 275 78 + 1) (v1 275 94) (w 275 79) (w 275 80) P (w 275 81) OW O) from Hid.mk (fun z => GB.pr ((show Hid (v1 275 88 = 0 → GB w148 N (v1 275 78 + 1) (v1 275 94) (w 275 79) (w 275 80) P (w 275 81) OW O) from Hid.mk (fun z => (GS.fin (j67.out (by omega)) q150.out (by omega) (by omega) (by omega) (by omega) (by omega) (by unfold iOw; omega) (fun y => absurd y (by decide))))).out z) (prE.tk q174))).out (by omega)))⟩
                  · exact absurd q174b (by decide)
                · refine e_Ok.nrm (q := 402) (st' := [(0, 0), (1, 275)]) rfl rfl ?_
                  clear q170n
                  refine e_Ok.callV rfl (Nat.le_trans (by decide) hdq) rfl rfl rfl rfl (c_334 (Nat.le_trans (by decide) hdq) c164.1 c164.2.1 c164.2.2.1 hNr c164.2.2.2.1 (by decide)) (fun r188 w189 h190 => ?_)
                  obtain ⟨rfl, q191⟩ := h190
                  obtain ⟨rfl, q191z⟩ | ⟨q191z, q191b, q191, q191s, q191t⟩ | ⟨q191z, q191b, q191, q191T, q191H, q191r⟩ := q191
                  · rw [u161.out] at q191z; exact absurd q191z (by omega)
                  · exact absurd q191b (by decide)
                  · refine e_Ok.nrm (q := 405) (st' := []) rfl rfl ?_
                    rw [u161.out] at q191z
                    refine e_Ok.rets rfl rfl ?_
                    exact ⟨rfl, (show e_fr (mStm (w 275 78) (w 275 79) (w 275 80) (w 275 94)) w w189 from e_fr.trans f163 (e_fr.mono q191 (fun c k g => mRf_St g))), (cSt.rf c164 q191 q191T q191H), (by unfold stL; rw [(show Hid (w189 275 78 = v1 275 78 + 1) from Hid.mk (Eq.trans (q191 275 78 (mRf_fld (by decide))) u151.out)).out, (show Hid (w189 275 79 = w 275 79) from Hid.mk (Eq.trans (q191 275 79 (mRf_fld (by decide))) (show Hid (w148 275 79 = w 275 79) from Hid.mk (Eq.trans (q150.out.fld (by decide)) u69.out)).out)).out, (show Hid (w189 275 80 = w 275 80) from Hid.mk (Eq.trans (q191 275 80 (mRf_fld (by decide))) (show Hid (w148 275 80 = w 275 80) from Hid.mk (Eq.trans (q150.out.fld (by decide)) u70.out)).out)).out, (show Hid (w189 275 81 = w 275 81) from Hid.mk (Eq.trans (q191 275 81 (mRf_fld (by decide))) (show Hid (w148 275 81 = w 275 81) from Hid.mk (Eq.trans (q150.out.fld (by decide)) u71.out)).out)).out, (show Hid (w189 275 82 = w 275 82) from Hid.mk (Eq.trans (q191 275 82 (mRf_fld (by decide))) (show Hid (w148 275 82 = w 275 82) from Hid.mk (Eq.trans (q150.out.fld (by decide)) u72.out)).out)).out, (show Hid (w189 275 83 = v1 275 83) from Hid.mk (Eq.trans (q191 275 83 (mRf_fld (by decide))) (show Hid (w148 275 83 = v1 275 83) from Hid.mk (q150.out.fld (by decide))).out)).out, (show Hid (w189 275 86 = v1 275 86) from Hid.mk (Eq.trans (q191 275 86 (mRf_fld (by decide))) (show Hid (w148 275 86 = v1 275 86) from Hid.mk (q150.out.fld (by decide))).out)).out, (show Hid (w189 275 94 = v1 275 94) from Hid.mk (Eq.trans (q191 275 94 (mRf_fld (by decide))) (show Hid (w148 275 94 = v1 275 94) from Hid.mk (q150.out.fld (by decide))).out)).out]; omega), (fun z => absurd z (by omega))⟩
              · replace h146 : (0 : Int) ≠ 0 := (show ¬ ((0 : Int) = 0) from h146)
                exfalso; omega
      refine e_Ok.sub eAlk (e_sub_of rfl ?_) (hL60 (4001 + 1 : Int).toNat 1 w47 ⟨(show e_fr (mStm (w 275 78) (w 275 79) (w 275 80) (w 275 94)) w w47 from e_fr.trans f40 (e_fr.mono q49F (fun c k g => mEx_St (by omega) (by omega) g))), q49c, (by unfold stL; rw [(show Hid (w47 275 79 = w 275 79) from Hid.mk (Eq.trans (q49F 275 79 (mEx_fld (by decide))) u30.out)).out, (show Hid (w47 275 80 = w 275 80) from Hid.mk (Eq.trans (q49F 275 80 (mEx_fld (by decide))) u31.out)).out, (show Hid (w47 275 81 = w 275 81) from Hid.mk (Eq.trans (q49F 275 81 (mEx_fld (by decide))) u32.out)).out, (show Hid (w47 275 82 = w 275 82) from Hid.mk (Eq.trans (q49F 275 82 (mEx_fld (by decide))) u33.out)).out]; omega), (fun z => by omega), (by rw [(show Hid (w47 275 79 = w 275 79) from Hid.mk (Eq.trans (q49F 275 79 (mEx_fld (by decide))) u30.out)).out, (show Hid (w47 275 80 = w 275 80) from Hid.mk (Eq.trans (q49F 275 80 (mEx_fld (by decide))) u31.out)).out] <;> omega), (Hid.mk (fun z => GS.re ((show Hid (w47 275 88 = 0 → GS w47 N (w47 275 78) (w47 275 94) (w 275 79) (w 275 80) P (w 275 81) OW O (0 + 1)) from Hid.mk (fun z => (q49x.out z).1)).out z) rfl rfl rfl rfl rfl (by omega))), (by omega)⟩ (by omega))
      exact ⟨rfl, rfl, rfl, rfl, trivial⟩
    · refine e_Ok.sw (tg := 330) rfl (by rcases h44 with h44 | h44 | h44 | h44 | h44 | h44 <;> (rw [h44]; rfl)) ?_
      refine e_Ok.run (t' := (331, [(2, (0, w 275 78 + 1)), (0, (1, 275)), (1, (0, key))], [(1, 275)], w24)) 1 rfl ?_
      refine e_Ok.callV rfl (Nat.le_trans (by decide) hdq) rfl rfl rfl rfl (c_exp (o := w 275 83) (Nat.le_trans (by decide) hdq) (by omega) w24 N (w 275 79) (w 275 81) (0) (enc P (w 275 78 + 1) (w 275 94)) c37 hNr (by rw [u35.out] <;> omega) u34.out u32.out (by rw [u29.out, u36.out] <;> omega) (by rw [u29.out, u36.out] <;> exact GS.wf (GA.gs (g41.out (by omega)))) (by omega)) (fun r205 w206 h207 => ?_)
      obtain ⟨rfl, q208F, q208c, q208l, q208w⟩ := h207
      unfold cLn at q208l
      rw [u29.out, u34.out, u36.out] at q208l
      rw [u29.out, u36.out] at q208F
      obtain ⟨q2081, q2082, q2083, q2084, q2085, q2086, q2087, q2088, q2089⟩ := q208l
      replace q208w := (show Hid _ from q208w)
      have u209 : Hid (w206 275 79 = w 275 79) := Hid.mk (Eq.trans (q208F 275 79 (mEx_fld (by decide))) u30.out)
      have u210 : Hid (w206 275 80 = w 275 80) := Hid.mk (Eq.trans (q208F 275 80 (mEx_fld (by decide))) u31.out)
      have u211 : Hid (w206 275 81 = w 275 81) := Hid.mk (Eq.trans (q208F 275 81 (mEx_fld (by decide))) u32.out)
      have u212 : Hid (w206 275 82 = w 275 82) := Hid.mk (Eq.trans (q208F 275 82 (mEx_fld (by decide))) u33.out)
      have t213 := tkS.lin q208c.2.2.2.1
      have t214 := e_Has.get q208c.2.1 (c := 275) (k := 88) (lo := 0) (hi := 7) rfl (by decide)
      have f215 : e_fr (mStm (w 275 78) (w 275 79) (w 275 80) (w 275 94)) w w206 := e_fr.trans f40 (e_fr.mono q208F (fun c k g => mEx_St (by omega) (by omega) g))
      have q208x : Hid (w206 275 88 = 0 → GS w206 N (w206 275 78) (w206 275 94) (w 275 79) (w 275 80) P (w 275 81) OW O (0 + 1) ∧ (∀ p, w 275 78 + 1 ≤ p → p < w206 275 78 → w206 330 (p + 40000) = w 275 81) ∧ dp w206 (w 275 78 + 1) = 0 ∧ ((0 : Int) ≠ 0 + 1 → w 275 78 + 1 < w206 275 78)) := Hid.mk (fun z => GS.ex (GA.gs (g41.out (by omega))) q208F (by omega) (by omega) (q208w.out z))
      have g216 : Hid (w206 275 88 = 0 → GS w206 N (w206 275 78) (w206 275 94) (w 275 79) (w 275 80) P (w 275 81) OW O (0 + 1)) := Hid.mk (fun z => (q208x.out z).1)
      show e_Ok 20 elay ecode eI (d + 1) 349 (334, [(2, (0, w 275 78 + 1)), (0, (1, 275)), (1, (0, key))], [], w206) _
      refine e_Ok.ps3 (x := (0, 4)) (y := (0, key)) (z := (1, 275)) (q := 337) 3 rfl ?_
      refine e_Ok.if2 rfl (fun h219 => ?_) (fun h219 => ?_)
      · replace h219 : (key : Int) ≠ 4 := h219
        refine e_Ok.ps2 (x := (0, 5)) (y := (0, key)) (q := 347) 2 rfl ?_
        refine e_Ok.if2 rfl (fun h220 => ?_) (fun h220 => ?_)
        · replace h220 : (key : Int) ≠ 5 := h220
          refine e_Ok.ps2 (x := (0, 7)) (y := (0, key)) (q := 358) 2 rfl ?_
          refine e_Ok.if2 rfl (fun h221 => ?_) (fun h221 => ?_)
          · replace h221 : (key : Int) ≠ 7 := h221
            refine e_Ok.ps2 (x := (0, 8)) (y := (0, key)) (q := 369) 2 rfl ?_
            refine e_Ok.if2 rfl (fun h222 => ?_) (fun h222 => ?_)
            · replace h222 : (key : Int) ≠ 8 := h222
              refine e_Ok.ps2 (x := (0, 11)) (y := (0, key)) (q := 380) 2 rfl ?_
              refine e_Ok.if2 rfl (fun h223 => ?_) (fun h223 => ?_)
              · replace h223 : (key : Int) ≠ 11 := h223
                refine e_Ok.ps2 (x := (0, w 275 78 + 1)) (y := (0, 41)) (q := 391) 2 rfl ?_
                refine e_Ok.callV rfl (Nat.le_trans (by decide) hdq) rfl rfl rfl rfl (c_336 q208c.1 (n := w206 275 78) rfl (by omega) (s := w 275 81) u211.out (by omega)) (fun r224 w225 h226 => ?_)
                obtain ⟨rfl, q227⟩ := h226
                replace q227 := (show Hid (EM w206 w225 (w206 275 78) 41 (w 275 78 + 1) (w 275 81)) from q227)
                have u228 : Hid (w225 275 78 = w206 275 78 + 1) := Hid.mk (Eq.trans q227.out.2.2.2.2 (by omega))
                have u229 : Hid (w225 275 79 = w 275 79) := Hid.mk (Eq.trans (q227.out.fld (by decide)) u209.out)
                have u230 : Hid (w225 275 80 = w 275 80) := Hid.mk (Eq.trans (q227.out.fld (by decide)) u210.out)
                have u231 : Hid (w225 275 81 = w 275 81) := Hid.mk (Eq.trans (q227.out.fld (by decide)) u211.out)
                have u232 : Hid (w225 275 82 = w 275 82) := Hid.mk (Eq.trans (q227.out.fld (by decide)) u212.out)
                have u233 : Hid (w225 275 83 = w206 275 83) := Hid.mk (q227.out.fld (by decide))
                have u236 : Hid (w225 275 86 = w206 275 86) := Hid.mk (q227.out.fld (by decide))
                have u238 : Hid (w225 275 88 = w206 275 88) := Hid.mk (q227.out.fld (by decide))
                have u239 : Hid (w225 275 94 = w206 275 94) := Hid.mk (q227.out.fld (by decide))
                have f240 : e_fr (mStm (w 275 78) (w 275 79) (w 275 80) (w 275 94)) w w225 := e_fr.trans f215 (q227.out.st (by omega))
                have c241 := cSt.em q208c q227.out (by decide) (by omega) (by omega)
                refine e_Ok.nrm (q := 394) (st' := [(0, w206 275 78)]) rfl rfl ?_
                refine e_Ok.run (t' := (399, [(2, (0, w 275 78 + 1)), (0, (1, 275)), (1, (0, key))], [(0, 59), (1, 275), (1, 275)], w225)) 4 rfl ?_
                refine e_Ok.callV rfl (Nat.le_trans (by decide) hdq) rfl rfl rfl rfl (c_331 c241.1 (N := N) c241.2.2.2.1) (fun r245 w246 h247 => ?_)
                obtain ⟨z248, rfl, rfl, q249⟩ := h247
                obtain ⟨rfl, q249, q249b⟩ | ⟨rfl, q249n⟩ := q249
                · refine e_Ok.nrm (q := 402) (st' := [(0, 1), (1, 275)]) rfl rfl ?_
                  rw [(show Hid (w225 275 84 = w206 275 84) from Hid.mk (q227.out.fld (by decide))).out] at q249
                  rw [(show Hid (w225 275 85 = w206 275 85) from Hid.mk (q227.out.fld (by decide))).out] at q249b
                  refine e_Ok.callV rfl (Nat.le_trans (by decide) hdq) rfl rfl rfl rfl (c_334 (Nat.le_trans (by decide) hdq) c241.1 c241.2.1 c241.2.2.1 hNr c241.2.2.2.1 (by decide)) (fun r250 w251 h252 => ?_)
                  obtain ⟨rfl, q253⟩ := h252
                  obtain ⟨rfl, q253z⟩ | ⟨q253z, q253b, q253, q253s, q253t⟩ | ⟨q253z, q253b, q253, q253T, q253H, q253r⟩ := q253
                  · show e_Ok 20 elay ecode eI (d + 1) 349 (405, [(2, (0, w 275 78 + 1)), (0, (1, 275)), (1, (0, key))], [], w225) _
                    rw [u238.out] at q253z
                    clear q2083
                    clear q2089
                    refine e_Ok.rets rfl rfl ?_
                    exact ⟨rfl, f240, c241, (by unfold stL; rw [u228.out, u229.out, u230.out, u231.out, u232.out, u233.out, u236.out, u238.out, u239.out]; omega), (fun z => by rw [u238.out] at z; exact absurd z (by omega))⟩
                  · show e_Ok 20 elay ecode eI (d + 1) 349 (405, [(2, (0, w 275 78 + 1)), (0, (1, 275)), (1, (0, key))], [], w251) _
                    rw [u238.out] at q253z
                    rw [(show Hid (w225 275 87 = w206 275 87) from Hid.mk (q227.out.fld (by decide))).out] at q253t
                    replace q2083 := q2083 (by omega)
                    replace q2089 := q2089 (by omega)
                    have p254 := tkS.pos c241.2.2.2.1 (by rw [(show Hid (w225 275 84 = w206 275 84) from Hid.mk (q227.out.fld (by decide))).out] <;> omega)
                    rw [u236.out, (show Hid (w225 275 87 = w206 275 87) from Hid.mk (q227.out.fld (by decide))).out] at p254
                    have c263 := cSt.tk c241 q253 q253s
                    have t264 := tkS.lin c263.2.2.2.1
                    refine e_Ok.rets rfl rfl ?_
                    exact ⟨rfl, (show e_fr (mStm (w 275 78) (w 275 79) (w 275 80) (w 275 94)) w w251 from e_fr.trans f240 (e_fr.mono q253 (fun c k g => mTq_St g))), c263, (by unfold stL; rw [(show Hid (w251 275 78 = w206 275 78 + 1) from Hid.mk (Eq.trans (q253 275 78 (mTq_fld (by decide))) u228.out)).out, (show Hid (w251 275 79 = w 275 79) from Hid.mk (Eq.trans (q253 275 79 (mTq_fld (by decide))) u229.out)).out, (show Hid (w251 275 80 = w 275 80) from Hid.mk (Eq.trans (q253 275 80 (mTq_fld (by decide))) u230.out)).out, (show Hid (w251 275 81 = w 275 81) from Hid.mk (Eq.trans (q253 275 81 (mTq_fld (by decide))) u231.out)).out, (show Hid (w251 275 82 = w 275 82) from Hid.mk (Eq.trans (q253 275 82 (mTq_fld (by decide))) u232.out)).out, (show Hid (w251 275 83 = w206 275 83) from Hid.mk (Eq.trans (q253 275 83 (mTq_fld (by decide))) u233.out)).out, (show Hid (w251 275 88 = w206 275 88) from Hid.mk (Eq.trans (q253 275 88 (mTq_fld (by decide))) u238.out)).out, (show Hid (w251 275 94 = w206 275 94) from Hid.mk (Eq.trans (q253 275 94 (mTq_fld (by decide))) u239.out)).out]; omega), (fun z => by rw [(show Hid (w251 275 88 = w206 275 88) from Hid.mk (Eq.trans (q253 275 88 (mTq_fld (by decide))) u238.out)).out] at z; rw [(show Hid (w251 275 78 = w206 275 78 + 1) from Hid.mk (Eq.trans (q253 275 78 (mTq_fld (by decide))) u228.out)).out, (show Hid (w251 275 94 = w206 275 94) from Hid.mk (Eq.trans (q253 275 94 (mTq_fld (by decide))) u239.out)).out, (show Hid (w251 275 79 = w 275 79) from Hid.mk (Eq.trans (q253 275 79 (mTq_fld (by decide))) u229.out)).out, (show Hid (w251 275 80 = w 275 80) from Hid.mk (Eq.trans (q253 275 80 (mTq_fld (by decide))) u230.out)).out, (show Hid (w251 275 81 = w 275 81) from Hid.mk (Eq.trans (q253 275 81 (mTq_fld (by decide))) u231.out)).out]; exact ((show Hid (w206 275 88 = 0 → GB w251 N (w206 275 78 + 1) (w206 275 94) (w 275 79) (w 275 80) P (w 275 81) OW O) from Hid.mk (fun z => GB.pr ((show Hid (w206 275 88 = 0 → GB w225 N (w206 275 78 + 1) (w206 275 94) (w 275 79) (w 275 80) P (w 275 81) OW O) from Hid.mk (fun z => (GS.fin (GS.re (g216.out (by omega)) rfl rfl rfl rfl rfl (show _ = 1 from by omega)) q227.out (by omega) (by omega) (by omega) (by omega) (by omega) (by unfold iOw; omega) (fun y => absurd y (by decide))))).out z) (prE.tk q253))).out (by omega)))⟩
                  · exact absurd q253b (by decide)
                · refine e_Ok.nrm (q := 402) (st' := [(0, 0), (1, 275)]) rfl rfl ?_
                  clear q249n
                  refine e_Ok.callV rfl (Nat.le_trans (by decide) hdq) rfl rfl rfl rfl (c_334 (Nat.le_trans (by decide) hdq) c241.1 c241.2.1 c241.2.2.1 hNr c241.2.2.2.1 (by decide)) (fun r269 w270 h271 => ?_)
                  obtain ⟨rfl, q272⟩ := h271
                  obtain ⟨rfl, q272z⟩ | ⟨q272z, q272b, q272, q272s, q272t⟩ | ⟨q272z, q272b, q272, q272T, q272H, q272r⟩ := q272
                  · refine e_Ok.nrm (q := 405) (st' := []) rfl rfl ?_
                    rw [u238.out] at q272z
                    clear q2083
                    clear q2089
                    refine e_Ok.rets rfl rfl ?_
                    exact ⟨rfl, f240, c241, (by unfold stL; rw [u228.out, u229.out, u230.out, u231.out, u232.out, u233.out, u236.out, u238.out, u239.out]; omega), (fun z => by rw [u238.out] at z; exact absurd z (by omega))⟩
                  · exact absurd q272b (by decide)
                  · refine e_Ok.nrm (q := 405) (st' := []) rfl rfl ?_
                    rw [u238.out] at q272z
                    replace q2083 := q2083 (by omega)
                    replace q2089 := q2089 (by omega)
                    refine e_Ok.rets rfl rfl ?_
                    exact ⟨rfl, (show e_fr (mStm (w 275 78) (w 275 79) (w 275 80) (w 275 94)) w w270 from e_fr.trans f240 (e_fr.mono q272 (fun c k g => mRf_St g))), (cSt.rf c241 q272 q272T q272H), (by unfold stL; rw [(show Hid (w270 275 78 = w206 275 78 + 1) from Hid.mk (Eq.trans (q272 275 78 (mRf_fld (by decide))) u228.out)).out, (show Hid (w270 275 79 = w 275 79) from Hid.mk (Eq.trans (q272 275 79 (mRf_fld (by decide))) u229.out)).out, (show Hid (w270 275 80 = w 275 80) from Hid.mk (Eq.trans (q272 275 80 (mRf_fld (by decide))) u230.out)).out, (show Hid (w270 275 81 = w 275 81) from Hid.mk (Eq.trans (q272 275 81 (mRf_fld (by decide))) u231.out)).out, (show Hid (w270 275 82 = w 275 82) from Hid.mk (Eq.trans (q272 275 82 (mRf_fld (by decide))) u232.out)).out, (show Hid (w270 275 83 = w206 275 83) from Hid.mk (Eq.trans (q272 275 83 (mRf_fld (by decide))) u233.out)).out, (show Hid (w270 275 86 = w206 275 86) from Hid.mk (Eq.trans (q272 275 86 (mRf_fld (by decide))) u236.out)).out, (show Hid (w270 275 94 = w206 275 94) from Hid.mk (Eq.trans (q272 275 94 (mRf_fld (by decide))) u239.out)).out]; omega), (fun z => absurd z (by omega))⟩
              · replace h223 : (key : Int) = 11 := Classical.not_not.mp (show ¬ ((key : Int) ≠ 11) from h223)
                refine e_Ok.ps2 (x := (0, w 275 78 + 1)) (y := (0, 40)) (q := 391) 3 rfl ?_
                refine e_Ok.callV rfl (Nat.le_trans (by decide) hdq) rfl rfl rfl rfl (c_336 q208c.1 (n := w206 275 78) rfl (by omega) (s := w 275 81) u211.out (by omega)) (fun r286 w287 h288 => ?_)
                obtain ⟨rfl, q289⟩ := h288
                replace q289 := (show Hid (EM w206 w287 (w206 275 78) 40 (w 275 78 + 1) (w 275 81)) from q289)
                have u290 : Hid (w287 275 78 = w206 275 78 + 1) := Hid.mk (Eq.trans q289.out.2.2.2.2 (by omega))
                have u291 : Hid (w287 275 79 = w 275 79) := Hid.mk (Eq.trans (q289.out.fld (by decide)) u209.out)
                have u292 : Hid (w287 275 80 = w 275 80) := Hid.mk (Eq.trans (q289.out.fld (by decide)) u210.out)
                have u293 : Hid (w287 275 81 = w 275 81) := Hid.mk (Eq.trans (q289.out.fld (by decide)) u211.out)
                have u294 : Hid (w287 275 82 = w 275 82) := Hid.mk (Eq.trans (q289.out.fld (by decide)) u212.out)
                have u295 : Hid (w287 275 83 = w206 275 83) := Hid.mk (q289.out.fld (by decide))
                have u298 : Hid (w287 275 86 = w206 275 86) := Hid.mk (q289.out.fld (by decide))
                have u300 : Hid (w287 275 88 = w206 275 88) := Hid.mk (q289.out.fld (by decide))
                have u301 : Hid (w287 275 94 = w206 275 94) := Hid.mk (q289.out.fld (by decide))
                have f302 : e_fr (mStm (w 275 78) (w 275 79) (w 275 80) (w 275 94)) w w287 := e_fr.trans f215 (q289.out.st (by omega))
                have c303 := cSt.em q208c q289.out (by decide) (by omega) (by omega)
                refine e_Ok.nrm (q := 394) (st' := [(0, w206 275 78)]) rfl rfl ?_
                refine e_Ok.run (t' := (399, [(2, (0, w 275 78 + 1)), (0, (1, 275)), (1, (0, key))], [(0, 59), (1, 275), (1, 275)], w287)) 4 rfl ?_
                refine e_Ok.callV rfl (Nat.le_trans (by decide) hdq) rfl rfl rfl rfl (c_331 c303.1 (N := N) c303.2.2.2.1) (fun r307 w308 h309 => ?_)
                obtain ⟨z310, rfl, rfl, q311⟩ := h309
                obtain ⟨rfl, q311, q311b⟩ | ⟨rfl, q311n⟩ := q311
                · refine e_Ok.nrm (q := 402) (st' := [(0, 1), (1, 275)]) rfl rfl ?_
                  rw [(show Hid (w287 275 84 = w206 275 84) from Hid.mk (q289.out.fld (by decide))).out] at q311
                  rw [(show Hid (w287 275 85 = w206 275 85) from Hid.mk (q289.out.fld (by decide))).out] at q311b
                  refine e_Ok.callV rfl (Nat.le_trans (by decide) hdq) rfl rfl rfl rfl (c_334 (Nat.le_trans (by decide) hdq) c303.1 c303.2.1 c303.2.2.1 hNr c303.2.2.2.1 (by decide)) (fun r312 w313 h314 => ?_)
                  obtain ⟨rfl, q315⟩ := h314
                  obtain ⟨rfl, q315z⟩ | ⟨q315z, q315b, q315, q315s, q315t⟩ | ⟨q315z, q315b, q315, q315T, q315H, q315r⟩ := q315
                  · show e_Ok 20 elay ecode eI (d + 1) 349 (405, [(2, (0, w 275 78 + 1)), (0, (1, 275)), (1, (0, key))], [], w287) _
                    rw [u300.out] at q315z
                    clear q2083
                    clear q2089
                    refine e_Ok.rets rfl rfl ?_
                    exact ⟨rfl, f302, c303, (by unfold stL; rw [u290.out, u291.out, u292.out, u293.out, u294.out, u295.out, u298.out, u300.out, u301.out]; omega), (fun z => by rw [u300.out] at z; exact absurd z (by omega))⟩
                  · show e_Ok 20 elay ecode eI (d + 1) 349 (405, [(2, (0, w 275 78 + 1)), (0, (1, 275)), (1, (0, key))], [], w313) _
                    rw [u300.out] at q315z
                    rw [(show Hid (w287 275 87 = w206 275 87) from Hid.mk (q289.out.fld (by decide))).out] at q315t
                    replace q2083 := q2083 (by omega)
                    replace q2089 := q2089 (by omega)
                    have p316 := tkS.pos c303.2.2.2.1 (by rw [(show Hid (w287 275 84 = w206 275 84) from Hid.mk (q289.out.fld (by decide))).out] <;> omega)
                    rw [u298.out, (show Hid (w287 275 87 = w206 275 87) from Hid.mk (q289.out.fld (by decide))).out] at p316
                    have c325 := cSt.tk c303 q315 q315s
                    have t326 := tkS.lin c325.2.2.2.1
                    refine e_Ok.rets rfl rfl ?_
                    exact ⟨rfl, (show e_fr (mStm (w 275 78) (w 275 79) (w 275 80) (w 275 94)) w w313 from e_fr.trans f302 (e_fr.mono q315 (fun c k g => mTq_St g))), c325, (by unfold stL; rw [(show Hid (w313 275 78 = w206 275 78 + 1) from Hid.mk (Eq.trans (q315 275 78 (mTq_fld (by decide))) u290.out)).out, (show Hid (w313 275 79 = w 275 79) from Hid.mk (Eq.trans (q315 275 79 (mTq_fld (by decide))) u291.out)).out, (show Hid (w313 275 80 = w 275 80) from Hid.mk (Eq.trans (q315 275 80 (mTq_fld (by decide))) u292.out)).out, (show Hid (w313 275 81 = w 275 81) from Hid.mk (Eq.trans (q315 275 81 (mTq_fld (by decide))) u293.out)).out, (show Hid (w313 275 82 = w 275 82) from Hid.mk (Eq.trans (q315 275 82 (mTq_fld (by decide))) u294.out)).out, (show Hid (w313 275 83 = w206 275 83) from Hid.mk (Eq.trans (q315 275 83 (mTq_fld (by decide))) u295.out)).out, (show Hid (w313 275 88 = w206 275 88) from Hid.mk (Eq.trans (q315 275 88 (mTq_fld (by decide))) u300.out)).out, (show Hid (w313 275 94 = w206 275 94) from Hid.mk (Eq.trans (q315 275 94 (mTq_fld (by decide))) u301.out)).out]; omega), (fun z => by rw [(show Hid (w313 275 88 = w206 275 88) from Hid.mk (Eq.trans (q315 275 88 (mTq_fld (by decide))) u300.out)).out] at z; rw [(show Hid (w313 275 78 = w206 275 78 + 1) from Hid.mk (Eq.trans (q315 275 78 (mTq_fld (by decide))) u290.out)).out, (show Hid (w313 275 94 = w206 275 94) from Hid.mk (Eq.trans (q315 275 94 (mTq_fld (by decide))) u301.out)).out, (show Hid (w313 275 79 = w 275 79) from Hid.mk (Eq.trans (q315 275 79 (mTq_fld (by decide))) u291.out)).out, (show Hid (w313 275 80 = w 275 80) from Hid.mk (Eq.trans (q315 275 80 (mTq_fld (by decide))) u292.out)).out, (show Hid (w313 275 81 = w 275 81) from Hid.mk (Eq.trans (q315 275 81 (mTq_fld (by decide))) u293.out)).out]; exact ((show Hid (w206 275 88 = 0 → GB w313 N (w206 275 78 + 1) (w206 275 94) (w 275 79) (w 275 80) P (w 275 81) OW O) from Hid.mk (fun z => GB.pr ((show Hid (w206 275 88 = 0 → GB w287 N (w206 275 78 + 1) (w206 275 94) (w 275 79) (w 275 80) P (w 275 81) OW O) from Hid.mk (fun z => (GS.fin (GS.re (g216.out (by omega)) rfl rfl rfl rfl rfl (show _ = 1 from by omega)) q289.out (by omega) (by omega) (by omega) (by omega) (by omega) (by unfold iOw; omega) (fun y => absurd y (by decide))))).out z) (prE.tk q315))).out (by omega)))⟩
                  · exact absurd q315b (by decide)
                · refine e_Ok.nrm (q := 402) (st' := [(0, 0), (1, 275)]) rfl rfl ?_
                  clear q311n
                  refine e_Ok.callV rfl (Nat.le_trans (by decide) hdq) rfl rfl rfl rfl (c_334 (Nat.le_trans (by decide) hdq) c303.1 c303.2.1 c303.2.2.1 hNr c303.2.2.2.1 (by decide)) (fun r333 w334 h335 => ?_)
                  obtain ⟨rfl, q336⟩ := h335
                  obtain ⟨rfl, q336z⟩ | ⟨q336z, q336b, q336, q336s, q336t⟩ | ⟨q336z, q336b, q336, q336T, q336H, q336r⟩ := q336
                  · refine e_Ok.nrm (q := 405) (st' := []) rfl rfl ?_
                    rw [u300.out] at q336z
                    clear q2083
                    clear q2089
                    refine e_Ok.rets rfl rfl ?_
                    exact ⟨rfl, f302, c303, (by unfold stL; rw [u290.out, u291.out, u292.out, u293.out, u294.out, u295.out, u298.out, u300.out, u301.out]; omega), (fun z => by rw [u300.out] at z; exact absurd z (by omega))⟩
                  · exact absurd q336b (by decide)
                  · refine e_Ok.nrm (q := 405) (st' := []) rfl rfl ?_
                    rw [u300.out] at q336z
                    replace q2083 := q2083 (by omega)
                    replace q2089 := q2089 (by omega)
                    refine e_Ok.rets rfl rfl ?_
                    exact ⟨rfl, (show e_fr (mStm (w 275 78) (w 275 79) (w 275 80) (w 275 94)) w w334 from e_fr.trans f302 (e_fr.mono q336 (fun c k g => mRf_St g))), (cSt.rf c303 q336 q336T q336H), (by unfold stL; rw [(show Hid (w334 275 78 = w206 275 78 + 1) from Hid.mk (Eq.trans (q336 275 78 (mRf_fld (by decide))) u290.out)).out, (show Hid (w334 275 79 = w 275 79) from Hid.mk (Eq.trans (q336 275 79 (mRf_fld (by decide))) u291.out)).out, (show Hid (w334 275 80 = w 275 80) from Hid.mk (Eq.trans (q336 275 80 (mRf_fld (by decide))) u292.out)).out, (show Hid (w334 275 81 = w 275 81) from Hid.mk (Eq.trans (q336 275 81 (mRf_fld (by decide))) u293.out)).out, (show Hid (w334 275 82 = w 275 82) from Hid.mk (Eq.trans (q336 275 82 (mRf_fld (by decide))) u294.out)).out, (show Hid (w334 275 83 = w206 275 83) from Hid.mk (Eq.trans (q336 275 83 (mRf_fld (by decide))) u295.out)).out, (show Hid (w334 275 86 = w206 275 86) from Hid.mk (Eq.trans (q336 275 86 (mRf_fld (by decide))) u298.out)).out, (show Hid (w334 275 94 = w206 275 94) from Hid.mk (Eq.trans (q336 275 94 (mRf_fld (by decide))) u301.out)).out]; omega), (fun z => absurd z (by omega))⟩
            · replace h222 : (key : Int) = 8 := Classical.not_not.mp (show ¬ ((key : Int) ≠ 8) from h222)
              refine e_Ok.ps2 (x := (0, w 275 78 + 1)) (y := (0, 37)) (q := 391) 3 rfl ?_
              refine e_Ok.callV rfl (Nat.le_trans (by decide) hdq) rfl rfl rfl rfl (c_336 q208c.1 (n := w206 275 78) rfl (by omega) (s := w 275 81) u211.out (by omega)) (fun r351 w352 h353 => ?_)
              obtain ⟨rfl, q354⟩ := h353
              replace q354 := (show Hid (EM w206 w352 (w206 275 78) 37 (w 275 78 + 1) (w 275 81)) from q354)
              have u355 : Hid (w352 275 78 = w206 275 78 + 1) := Hid.mk (Eq.trans q354.out.2.2.2.2 (by omega))
              have u356 : Hid (w352 275 79 = w 275 79) := Hid.mk (Eq.trans (q354.out.fld (by decide)) u209.out)
              have u357 : Hid (w352 275 80 = w 275 80) := Hid.mk (Eq.trans (q354.out.fld (by decide)) u210.out)
              have u358 : Hid (w352 275 81 = w 275 81) := Hid.mk (Eq.trans (q354.out.fld (by decide)) u211.out)
              have u359 : Hid (w352 275 82 = w 275 82) := Hid.mk (Eq.trans (q354.out.fld (by decide)) u212.out)
              have u360 : Hid (w352 275 83 = w206 275 83) := Hid.mk (q354.out.fld (by decide))
              have u363 : Hid (w352 275 86 = w206 275 86) := Hid.mk (q354.out.fld (by decide))
              have u365 : Hid (w352 275 88 = w206 275 88) := Hid.mk (q354.out.fld (by decide))
              have u366 : Hid (w352 275 94 = w206 275 94) := Hid.mk (q354.out.fld (by decide))
              have f367 : e_fr (mStm (w 275 78) (w 275 79) (w 275 80) (w 275 94)) w w352 := e_fr.trans f215 (q354.out.st (by omega))
              have c368 := cSt.em q208c q354.out (by decide) (by omega) (by omega)
              refine e_Ok.nrm (q := 394) (st' := [(0, w206 275 78)]) rfl rfl ?_
              refine e_Ok.run (t' := (399, [(2, (0, w 275 78 + 1)), (0, (1, 275)), (1, (0, key))], [(0, 59), (1, 275), (1, 275)], w352)) 4 rfl ?_
              refine e_Ok.callV rfl (Nat.le_trans (by decide) hdq) rfl rfl rfl rfl (c_331 c368.1 (N := N) c368.2.2.2.1) (fun r372 w373 h374 => ?_)
              obtain ⟨z375, rfl, rfl, q376⟩ := h374
              obtain ⟨rfl, q376, q376b⟩ | ⟨rfl, q376n⟩ := q376
              · refine e_Ok.nrm (q := 402) (st' := [(0, 1), (1, 275)]) rfl rfl ?_
                rw [(show Hid (w352 275 84 = w206 275 84) from Hid.mk (q354.out.fld (by decide))).out] at q376
                rw [(show Hid (w352 275 85 = w206 275 85) from Hid.mk (q354.out.fld (by decide))).out] at q376b
                refine e_Ok.callV rfl (Nat.le_trans (by decide) hdq) rfl rfl rfl rfl (c_334 (Nat.le_trans (by decide) hdq) c368.1 c368.2.1 c368.2.2.1 hNr c368.2.2.2.1 (by decide)) (fun r377 w378 h379 => ?_)
                obtain ⟨rfl, q380⟩ := h379
                obtain ⟨rfl, q380z⟩ | ⟨q380z, q380b, q380, q380s, q380t⟩ | ⟨q380z, q380b, q380, q380T, q380H, q380r⟩ := q380
                · show e_Ok 20 elay ecode eI (d + 1) 349 (405, [(2, (0, w 275 78 + 1)), (0, (1, 275)), (1, (0, key))], [], w352) _
                  rw [u365.out] at q380z
                  clear q2083
                  clear q2089
                  refine e_Ok.rets rfl rfl ?_
                  exact ⟨rfl, f367, c368, (by unfold stL; rw [u355.out, u356.out, u357.out, u358.out, u359.out, u360.out, u363.out, u365.out, u366.out]; omega), (fun z => by rw [u365.out] at z; exact absurd z (by omega))⟩
                · show e_Ok 20 elay ecode eI (d + 1) 349 (405, [(2, (0, w 275 78 + 1)), (0, (1, 275)), (1, (0, key))], [], w378) _
                  rw [u365.out] at q380z
                  rw [(show Hid (w352 275 87 = w206 275 87) from Hid.mk (q354.out.fld (by decide))).out] at q380t
                  replace q2083 := q2083 (by omega)
                  replace q2089 := q2089 (by omega)
                  have p381 := tkS.pos c368.2.2.2.1 (by rw [(show Hid (w352 275 84 = w206 275 84) from Hid.mk (q354.out.fld (by decide))).out] <;> omega)
                  rw [u363.out, (show Hid (w352 275 87 = w206 275 87) from Hid.mk (q354.out.fld (by decide))).out] at p381
                  have c390 := cSt.tk c368 q380 q380s
                  have t391 := tkS.lin c390.2.2.2.1
                  refine e_Ok.rets rfl rfl ?_
                  exact ⟨rfl, (show e_fr (mStm (w 275 78) (w 275 79) (w 275 80) (w 275 94)) w w378 from e_fr.trans f367 (e_fr.mono q380 (fun c k g => mTq_St g))), c390, (by unfold stL; rw [(show Hid (w378 275 78 = w206 275 78 + 1) from Hid.mk (Eq.trans (q380 275 78 (mTq_fld (by decide))) u355.out)).out, (show Hid (w378 275 79 = w 275 79) from Hid.mk (Eq.trans (q380 275 79 (mTq_fld (by decide))) u356.out)).out, (show Hid (w378 275 80 = w 275 80) from Hid.mk (Eq.trans (q380 275 80 (mTq_fld (by decide))) u357.out)).out, (show Hid (w378 275 81 = w 275 81) from Hid.mk (Eq.trans (q380 275 81 (mTq_fld (by decide))) u358.out)).out, (show Hid (w378 275 82 = w 275 82) from Hid.mk (Eq.trans (q380 275 82 (mTq_fld (by decide))) u359.out)).out, (show Hid (w378 275 83 = w206 275 83) from Hid.mk (Eq.trans (q380 275 83 (mTq_fld (by decide))) u360.out)).out, (show Hid (w378 275 88 = w206 275 88) from Hid.mk (Eq.trans (q380 275 88 (mTq_fld (by decide))) u365.out)).out, (show Hid (w378 275 94 = w206 275 94) from Hid.mk (Eq.trans (q380 275 94 (mTq_fld (by decide))) u366.out)).out]; omega), (fun z => by rw [(show Hid (w378 275 88 = w206 275 88) from Hid.mk (Eq.trans (q380 275 88 (mTq_fld (by decide))) u365.out)).out] at z; rw [(show Hid (w378 275 78 = w206 275 78 + 1) from Hid.mk (Eq.trans (q380 275 78 (mTq_fld (by decide))) u355.out)).out, (show Hid (w378 275 94 = w206 275 94) from Hid.mk (Eq.trans (q380 275 94 (mTq_fld (by decide))) u366.out)).out, (show Hid (w378 275 79 = w 275 79) from Hid.mk (Eq.trans (q380 275 79 (mTq_fld (by decide))) u356.out)).out, (show Hid (w378 275 80 = w 275 80) from Hid.mk (Eq.trans (q380 275 80 (mTq_fld (by decide))) u357.out)).out, (show Hid (w378 275 81 = w 275 81) from Hid.mk (Eq.trans (q380 275 81 (mTq_fld (by decide))) u358.out)).out]; exact ((show Hid (w206 275 88 = 0 → GB w378 N (w206 275 78 + 1) (w206 275 94) (w 275 79) (w 275 80) P (w 275 81) OW O) from Hid.mk (fun z => GB.pr ((show Hid (w206 275 88 = 0 → GB w352 N (w206 275 78 + 1) (w206 275 94) (w 275 79) (w 275 80) P (w 275 81) OW O) from Hid.mk (fun z => (GS.fin (GS.re (g216.out (by omega)) rfl rfl rfl rfl rfl (show _ = 1 from by omega)) q354.out (by omega) (by omega) (by omega) (by omega) (by omega) (by unfold iOw; omega) (fun y => absurd y (by decide))))).out z) (prE.tk q380))).out (by omega)))⟩
                · exact absurd q380b (by decide)
              · refine e_Ok.nrm (q := 402) (st' := [(0, 0), (1, 275)]) rfl rfl ?_
                clear q376n
                refine e_Ok.callV rfl (Nat.le_trans (by decide) hdq) rfl rfl rfl rfl (c_334 (Nat.le_trans (by decide) hdq) c368.1 c368.2.1 c368.2.2.1 hNr c368.2.2.2.1 (by decide)) (fun r396 w397 h398 => ?_)
                obtain ⟨rfl, q399⟩ := h398
                obtain ⟨rfl, q399z⟩ | ⟨q399z, q399b, q399, q399s, q399t⟩ | ⟨q399z, q399b, q399, q399T, q399H, q399r⟩ := q399
                · refine e_Ok.nrm (q := 405) (st' := []) rfl rfl ?_
                  rw [u365.out] at q399z
                  clear q2083
                  clear q2089
                  refine e_Ok.rets rfl rfl ?_
                  exact ⟨rfl, f367, c368, (by unfold stL; rw [u355.out, u356.out, u357.out, u358.out, u359.out, u360.out, u363.out, u365.out, u366.out]; omega), (fun z => by rw [u365.out] at z; exact absurd z (by omega))⟩
                · exact absurd q399b (by decide)
                · refine e_Ok.nrm (q := 405) (st' := []) rfl rfl ?_
                  rw [u365.out] at q399z
                  replace q2083 := q2083 (by omega)
                  replace q2089 := q2089 (by omega)
                  refine e_Ok.rets rfl rfl ?_
                  exact ⟨rfl, (show e_fr (mStm (w 275 78) (w 275 79) (w 275 80) (w 275 94)) w w397 from e_fr.trans f367 (e_fr.mono q399 (fun c k g => mRf_St g))), (cSt.rf c368 q399 q399T q399H), (by unfold stL; rw [(show Hid (w397 275 78 = w206 275 78 + 1) from Hid.mk (Eq.trans (q399 275 78 (mRf_fld (by decide))) u355.out)).out, (show Hid (w397 275 79 = w 275 79) from Hid.mk (Eq.trans (q399 275 79 (mRf_fld (by decide))) u356.out)).out, (show Hid (w397 275 80 = w 275 80) from Hid.mk (Eq.trans (q399 275 80 (mRf_fld (by decide))) u357.out)).out, (show Hid (w397 275 81 = w 275 81) from Hid.mk (Eq.trans (q399 275 81 (mRf_fld (by decide))) u358.out)).out, (show Hid (w397 275 82 = w 275 82) from Hid.mk (Eq.trans (q399 275 82 (mRf_fld (by decide))) u359.out)).out, (show Hid (w397 275 83 = w206 275 83) from Hid.mk (Eq.trans (q399 275 83 (mRf_fld (by decide))) u360.out)).out, (show Hid (w397 275 86 = w206 275 86) from Hid.mk (Eq.trans (q399 275 86 (mRf_fld (by decide))) u363.out)).out, (show Hid (w397 275 94 = w206 275 94) from Hid.mk (Eq.trans (q399 275 94 (mRf_fld (by decide))) u366.out)).out]; omega), (fun z => absurd z (by omega))⟩
          · replace h221 : (key : Int) = 7 := Classical.not_not.mp (show ¬ ((key : Int) ≠ 7) from h221)
            refine e_Ok.ps2 (x := (0, w 275 78 + 1)) (y := (0, 36)) (q := 391) 3 rfl ?_
            refine e_Ok.callV rfl (Nat.le_trans (by decide) hdq) rfl rfl rfl rfl (c_336 q208c.1 (n := w206 275 78) rfl (by omega) (s := w 275 81) u211.out (by omega)) (fun r413 w414 h415 => ?_)
            obtain ⟨rfl, q417⟩ := h415
            replace q417 := (show Hid (EM w206 w414 (w206 275 78) 36 (w 275 78 + 1) (w 275 81)) from q417)
            have u418 : Hid (w414 275 78 = w206 275 78 + 1) := Hid.mk (Eq.trans q417.out.2.2.2.2 (by omega))
            have u419 : Hid (w414 275 79 = w 275 79) := Hid.mk (Eq.trans (q417.out.fld (by decide)) u209.out)
            have u420 : Hid (w414 275 80 = w 275 80) := Hid.mk (Eq.trans (q417.out.fld (by decide)) u210.out)
            have u421 : Hid (w414 275 81 = w 275 81) := Hid.mk (Eq.trans (q417.out.fld (by decide)) u211.out)
            have u422 : Hid (w414 275 82 = w 275 82) := Hid.mk (Eq.trans (q417.out.fld (by decide)) u212.out)
            have u423 : Hid (w414 275 83 = w206 275 83) := Hid.mk (q417.out.fld (by decide))
            have u426 : Hid (w414 275 86 = w206 275 86) := Hid.mk (q417.out.fld (by decide))
            have u428 : Hid (w414 275 88 = w206 275 88) := Hid.mk (q417.out.fld (by decide))
            have u429 : Hid (w414 275 94 = w206 275 94) := Hid.mk (q417.out.fld (by decide))
            have f430 : e_fr (mStm (w 275 78) (w 275 79) (w 275 80) (w 275 94)) w w414 := e_fr.trans f215 (q417.out.st (by omega))
            have c431 := cSt.em q208c q417.out (by decide) (by omega) (by omega)
            refine e_Ok.nrm (q := 394) (st' := [(0, w206 275 78)]) rfl rfl ?_
            refine e_Ok.run (t' := (399, [(2, (0, w 275 78 + 1)), (0, (1, 275)), (1, (0, key))], [(0, 59), (1, 275), (1, 275)], w414)) 4 rfl ?_
            refine e_Ok.callV rfl (Nat.le_trans (by decide) hdq) rfl rfl rfl rfl (c_331 c431.1 (N := N) c431.2.2.2.1) (fun r435 w436 h437 => ?_)
            obtain ⟨z438, rfl, rfl, q439⟩ := h437
            obtain ⟨rfl, q439, q439b⟩ | ⟨rfl, q439n⟩ := q439
            · refine e_Ok.nrm (q := 402) (st' := [(0, 1), (1, 275)]) rfl rfl ?_
              rw [(show Hid (w414 275 84 = w206 275 84) from Hid.mk (q417.out.fld (by decide))).out] at q439
              rw [(show Hid (w414 275 85 = w206 275 85) from Hid.mk (q417.out.fld (by decide))).out] at q439b
              refine e_Ok.callV rfl (Nat.le_trans (by decide) hdq) rfl rfl rfl rfl (c_334 (Nat.le_trans (by decide) hdq) c431.1 c431.2.1 c431.2.2.1 hNr c431.2.2.2.1 (by decide)) (fun r440 w441 h442 => ?_)
              obtain ⟨rfl, q443⟩ := h442
              obtain ⟨rfl, q443z⟩ | ⟨q443z, q443b, q443, q443s, q443t⟩ | ⟨q443z, q443b, q443, q443T, q443H, q443r⟩ := q443
              · show e_Ok 20 elay ecode eI (d + 1) 349 (405, [(2, (0, w 275 78 + 1)), (0, (1, 275)), (1, (0, key))], [], w414) _
                rw [u428.out] at q443z
                clear q2083
                clear q2089
                refine e_Ok.rets rfl rfl ?_
                exact ⟨rfl, f430, c431, (by unfold stL; rw [u418.out, u419.out, u420.out, u421.out, u422.out, u423.out, u426.out, u428.out, u429.out]; omega), (fun z => by rw [u428.out] at z; exact absurd z (by omega))⟩
              · show e_Ok 20 elay ecode eI (d + 1) 349 (405, [(2, (0, w 275 78 + 1)), (0, (1, 275)), (1, (0, key))], [], w441) _
                rw [u428.out] at q443z
                rw [(show Hid (w414 275 87 = w206 275 87) from Hid.mk (q417.out.fld (by decide))).out] at q443t
                replace q2083 := q2083 (by omega)
                replace q2089 := q2089 (by omega)
                have p444 := tkS.pos c431.2.2.2.1 (by rw [(show Hid (w414 275 84 = w206 275 84) from Hid.mk (q417.out.fld (by decide))).out] <;> omega)
                rw [u426.out, (show Hid (w414 275 87 = w206 275 87) from Hid.mk (q417.out.fld (by decide))).out] at p444
                have c453 := cSt.tk c431 q443 q443s
                have t454 := tkS.lin c453.2.2.2.1
                refine e_Ok.rets rfl rfl ?_
                exact ⟨rfl, (show e_fr (mStm (w 275 78) (w 275 79) (w 275 80) (w 275 94)) w w441 from e_fr.trans f430 (e_fr.mono q443 (fun c k g => mTq_St g))), c453, (by unfold stL; rw [(show Hid (w441 275 78 = w206 275 78 + 1) from Hid.mk (Eq.trans (q443 275 78 (mTq_fld (by decide))) u418.out)).out, (show Hid (w441 275 79 = w 275 79) from Hid.mk (Eq.trans (q443 275 79 (mTq_fld (by decide))) u419.out)).out, (show Hid (w441 275 80 = w 275 80) from Hid.mk (Eq.trans (q443 275 80 (mTq_fld (by decide))) u420.out)).out, (show Hid (w441 275 81 = w 275 81) from Hid.mk (Eq.trans (q443 275 81 (mTq_fld (by decide))) u421.out)).out, (show Hid (w441 275 82 = w 275 82) from Hid.mk (Eq.trans (q443 275 82 (mTq_fld (by decide))) u422.out)).out, (show Hid (w441 275 83 = w206 275 83) from Hid.mk (Eq.trans (q443 275 83 (mTq_fld (by decide))) u423.out)).out, (show Hid (w441 275 88 = w206 275 88) from Hid.mk (Eq.trans (q443 275 88 (mTq_fld (by decide))) u428.out)).out, (show Hid (w441 275 94 = w206 275 94) from Hid.mk (Eq.trans (q443 275 94 (mTq_fld (by decide))) u429.out)).out]; omega), (fun z => by rw [(show Hid (w441 275 88 = w206 275 88) from Hid.mk (Eq.trans (q443 275 88 (mTq_fld (by decide))) u428.out)).out] at z; rw [(show Hid (w441 275 78 = w206 275 78 + 1) from Hid.mk (Eq.trans (q443 275 78 (mTq_fld (by decide))) u418.out)).out, (show Hid (w441 275 94 = w206 275 94) from Hid.mk (Eq.trans (q443 275 94 (mTq_fld (by decide))) u429.out)).out, (show Hid (w441 275 79 = w 275 79) from Hid.mk (Eq.trans (q443 275 79 (mTq_fld (by decide))) u419.out)).out, (show Hid (w441 275 80 = w 275 80) from Hid.mk (Eq.trans (q443 275 80 (mTq_fld (by decide))) u420.out)).out, (show Hid (w441 275 81 = w 275 81) from Hid.mk (Eq.trans (q443 275 81 (mTq_fld (by decide))) u421.out)).out]; exact ((show Hid (w206 275 88 = 0 → GB w441 N (w206 275 78 + 1) (w206 275 94) (w 275 79) (w 275 80) P (w 275 81) OW O) from Hid.mk (fun z => GB.pr ((show Hid (w206 275 88 = 0 → GB w414 N (w206 275 78 + 1) (w206 275 94) (w 275 79) (w 275 80) P (w 275 81) OW O) from Hid.mk (fun z => (GS.fin (GS.re (g216.out (by omega)) rfl rfl rfl rfl rfl (show _ = 1 from by omega)) q417.out (by omega) (by omega) (by omega) (by omega) (by omega) (by unfold iOw; omega) (fun y => absurd y (by decide))))).out z) (prE.tk q443))).out (by omega)))⟩
              · exact absurd q443b (by decide)
            · refine e_Ok.nrm (q := 402) (st' := [(0, 0), (1, 275)]) rfl rfl ?_
              clear q439n
              refine e_Ok.callV rfl (Nat.le_trans (by decide) hdq) rfl rfl rfl rfl (c_334 (Nat.le_trans (by decide) hdq) c431.1 c431.2.1 c431.2.2.1 hNr c431.2.2.2.1 (by decide)) (fun r459 w460 h461 => ?_)
              obtain ⟨rfl, q462⟩ := h461
              obtain ⟨rfl, q462z⟩ | ⟨q462z, q462b, q462, q462s, q462t⟩ | ⟨q462z, q462b, q462, q462T, q462H, q462r⟩ := q462
              · refine e_Ok.nrm (q := 405) (st' := []) rfl rfl ?_
                rw [u428.out] at q462z
                clear q2083
                clear q2089
                refine e_Ok.rets rfl rfl ?_
                exact ⟨rfl, f430, c431, (by unfold stL; rw [u418.out, u419.out, u420.out, u421.out, u422.out, u423.out, u426.out, u428.out, u429.out]; omega), (fun z => by rw [u428.out] at z; exact absurd z (by omega))⟩
              · exact absurd q462b (by decide)
              · refine e_Ok.nrm (q := 405) (st' := []) rfl rfl ?_
                rw [u428.out] at q462z
                replace q2083 := q2083 (by omega)
                replace q2089 := q2089 (by omega)
                refine e_Ok.rets rfl rfl ?_
                exact ⟨rfl, (show e_fr (mStm (w 275 78) (w 275 79) (w 275 80) (w 275 94)) w w460 from e_fr.trans f430 (e_fr.mono q462 (fun c k g => mRf_St g))), (cSt.rf c431 q462 q462T q462H), (by unfold stL; rw [(show Hid (w460 275 78 = w206 275 78 + 1) from Hid.mk (Eq.trans (q462 275 78 (mRf_fld (by decide))) u418.out)).out, (show Hid (w460 275 79 = w 275 79) from Hid.mk (Eq.trans (q462 275 79 (mRf_fld (by decide))) u419.out)).out, (show Hid (w460 275 80 = w 275 80) from Hid.mk (Eq.trans (q462 275 80 (mRf_fld (by decide))) u420.out)).out, (show Hid (w460 275 81 = w 275 81) from Hid.mk (Eq.trans (q462 275 81 (mRf_fld (by decide))) u421.out)).out, (show Hid (w460 275 82 = w 275 82) from Hid.mk (Eq.trans (q462 275 82 (mRf_fld (by decide))) u422.out)).out, (show Hid (w460 275 83 = w206 275 83) from Hid.mk (Eq.trans (q462 275 83 (mRf_fld (by decide))) u423.out)).out, (show Hid (w460 275 86 = w206 275 86) from Hid.mk (Eq.trans (q462 275 86 (mRf_fld (by decide))) u426.out)).out, (show Hid (w460 275 94 = w206 275 94) from Hid.mk (Eq.trans (q462 275 94 (mRf_fld (by decide))) u429.out)).out]; omega), (fun z => absurd z (by omega))⟩
        · replace h220 : (key : Int) = 5 := Classical.not_not.mp (show ¬ ((key : Int) ≠ 5) from h220)
          refine e_Ok.ps2 (x := (0, w 275 78 + 1)) (y := (0, 34)) (q := 391) 3 rfl ?_
          refine e_Ok.callV rfl (Nat.le_trans (by decide) hdq) rfl rfl rfl rfl (c_336 q208c.1 (n := w206 275 78) rfl (by omega) (s := w 275 81) u211.out (by omega)) (fun r476 w477 h478 => ?_)
          obtain ⟨rfl, q479⟩ := h478
          replace q479 := (show Hid (EM w206 w477 (w206 275 78) 34 (w 275 78 + 1) (w 275 81)) from q479)
          have u480 : Hid (w477 275 78 = w206 275 78 + 1) := Hid.mk (Eq.trans q479.out.2.2.2.2 (by omega))
          have u481 : Hid (w477 275 79 = w 275 79) := Hid.mk (Eq.trans (q479.out.fld (by decide)) u209.out)
          have u482 : Hid (w477 275 80 = w 275 80) := Hid.mk (Eq.trans (q479.out.fld (by decide)) u210.out)
          have u483 : Hid (w477 275 81 = w 275 81) := Hid.mk (Eq.trans (q479.out.fld (by decide)) u211.out)
          have u484 : Hid (w477 275 82 = w 275 82) := Hid.mk (Eq.trans (q479.out.fld (by decide)) u212.out)
          have u485 : Hid (w477 275 83 = w206 275 83) := Hid.mk (q479.out.fld (by decide))
          have u488 : Hid (w477 275 86 = w206 275 86) := Hid.mk (q479.out.fld (by decide))
          have u490 : Hid (w477 275 88 = w206 275 88) := Hid.mk (q479.out.fld (by decide))
          have u491 : Hid (w477 275 94 = w206 275 94) := Hid.mk (q479.out.fld (by decide))
          have f492 : e_fr (mStm (w 275 78) (w 275 79) (w 275 80) (w 275 94)) w w477 := e_fr.trans f215 (q479.out.st (by omega))
          have c493 := cSt.em q208c q479.out (by decide) (by omega) (by omega)
          refine e_Ok.nrm (q := 394) (st' := [(0, w206 275 78)]) rfl rfl ?_
          refine e_Ok.run (t' := (399, [(2, (0, w 275 78 + 1)), (0, (1, 275)), (1, (0, key))], [(0, 59), (1, 275), (1, 275)], w477)) 4 rfl ?_
          refine e_Ok.callV rfl (Nat.le_trans (by decide) hdq) rfl rfl rfl rfl (c_331 c493.1 (N := N) c493.2.2.2.1) (fun r497 w498 h499 => ?_)
          obtain ⟨z500, rfl, rfl, q501⟩ := h499
          obtain ⟨rfl, q501, q501b⟩ | ⟨rfl, q501n⟩ := q501
          · refine e_Ok.nrm (q := 402) (st' := [(0, 1), (1, 275)]) rfl rfl ?_
            rw [(show Hid (w477 275 84 = w206 275 84) from Hid.mk (q479.out.fld (by decide))).out] at q501
            rw [(show Hid (w477 275 85 = w206 275 85) from Hid.mk (q479.out.fld (by decide))).out] at q501b
            refine e_Ok.callV rfl (Nat.le_trans (by decide) hdq) rfl rfl rfl rfl (c_334 (Nat.le_trans (by decide) hdq) c493.1 c493.2.1 c493.2.2.1 hNr c493.2.2.2.1 (by decide)) (fun r502 w503 h504 => ?_)
            obtain ⟨rfl, q505⟩ := h504
            obtain ⟨rfl, q505z⟩ | ⟨q505z, q505b, q505, q505s, q505t⟩ | ⟨q505z, q505b, q505, q505T, q505H, q505r⟩ := q505
            · show e_Ok 20 elay ecode eI (d + 1) 349 (405, [(2, (0, w 275 78 + 1)), (0, (1, 275)), (1, (0, key))], [], w477) _
              rw [u490.out] at q505z
              clear q2083
              clear q2089
              refine e_Ok.rets rfl rfl ?_
              exact ⟨rfl, f492, c493, (by unfold stL; rw [u480.out, u481.out, u482.out, u483.out, u484.out, u485.out, u488.out, u490.out, u491.out]; omega), (fun z => by rw [u490.out] at z; exact absurd z (by omega))⟩
            · show e_Ok 20 elay ecode eI (d + 1) 349 (405, [(2, (0, w 275 78 + 1)), (0, (1, 275)), (1, (0, key))], [], w503) _
              rw [u490.out] at q505z
              rw [(show Hid (w477 275 87 = w206 275 87) from Hid.mk (q479.out.fld (by decide))).out] at q505t
              replace q2083 := q2083 (by omega)
              replace q2089 := q2089 (by omega)
              have p506 := tkS.pos c493.2.2.2.1 (by rw [(show Hid (w477 275 84 = w206 275 84) from Hid.mk (q479.out.fld (by decide))).out] <;> omega)
              rw [u488.out, (show Hid (w477 275 87 = w206 275 87) from Hid.mk (q479.out.fld (by decide))).out] at p506
              have c515 := cSt.tk c493 q505 q505s
              have t516 := tkS.lin c515.2.2.2.1
              refine e_Ok.rets rfl rfl ?_
              exact ⟨rfl, (show e_fr (mStm (w 275 78) (w 275 79) (w 275 80) (w 275 94)) w w503 from e_fr.trans f492 (e_fr.mono q505 (fun c k g => mTq_St g))), c515, (by unfold stL; rw [(show Hid (w503 275 78 = w206 275 78 + 1) from Hid.mk (Eq.trans (q505 275 78 (mTq_fld (by decide))) u480.out)).out, (show Hid (w503 275 79 = w 275 79) from Hid.mk (Eq.trans (q505 275 79 (mTq_fld (by decide))) u481.out)).out, (show Hid (w503 275 80 = w 275 80) from Hid.mk (Eq.trans (q505 275 80 (mTq_fld (by decide))) u482.out)).out, (show Hid (w503 275 81 = w 275 81) from Hid.mk (Eq.trans (q505 275 81 (mTq_fld (by decide))) u483.out)).out, (show Hid (w503 275 82 = w 275 82) from Hid.mk (Eq.trans (q505 275 82 (mTq_fld (by decide))) u484.out)).out, (show Hid (w503 275 83 = w206 275 83) from Hid.mk (Eq.trans (q505 275 83 (mTq_fld (by decide))) u485.out)).out, (show Hid (w503 275 88 = w206 275 88) from Hid.mk (Eq.trans (q505 275 88 (mTq_fld (by decide))) u490.out)).out, (show Hid (w503 275 94 = w206 275 94) from Hid.mk (Eq.trans (q505 275 94 (mTq_fld (by decide))) u491.out)).out]; omega), (fun z => by rw [(show Hid (w503 275 88 = w206 275 88) from Hid.mk (Eq.trans (q505 275 88 (mTq_fld (by decide))) u490.out)).out] at z; rw [(show Hid (w503 275 78 = w206 275 78 + 1) from Hid.mk (Eq.trans (q505 275 78 (mTq_fld (by decide))) u480.out)).out, (show Hid (w503 275 94 = w206 275 94) from Hid.mk (Eq.trans (q505 275 94 (mTq_fld (by decide))) u491.out)).out, (show Hid (w503 275 79 = w 275 79) from Hid.mk (Eq.trans (q505 275 79 (mTq_fld (by decide))) u481.out)).out, (show Hid (w503 275 80 = w 275 80) from Hid.mk (Eq.trans (q505 275 80 (mTq_fld (by decide))) u482.out)).out, (show Hid (w503 275 81 = w 275 81) from Hid.mk (Eq.trans (q505 275 81 (mTq_fld (by decide))) u483.out)).out]; exact ((show Hid (w206 275 88 = 0 → GB w503 N (w206 275 78 + 1) (w206 275 94) (w 275 79) (w 275 80) P (w 275 81) OW O) from Hid.mk (fun z => GB.pr ((show Hid (w206 275 88 = 0 → GB w477 N (w206 275 78 + 1) (w206 275 94) (w 275 79) (w 275 80) P (w 275 81) OW O) from Hid.mk (fun z => (GS.fin (GS.re (g216.out (by omega)) rfl rfl rfl rfl rfl (show _ = 1 from by omega)) q479.out (by omega) (by omega) (by omega) (by omega) (by omega) (by unfold iOw; omega) (fun _ => by have y := q208x.out (by omega); have y2 := y.2.2.2 (by decide); rw [show w 275 78 + 1 = w 275 78 + 1 from by omega]; exact ⟨⟨by omega, y2⟩, y.2.2.1, y.2.1 _ (Int.le_refl _) y2⟩)))).out z) (prE.tk q505))).out (by omega)))⟩
            · exact absurd q505b (by decide)
          · refine e_Ok.nrm (q := 402) (st' := [(0, 0), (1, 275)]) rfl rfl ?_
            clear q501n
            refine e_Ok.callV rfl (Nat.le_trans (by decide) hdq) rfl rfl rfl rfl (c_334 (Nat.le_trans (by decide) hdq) c493.1 c493.2.1 c493.2.2.1 hNr c493.2.2.2.1 (by decide)) (fun r521 w522 h523 => ?_)
            obtain ⟨rfl, q524⟩ := h523
            obtain ⟨rfl, q524z⟩ | ⟨q524z, q524b, q524, q524s, q524t⟩ | ⟨q524z, q524b, q524, q524T, q524H, q524r⟩ := q524
            · refine e_Ok.nrm (q := 405) (st' := []) rfl rfl ?_
              rw [u490.out] at q524z
              clear q2083
              clear q2089
              refine e_Ok.rets rfl rfl ?_
              exact ⟨rfl, f492, c493, (by unfold stL; rw [u480.out, u481.out, u482.out, u483.out, u484.out, u485.out, u488.out, u490.out, u491.out]; omega), (fun z => by rw [u490.out] at z; exact absurd z (by omega))⟩
            · exact absurd q524b (by decide)
            · refine e_Ok.nrm (q := 405) (st' := []) rfl rfl ?_
              rw [u490.out] at q524z
              replace q2083 := q2083 (by omega)
              replace q2089 := q2089 (by omega)
              refine e_Ok.rets rfl rfl ?_
              exact ⟨rfl, (show e_fr (mStm (w 275 78) (w 275 79) (w 275 80) (w 275 94)) w w522 from e_fr.trans f492 (e_fr.mono q524 (fun c k g => mRf_St g))), (cSt.rf c493 q524 q524T q524H), (by unfold stL; rw [(show Hid (w522 275 78 = w206 275 78 + 1) from Hid.mk (Eq.trans (q524 275 78 (mRf_fld (by decide))) u480.out)).out, (show Hid (w522 275 79 = w 275 79) from Hid.mk (Eq.trans (q524 275 79 (mRf_fld (by decide))) u481.out)).out, (show Hid (w522 275 80 = w 275 80) from Hid.mk (Eq.trans (q524 275 80 (mRf_fld (by decide))) u482.out)).out, (show Hid (w522 275 81 = w 275 81) from Hid.mk (Eq.trans (q524 275 81 (mRf_fld (by decide))) u483.out)).out, (show Hid (w522 275 82 = w 275 82) from Hid.mk (Eq.trans (q524 275 82 (mRf_fld (by decide))) u484.out)).out, (show Hid (w522 275 83 = w206 275 83) from Hid.mk (Eq.trans (q524 275 83 (mRf_fld (by decide))) u485.out)).out, (show Hid (w522 275 86 = w206 275 86) from Hid.mk (Eq.trans (q524 275 86 (mRf_fld (by decide))) u488.out)).out, (show Hid (w522 275 94 = w206 275 94) from Hid.mk (Eq.trans (q524 275 94 (mRf_fld (by decide))) u491.out)).out]; omega), (fun z => absurd z (by omega))⟩
      · replace h219 : (key : Int) = 4 := Classical.not_not.mp (show ¬ ((key : Int) ≠ 4) from h219)
        refine e_Ok.ps2 (x := (0, w 275 78 + 1)) (y := (0, 33)) (q := 391) 3 rfl ?_
        refine e_Ok.callV rfl (Nat.le_trans (by decide) hdq) rfl rfl rfl rfl (c_336 q208c.1 (n := w206 275 78) rfl (by omega) (s := w 275 81) u211.out (by omega)) (fun r538 w539 h540 => ?_)
        obtain ⟨rfl, q541⟩ := h540
        replace q541 := (show Hid (EM w206 w539 (w206 275 78) 33 (w 275 78 + 1) (w 275 81)) from q541)
        have u542 : Hid (w539 275 78 = w206 275 78 + 1) := Hid.mk (Eq.trans q541.out.2.2.2.2 (by omega))
        have u543 : Hid (w539 275 79 = w 275 79) := Hid.mk (Eq.trans (q541.out.fld (by decide)) u209.out)
        have u544 : Hid (w539 275 80 = w 275 80) := Hid.mk (Eq.trans (q541.out.fld (by decide)) u210.out)
        have u545 : Hid (w539 275 81 = w 275 81) := Hid.mk (Eq.trans (q541.out.fld (by decide)) u211.out)
        have u546 : Hid (w539 275 82 = w 275 82) := Hid.mk (Eq.trans (q541.out.fld (by decide)) u212.out)
        have u547 : Hid (w539 275 83 = w206 275 83) := Hid.mk (q541.out.fld (by decide))
        have u550 : Hid (w539 275 86 = w206 275 86) := Hid.mk (q541.out.fld (by decide))
        have u552 : Hid (w539 275 88 = w206 275 88) := Hid.mk (q541.out.fld (by decide))
        have u553 : Hid (w539 275 94 = w206 275 94) := Hid.mk (q541.out.fld (by decide))
        have f554 : e_fr (mStm (w 275 78) (w 275 79) (w 275 80) (w 275 94)) w w539 := e_fr.trans f215 (q541.out.st (by omega))
        have c555 := cSt.em q208c q541.out (by decide) (by omega) (by omega)
        refine e_Ok.nrm (q := 394) (st' := [(0, w206 275 78)]) rfl rfl ?_
        refine e_Ok.run (t' := (399, [(2, (0, w 275 78 + 1)), (0, (1, 275)), (1, (0, key))], [(0, 59), (1, 275), (1, 275)], w539)) 4 rfl ?_
        refine e_Ok.callV rfl (Nat.le_trans (by decide) hdq) rfl rfl rfl rfl (c_331 c555.1 (N := N) c555.2.2.2.1) (fun r559 w560 h561 => ?_)
        obtain ⟨z562, rfl, rfl, q563⟩ := h561
        obtain ⟨rfl, q563, q563b⟩ | ⟨rfl, q563n⟩ := q563
        · refine e_Ok.nrm (q := 402) (st' := [(0, 1), (1, 275)]) rfl rfl ?_
          rw [(show Hid (w539 275 84 = w206 275 84) from Hid.mk (q541.out.fld (by decide))).out] at q563
          rw [(show Hid (w539 275 85 = w206 275 85) from Hid.mk (q541.out.fld (by decide))).out] at q563b
          refine e_Ok.callV rfl (Nat.le_trans (by decide) hdq) rfl rfl rfl rfl (c_334 (Nat.le_trans (by decide) hdq) c555.1 c555.2.1 c555.2.2.1 hNr c555.2.2.2.1 (by decide)) (fun r564 w565 h566 => ?_)
          obtain ⟨rfl, q567⟩ := h566
          obtain ⟨rfl, q567z⟩ | ⟨q567z, q567b, q567, q567s, q567t⟩ | ⟨q567z, q567b, q567, q567T, q567H, q567r⟩ := q567
          · show e_Ok 20 elay ecode eI (d + 1) 349 (405, [(2, (0, w 275 78 + 1)), (0, (1, 275)), (1, (0, key))], [], w539) _
            rw [u552.out] at q567z
            clear q2083
            clear q2089
            refine e_Ok.rets rfl rfl ?_
            exact ⟨rfl, f554, c555, (by unfold stL; rw [u542.out, u543.out, u544.out, u545.out, u546.out, u547.out, u550.out, u552.out, u553.out]; omega), (fun z => by rw [u552.out] at z; exact absurd z (by omega))⟩
          · show e_Ok 20 elay ecode eI (d + 1) 349 (405, [(2, (0, w 275 78 + 1)), (0, (1, 275)), (1, (0, key))], [], w565) _
            rw [u552.out] at q567z
            rw [(show Hid (w539 275 87 = w206 275 87) from Hid.mk (q541.out.fld (by decide))).out] at q567t
            replace q2083 := q2083 (by omega)
            replace q2089 := q2089 (by omega)
            have p568 := tkS.pos c555.2.2.2.1 (by rw [(show Hid (w539 275 84 = w206 275 84) from Hid.mk (q541.out.fld (by decide))).out] <;> omega)
            rw [u550.out, (show Hid (w539 275 87 = w206 275 87) from Hid.mk (q541.out.fld (by decide))).out] at p568
            have c577 := cSt.tk c555 q567 q567s
            have t578 := tkS.lin c577.2.2.2.1
            refine e_Ok.rets rfl rfl ?_
            exact ⟨rfl, (show e_fr (mStm (w 275 78) (w 275 79) (w 275 80) (w 275 94)) w w565 from e_fr.trans f554 (e_fr.mono q567 (fun c k g => mTq_St g))), c577, (by unfold stL; rw [(show Hid (w565 275 78 = w206 275 78 + 1) from Hid.mk (Eq.trans (q567 275 78 (mTq_fld (by decide))) u542.out)).out, (show Hid (w565 275 79 = w 275 79) from Hid.mk (Eq.trans (q567 275 79 (mTq_fld (by decide))) u543.out)).out, (show Hid (w565 275 80 = w 275 80) from Hid.mk (Eq.trans (q567 275 80 (mTq_fld (by decide))) u544.out)).out, (show Hid (w565 275 81 = w 275 81) from Hid.mk (Eq.trans (q567 275 81 (mTq_fld (by decide))) u545.out)).out, (show Hid (w565 275 82 = w 275 82) from Hid.mk (Eq.trans (q567 275 82 (mTq_fld (by decide))) u546.out)).out, (show Hid (w565 275 83 = w206 275 83) from Hid.mk (Eq.trans (q567 275 83 (mTq_fld (by decide))) u547.out)).out, (show Hid (w565 275 88 = w206 275 88) from Hid.mk (Eq.trans (q567 275 88 (mTq_fld (by decide))) u552.out)).out, (show Hid (w565 275 94 = w206 275 94) from Hid.mk (Eq.trans (q567 275 94 (mTq_fld (by decide))) u553.out)).out]; omega), (fun z => by rw [(show Hid (w565 275 88 = w206 275 88) from Hid.mk (Eq.trans (q567 275 88 (mTq_fld (by decide))) u552.out)).out] at z; rw [(show Hid (w565 275 78 = w206 275 78 + 1) from Hid.mk (Eq.trans (q567 275 78 (mTq_fld (by decide))) u542.out)).out, (show Hid (w565 275 94 = w206 275 94) from Hid.mk (Eq.trans (q567 275 94 (mTq_fld (by decide))) u553.out)).out, (show Hid (w565 275 79 = w 275 79) from Hid.mk (Eq.trans (q567 275 79 (mTq_fld (by decide))) u543.out)).out, (show Hid (w565 275 80 = w 275 80) from Hid.mk (Eq.trans (q567 275 80 (mTq_fld (by decide))) u544.out)).out, (show Hid (w565 275 81 = w 275 81) from Hid.mk (Eq.trans (q567 275 81 (mTq_fld (by decide))) u545.out)).out]; exact ((show Hid (w206 275 88 = 0 → GB w565 N (w206 275 78 + 1) (w206 275 94) (w 275 79) (w 275 80) P (w 275 81) OW O) from Hid.mk (fun z => GB.pr ((show Hid (w206 275 88 = 0 → GB w539 N (w206 275 78 + 1) (w206 275 94) (w 275 79) (w 275 80) P (w 275 81) OW O) from Hid.mk (fun z => (GS.fin (GS.re (g216.out (by omega)) rfl rfl rfl rfl rfl (show _ = 1 from by omega)) q541.out (by omega) (by omega) (by omega) (by omega) (by omega) (by unfold iOw; omega) (fun y => absurd y (by decide))))).out z) (prE.tk q567))).out (by omega)))⟩
          · exact absurd q567b (by decide)
        · refine e_Ok.nrm (q := 402) (st' := [(0, 0), (1, 275)]) rfl rfl ?_
          clear q563n
          refine e_Ok.callV rfl (Nat.le_trans (by decide) hdq) rfl rfl rfl rfl (c_334 (Nat.le_trans (by decide) hdq) c555.1 c555.2.1 c555.2.2.1 hNr c555.2.2.2.1 (by decide)) (fun r583 w584 h585 => ?_)
          obtain ⟨rfl, q586⟩ := h585
          obtain ⟨rfl, q586z⟩ | ⟨q586z, q586b, q586, q586s, q586t⟩ | ⟨q586z, q586b, q586, q586T, q586H, q586r⟩ := q586
          · refine e_Ok.nrm (q := 405) (st' := []) rfl rfl ?_
            rw [u552.out] at q586z
            clear q2083
            clear q2089
            refine e_Ok.rets rfl rfl ?_
            exact ⟨rfl, f554, c555, (by unfold stL; rw [u542.out, u543.out, u544.out, u545.out, u546.out, u547.out, u550.out, u552.out, u553.out]; omega), (fun z => by rw [u552.out] at z; exact absurd z (by omega))⟩
          · exact absurd q586b (by decide)
          · refine e_Ok.nrm (q := 405) (st' := []) rfl rfl ?_
            rw [u552.out] at q586z
            replace q2083 := q2083 (by omega)
            replace q2089 := q2089 (by omega)
            refine e_Ok.rets rfl rfl ?_
            exact ⟨rfl, (show e_fr (mStm (w 275 78) (w 275 79) (w 275 80) (w 275 94)) w w584 from e_fr.trans f554 (e_fr.mono q586 (fun c k g => mRf_St g))), (cSt.rf c555 q586 q586T q586H), (by unfold stL; rw [(show Hid (w584 275 78 = w206 275 78 + 1) from Hid.mk (Eq.trans (q586 275 78 (mRf_fld (by decide))) u542.out)).out, (show Hid (w584 275 79 = w 275 79) from Hid.mk (Eq.trans (q586 275 79 (mRf_fld (by decide))) u543.out)).out, (show Hid (w584 275 80 = w 275 80) from Hid.mk (Eq.trans (q586 275 80 (mRf_fld (by decide))) u544.out)).out, (show Hid (w584 275 81 = w 275 81) from Hid.mk (Eq.trans (q586 275 81 (mRf_fld (by decide))) u545.out)).out, (show Hid (w584 275 82 = w 275 82) from Hid.mk (Eq.trans (q586 275 82 (mRf_fld (by decide))) u546.out)).out, (show Hid (w584 275 83 = w206 275 83) from Hid.mk (Eq.trans (q586 275 83 (mRf_fld (by decide))) u547.out)).out, (show Hid (w584 275 86 = w206 275 86) from Hid.mk (Eq.trans (q586 275 86 (mRf_fld (by decide))) u550.out)).out, (show Hid (w584 275 94 = w206 275 94) from Hid.mk (Eq.trans (q586 275 94 (mRf_fld (by decide))) u553.out)).out]; omega), (fun z => absurd z (by omega))⟩
    · refine e_Ok.sw (tg := 195) rfl (by rw [h44]; rfl) ?_
      refine e_Ok.run (t' := (196, [(2, (0, w 275 78 + 1)), (0, (1, 275)), (1, (0, key))], [(1, 275)], w24)) 1 rfl ?_
      refine e_Ok.callV rfl (Nat.le_trans (by decide) hdq) rfl rfl rfl rfl (c_exp (o := w 275 83) (Nat.le_trans (by decide) hdq) (by omega) w24 N (w 275 79) (w 275 81) (0) (enc P (w 275 78 + 1) (w 275 94)) c37 hNr (by rw [u35.out] <;> omega) u34.out u32.out (by rw [u29.out, u36.out] <;> omega) (by rw [u29.out, u36.out] <;> exact GS.wf (GA.gs (g41.out (by omega)))) (by omega)) (fun r600 w601 h602 => ?_)
      obtain ⟨rfl, q603F, q603c, q603l, q603w⟩ := h602
      unfold cLn at q603l
      rw [u29.out, u34.out, u36.out] at q603l
      rw [u29.out, u36.out] at q603F
      obtain ⟨q6031, q6032, q6033, q6034, q6035, q6036, q6037, q6038, q6039⟩ := q603l
      replace q603w := (show Hid _ from q603w)
      have u604 : Hid (w601 275 79 = w 275 79) := Hid.mk (Eq.trans (q603F 275 79 (mEx_fld (by decide))) u30.out)
      have u605 : Hid (w601 275 80 = w 275 80) := Hid.mk (Eq.trans (q603F 275 80 (mEx_fld (by decide))) u31.out)
      have u606 : Hid (w601 275 81 = w 275 81) := Hid.mk (Eq.trans (q603F 275 81 (mEx_fld (by decide))) u32.out)
      have u607 : Hid (w601 275 82 = w 275 82) := Hid.mk (Eq.trans (q603F 275 82 (mEx_fld (by decide))) u33.out)
      have t608 := tkS.lin q603c.2.2.2.1
      have t609 := e_Has.get q603c.2.1 (c := 275) (k := 88) (lo := 0) (hi := 7) rfl (by decide)
      have f610 : e_fr (mStm (w 275 78) (w 275 79) (w 275 80) (w 275 94)) w w601 := e_fr.trans f40 (e_fr.mono q603F (fun c k g => mEx_St (by omega) (by omega) g))
      have q603x : Hid (w601 275 88 = 0 → GS w601 N (w601 275 78) (w601 275 94) (w 275 79) (w 275 80) P (w 275 81) OW O (0 + 1) ∧ (∀ p, w 275 78 + 1 ≤ p → p < w601 275 78 → w601 330 (p + 40000) = w 275 81) ∧ dp w601 (w 275 78 + 1) = 0 ∧ ((0 : Int) ≠ 0 + 1 → w 275 78 + 1 < w601 275 78)) := Hid.mk (fun z => GS.ex (GA.gs (g41.out (by omega))) q603F (by omega) (by omega) (q603w.out z))
      show e_Ok 20 elay ecode eI (d + 1) 349 (199, [(2, (0, w 275 78 + 1)), (0, (1, 275)), (1, (0, key))], [], w601) _
      refine e_Ok.ps3 (x := (0, 44)) (y := (1, 275)) (z := (1, 275)) (q := 203) 3 rfl ?_
      refine e_Ok.callV rfl (Nat.le_trans (by decide) hdq) rfl rfl rfl rfl (c_331 q603c.1 (N := N) q603c.2.2.2.1) (fun r614 w615 h616 => ?_)
      obtain ⟨z617, rfl, rfl, q618⟩ := h616
      obtain ⟨rfl, q618, q618b⟩ | ⟨rfl, q618n⟩ := q618
      · refine e_Ok.nrm (q := 206) (st' := [(0, 1), (1, 275)]) rfl rfl ?_
        refine e_Ok.callV rfl (Nat.le_trans (by decide) hdq) rfl rfl rfl rfl (c_334 (Nat.le_trans (by decide) hdq) q603c.1 q603c.2.1 q603c.2.2.1 hNr q603c.2.2.2.1 (by decide)) (fun r619 w620 h621 => ?_)
        obtain ⟨rfl, q622⟩ := h621
        obtain ⟨rfl, q622z⟩ | ⟨q622z, q622b, q622, q622s, q622t⟩ | ⟨q622z, q622b, q622, q622T, q622H, q622r⟩ := q622
        · refine e_Ok.nrm (q := 209) (st' := []) rfl rfl ?_
          clear q6033
          clear q6039
          refine e_Ok.ps1 (x := (1, 275)) (q := 210) 1 rfl ?_
          refine e_Ok.callV rfl (Nat.le_trans (by decide) hdq) rfl rfl rfl rfl (c_339_0 (Nat.le_trans (by decide) hdq) q603c (by omega)) (fun r623 w624 h625 => ?_)
          obtain ⟨rfl, rfl⟩ := h625
          refine e_Ok.nrm (q := 213) (st' := []) rfl rfl ?_
          refine e_Ok.ps3 (x := (0, 0)) (y := (0, 35)) (z := (1, 275)) (q := 217) 3 rfl ?_
          refine e_Ok.callV rfl (Nat.le_trans (by decide) hdq) rfl rfl rfl rfl (c_336 q603c.1 (n := w601 275 78) rfl (by omega) (s := w 275 81) u606.out (by omega)) (fun r626 w627 h628 => ?_)
          obtain ⟨rfl, q629⟩ := h628
          replace q629 := (show Hid (EM w601 w627 (w601 275 78) 35 (0) (w 275 81)) from q629)
          have u630 : Hid (w627 275 78 = w601 275 78 + 1) := Hid.mk (Eq.trans q629.out.2.2.2.2 (by omega))
          have u640 : Hid (w627 275 88 = w601 275 88) := Hid.mk (q629.out.fld (by decide))
          have f642 : e_fr (mStm (w 275 78) (w 275 79) (w 275 80) (w 275 94)) w w627 := e_fr.trans f610 (q629.out.st (by omega))
          have c643 := cSt.em q603c q629.out (by decide) (by omega) (by omega)
          refine e_Ok.nrm (q := 220) (st' := [(0, w601 275 78)]) rfl rfl ?_
          refine e_Ok.run (t' := (399, [(2, (0, w 275 78 + 1)), (0, (1, 275)), (1, (0, key))], [(0, 59), (1, 275), (1, 275)], w627)) 5 rfl ?_
          refine e_Ok.callV rfl (Nat.le_trans (by decide) hdq) rfl rfl rfl rfl (c_331 c643.1 (N := N) c643.2.2.2.1) (fun r644 w645 h646 => ?_)
          obtain ⟨z647, rfl, rfl, q648⟩ := h646
          obtain ⟨rfl, q648, q648b⟩ | ⟨rfl, q648n⟩ := q648
          · refine e_Ok.nrm (q := 402) (st' := [(0, 1), (1, 275)]) rfl rfl ?_
            rw [(show Hid (w627 275 84 = w601 275 84) from Hid.mk (q629.out.fld (by decide))).out] at q648
            rw [(show Hid (w627 275 85 = w601 275 85) from Hid.mk (q629.out.fld (by decide))).out] at q648b
            refine e_Ok.callV rfl (Nat.le_trans (by decide) hdq) rfl rfl rfl rfl (c_334 (Nat.le_trans (by decide) hdq) c643.1 c643.2.1 c643.2.2.1 hNr c643.2.2.2.1 (by decide)) (fun r649 w650 h651 => ?_)
            obtain ⟨rfl, q652⟩ := h651
            obtain ⟨rfl, q652z⟩ | ⟨q652z, q652b, q652, q652s, q652t⟩ | ⟨q652z, q652b, q652, q652T, q652H, q652r⟩ := q652
            · show e_Ok 20 elay ecode eI (d + 1) 349 (405, [(2, (0, w 275 78 + 1)), (0, (1, 275)), (1, (0, key))], [], w627) _
              rw [u640.out] at q652z
              refine e_Ok.rets rfl rfl ?_
              exact ⟨rfl, f642, c643, (by unfold stL; rw [u630.out, (show Hid (w627 275 79 = w 275 79) from Hid.mk (Eq.trans (q629.out.fld (by decide)) u604.out)).out, (show Hid (w627 275 80 = w 275 80) from Hid.mk (Eq.trans (q629.out.fld (by decide)) u605.out)).out, (show Hid (w627 275 81 = w 275 81) from Hid.mk (Eq.trans (q629.out.fld (by decide)) u606.out)).out, (show Hid (w627 275 82 = w 275 82) from Hid.mk (Eq.trans (q629.out.fld (by decide)) u607.out)).out, (show Hid (w627 275 83 = w601 275 83) from Hid.mk (q629.out.fld (by decide))).out, (show Hid (w627 275 86 = w601 275 86) from Hid.mk (q629.out.fld (by decide))).out, u640.out, (show Hid (w627 275 94 = w601 275 94) from Hid.mk (q629.out.fld (by decide))).out]; omega), (fun z => by rw [u640.out] at z; exact absurd z (by omega))⟩
            · rw [u640.out] at q652z; exact absurd q652z (by omega)
            · rw [u640.out] at q652z; exact absurd q652z (by omega)
          · refine e_Ok.nrm (q := 402) (st' := [(0, 0), (1, 275)]) rfl rfl ?_
            clear q648n
            refine e_Ok.callV rfl (Nat.le_trans (by decide) hdq) rfl rfl rfl rfl (c_334 (Nat.le_trans (by decide) hdq) c643.1 c643.2.1 c643.2.2.1 hNr c643.2.2.2.1 (by decide)) (fun r653 w654 h655 => ?_)
            obtain ⟨rfl, q656⟩ := h655
            obtain ⟨rfl, q656z⟩ | ⟨q656z, q656b, q656, q656s, q656t⟩ | ⟨q656z, q656b, q656, q656T, q656H, q656r⟩ := q656
            · refine e_Ok.nrm (q := 405) (st' := []) rfl rfl ?_
              rw [u640.out] at q656z
              refine e_Ok.rets rfl rfl ?_
              exact ⟨rfl, f642, c643, (by unfold stL; rw [u630.out, (show Hid (w627 275 79 = w 275 79) from Hid.mk (Eq.trans (q629.out.fld (by decide)) u604.out)).out, (show Hid (w627 275 80 = w 275 80) from Hid.mk (Eq.trans (q629.out.fld (by decide)) u605.out)).out, (show Hid (w627 275 81 = w 275 81) from Hid.mk (Eq.trans (q629.out.fld (by decide)) u606.out)).out, (show Hid (w627 275 82 = w 275 82) from Hid.mk (Eq.trans (q629.out.fld (by decide)) u607.out)).out, (show Hid (w627 275 83 = w601 275 83) from Hid.mk (q629.out.fld (by decide))).out, (show Hid (w627 275 86 = w601 275 86) from Hid.mk (q629.out.fld (by decide))).out, u640.out, (show Hid (w627 275 94 = w601 275 94) from Hid.mk (q629.out.fld (by decide))).out]; omega), (fun z => by rw [u640.out] at z; exact absurd z (by omega))⟩
            · rw [u640.out] at q656z; exact absurd q656z (by omega)
            · rw [u640.out] at q656z; exact absurd q656z (by omega)
        · refine e_Ok.nrm (q := 209) (st' := []) rfl rfl ?_
          replace q6033 := q6033 (by omega)
          replace q6039 := q6039 (by omega)
          have p657 := tkS.pos q603c.2.2.2.1 (by omega)
          have u658 : Hid (w620 275 78 = w601 275 78) := Hid.mk (q622 275 78 (mTq_fld (by decide)))
          have u665 : Hid (w620 275 94 = w601 275 94) := Hid.mk (q622 275 94 (mTq_fld (by decide)))
          have c666 := cSt.tk q603c q622 q622s
          have t667 := tkS.lin c666.2.2.2.1
          refine e_Ok.ps1 (x := (1, 275)) (q := 210) 1 rfl ?_
          refine e_Ok.callV rfl (Nat.le_trans (by decide) hdq) rfl rfl rfl rfl (c_exp (o := w601 275 83) (Nat.le_trans (by decide) hdq) (by omega) w620 N (w 275 79) (w 275 81) (0 + 1) (enc P (w601 275 78) (w601 275 94)) c666 hNr (by rw [(show Hid (w620 275 88 = w601 275 88) from Hid.mk (q622 275 88 (mTq_fld (by decide)))).out] <;> omega) (show Hid (w620 275 83 = w601 275 83) from Hid.mk (q622 275 83 (mTq_fld (by decide)))).out (show Hid (w620 275 81 = w 275 81) from Hid.mk (Eq.trans (q622 275 81 (mTq_fld (by decide))) u606.out)).out (by rw [u658.out, u665.out] <;> omega) (by rw [u658.out, u665.out] <;> exact GS.wf ((show Hid (w601 275 88 = 0 → GS w620 N (w601 275 78) (w601 275 94) (w 275 79) (w 275 80) P (w 275 81) OW O (0 + 1)) from Hid.mk (fun z => GS.pr ((show Hid (w601 275 88 = 0 → GS w601 N (w601 275 78) (w601 275 94) (w 275 79) (w 275 80) P (w 275 81) OW O (0 + 1)) from Hid.mk (fun z => (q603x.out z).1)).out z) (prE.tk q622))).out (by omega))) (by omega)) (fun r672 w673 h674 => ?_)
          obtain ⟨rfl, q675F, q675c, q675l, q675w⟩ := h674
          unfold cLn at q675l
          rw [u658.out, (show Hid (w620 275 83 = w601 275 83) from Hid.mk (q622 275 83 (mTq_fld (by decide)))).out, u665.out] at q675l
          rw [u658.out, u665.out] at q675F
          obtain ⟨q6751, q6752, q6753, q6754, q6755, q6756, q6757, q6758, q6759⟩ := q675l
          replace q675w := (show Hid _ from q675w)
          have t680 := tkS.lin q675c.2.2.2.1
          have t681 := e_Has.get q675c.2.1 (c := 275) (k := 88) (lo := 0) (hi := 7) rfl (by decide)
          have q675x : Hid (w673 275 88 = 0 → GS w673 N (w673 275 78) (w673 275 94) (w 275 79) (w 275 80) P (w 275 81) OW O (0 + 1 + 1) ∧ (∀ p, w601 275 78 ≤ p → p < w673 275 78 → w673 330 (p + 40000) = w 275 81) ∧ dp w673 (w601 275 78) = (0 + 1) ∧ (((0 + 1) : Int) ≠ 0 + 1 + 1 → w601 275 78 < w673 275 78)) := Hid.mk (fun z => GS.ex ((show Hid (w601 275 88 = 0 → GS w620 N (w601 275 78) (w601 275 94) (w 275 79) (w 275 80) P (w 275 81) OW O (0 + 1)) from Hid.mk (fun z => GS.pr ((show Hid (w601 275 88 = 0 → GS w601 N (w601 275 78) (w601 275 94) (w 275 79) (w 275 80) P (w 275 81) OW O (0 + 1)) from Hid.mk (fun z => (q603x.out z).1)).out z) (prE.tk q622))).out (by omega)) q675F (by omega) (by omega) (q675w.out z))
          show e_Ok 20 elay ecode eI (d + 1) 349 (213, [(2, (0, w 275 78 + 1)), (0, (1, 275)), (1, (0, key))], [], w673) _
          refine e_Ok.ps3 (x := (0, 0)) (y := (0, 35)) (z := (1, 275)) (q := 217) 3 rfl ?_
          refine e_Ok.callV rfl (Nat.le_trans (by decide) hdq) rfl rfl rfl rfl (c_336 q675c.1 (n := w673 275 78) rfl (by omega) (s := w 275 81) (show Hid (w673 275 81 = w 275 81) from Hid.mk (Eq.trans (q675F 275 81 (mEx_fld (by decide))) (show Hid (w620 275 81 = w 275 81) from Hid.mk (Eq.trans (q622 275 81 (mTq_fld (by decide))) u606.out)).out)).out (by omega)) (fun r686 w687 h688 => ?_)
          obtain ⟨rfl, q689⟩ := h688
          replace q689 := (show Hid (EM w673 w687 (w673 275 78) 35 (0) (w 275 81)) from q689)
          have u690 : Hid (w687 275 78 = w673 275 78 + 1) := Hid.mk (Eq.trans q689.out.2.2.2.2 (by omega))
          have u691 : Hid (w687 275 79 = w 275 79) := Hid.mk (Eq.trans (q689.out.fld (by decide)) (show Hid (w673 275 79 = w 275 79) from Hid.mk (Eq.trans (q675F 275 79 (mEx_fld (by decide))) (show Hid (w620 275 79 = w 275 79) from Hid.mk (Eq.trans (q622 275 79 (mTq_fld (by decide))) u604.out)).out)).out)
          have u692 : Hid (w687 275 80 = w 275 80) := Hid.mk (Eq.trans (q689.out.fld (by decide)) (show Hid (w673 275 80 = w 275 80) from Hid.mk (Eq.trans (q675F 275 80 (mEx_fld (by decide))) (show Hid (w620 275 80 = w 275 80) from Hid.mk (Eq.trans (q622 275 80 (mTq_fld (by decide))) u605.out)).out)).out)
          have u693 : Hid (w687 275 81 = w 275 81) := Hid.mk (Eq.trans (q689.out.fld (by decide)) (show Hid (w673 275 81 = w 275 81) from Hid.mk (Eq.trans (q675F 275 81 (mEx_fld (by decide))) (show Hid (w620 275 81 = w 275 81) from Hid.mk (Eq.trans (q622 275 81 (mTq_fld (by decide))) u606.out)).out)).out)
          have u694 : Hid (w687 275 82 = w 275 82) := Hid.mk (Eq.trans (q689.out.fld (by decide)) (show Hid (w673 275 82 = w 275 82) from Hid.mk (Eq.trans (q675F 275 82 (mEx_fld (by decide))) (show Hid (w620 275 82 = w 275 82) from Hid.mk (Eq.trans (q622 275 82 (mTq_fld (by decide))) u607.out)).out)).out)
          have u695 : Hid (w687 275 83 = w673 275 83) := Hid.mk (q689.out.fld (by decide))
          have u698 : Hid (w687 275 86 = w673 275 86) := Hid.mk (q689.out.fld (by decide))
          have u700 : Hid (w687 275 88 = w673 275 88) := Hid.mk (q689.out.fld (by decide))
          have u701 : Hid (w687 275 94 = w673 275 94) := Hid.mk (q689.out.fld (by decide))
          have f702 : e_fr (mStm (w 275 78) (w 275 79) (w 275 80) (w 275 94)) w w687 := e_fr.trans (show e_fr (mStm (w 275 78) (w 275 79) (w 275 80) (w 275 94)) w w673 from e_fr.trans (show e_fr (mStm (w 275 78) (w 275 79) (w 275 80) (w 275 94)) w w620 from e_fr.trans f610 (e_fr.mono q622 (fun c k g => mTq_St g))) (e_fr.mono q675F (fun c k g => mEx_St (by omega) (by omega) g))) (q689.out.st (by omega))
          have c703 := cSt.em q675c q689.out (by decide) (by omega) (by omega)
          refine e_Ok.nrm (q := 220) (st' := [(0, w673 275 78)]) rfl rfl ?_
          refine e_Ok.run (t' := (399, [(2, (0, w 275 78 + 1)), (0, (1, 275)), (1, (0, key))], [(0, 59), (1, 275), (1, 275)], w687)) 5 rfl ?_
          refine e_Ok.callV rfl (Nat.le_trans (by decide) hdq) rfl rfl rfl rfl (c_331 c703.1 (N := N) c703.2.2.2.1) (fun r707 w708 h709 => ?_)
          obtain ⟨z710, rfl, rfl, q711⟩ := h709
          obtain ⟨rfl, q711, q711b⟩ | ⟨rfl, q711n⟩ := q711
          · refine e_Ok.nrm (q := 402) (st' := [(0, 1), (1, 275)]) rfl rfl ?_
            rw [(show Hid (w687 275 84 = w673 275 84) from Hid.mk (q689.out.fld (by decide))).out] at q711
            rw [(show Hid (w687 275 85 = w673 275 85) from Hid.mk (q689.out.fld (by decide))).out] at q711b
            refine e_Ok.callV rfl (Nat.le_trans (by decide) hdq) rfl rfl rfl rfl (c_334 (Nat.le_trans (by decide) hdq) c703.1 c703.2.1 c703.2.2.1 hNr c703.2.2.2.1 (by decide)) (fun r712 w713 h714 => ?_)
            obtain ⟨rfl, q715⟩ := h714
            obtain ⟨rfl, q715z⟩ | ⟨q715z, q715b, q715, q715s, q715t⟩ | ⟨q715z, q715b, q715, q715T, q715H, q715r⟩ := q715
            · show e_Ok 20 elay ecode eI (d + 1) 349 (405, [(2, (0, w 275 78 + 1)), (0, (1, 275)), (1, (0, key))], [], w687) _
              rw [u700.out] at q715z
              clear q6753
              clear q6759
              refine e_Ok.rets rfl rfl ?_
              exact ⟨rfl, f702, c703, (by unfold stL; rw [u690.out, u691.out, u692.out, u693.out, u694.out, u695.out, u698.out, u700.out, u701.out]; omega), (fun z => by rw [u700.out] at z; exact absurd z (by omega))⟩
            · show e_Ok 20 elay ecode eI (d + 1) 349 (405, [(2, (0, w 275 78 + 1)), (0, (1, 275)), (1, (0, key))], [], w713) _
              rw [u700.out] at q715z
              rw [(show Hid (w687 275 87 = w673 275 87) from Hid.mk (q689.out.fld (by decide))).out] at q715t
              replace q6753 := q6753 (by omega)
              replace q6759 := q6759 (by omega)
              have p716 := tkS.pos c703.2.2.2.1 (by rw [(show Hid (w687 275 84 = w673 275 84) from Hid.mk (q689.out.fld (by decide))).out] <;> omega)
              rw [u698.out, (show Hid (w687 275 87 = w673 275 87) from Hid.mk (q689.out.fld (by decide))).out] at p716
              have c725 := cSt.tk c703 q715 q715s
              have t726 := tkS.lin c725.2.2.2.1
              refine e_Ok.rets rfl rfl ?_
              exact ⟨rfl, (show e_fr (mStm (w 275 78) (w 275 79) (w 275 80) (w 275 94)) w w713 from e_fr.trans f702 (e_fr.mono q715 (fun c k g => mTq_St g))), c725, (by unfold stL; rw [(show Hid (w713 275 78 = w673 275 78 + 1) from Hid.mk (Eq.trans (q715 275 78 (mTq_fld (by decide))) u690.out)).out, (show Hid (w713 275 79 = w 275 79) from Hid.mk (Eq.trans (q715 275 79 (mTq_fld (by decide))) u691.out)).out, (show Hid (w713 275 80 = w 275 80) from Hid.mk (Eq.trans (q715 275 80 (mTq_fld (by decide))) u692.out)).out, (show Hid (w713 275 81 = w 275 81) from Hid.mk (Eq.trans (q715 275 81 (mTq_fld (by decide))) u693.out)).out, (show Hid (w713 275 82 = w 275 82) from Hid.mk (Eq.trans (q715 275 82 (mTq_fld (by decide))) u694.out)).out, (show Hid (w713 275 83 = w673 275 83) from Hid.mk (Eq.trans (q715 275 83 (mTq_fld (by decide))) u695.out)).out, (show Hid (w713 275 88 = w673 275 88) from Hid.mk (Eq.trans (q715 275 88 (mTq_fld (by decide))) u700.out)).out, (show Hid (w713 275 94 = w673 275 94) from Hid.mk (Eq.trans (q715 275 94 (mTq_fld (by decide))) u701.out)).out]; omega), (fun z => by rw [(show Hid (w713 275 88 = w673 275 88) from Hid.mk (Eq.trans (q715 275 88 (mTq_fld (by decide))) u700.out)).out] at z; rw [(show Hid (w713 275 78 = w673 275 78 + 1) from Hid.mk (Eq.trans (q715 275 78 (mTq_fld (by decide))) u690.out)).out, (show Hid (w713 275 94 = w673 275 94) from Hid.mk (Eq.trans (q715 275 94 (mTq_fld (by decide))) u701.out)).out, (show Hid (w713 275 79 = w 275 79) from Hid.mk (Eq.trans (q715 275 79 (mTq_fld (by decide))) u691.out)).out, (show Hid (w713 275 80 = w 275 80) from Hid.mk (Eq.trans (q715 275 80 (mTq_fld (by decide))) u692.out)).out, (show Hid (w713 275 81 = w 275 81) from Hid.mk (Eq.trans (q715 275 81 (mTq_fld (by decide))) u693.out)).out]; exact ((show Hid (w673 275 88 = 0 → GB w713 N (w673 275 78 + 1) (w673 275 94) (w 275 79) (w 275 80) P (w 275 81) OW O) from Hid.mk (fun z => GB.pr ((show Hid (w673 275 88 = 0 → GB w687 N (w673 275 78 + 1) (w673 275 94) (w 275 79) (w 275 80) P (w 275 81) OW O) from Hid.mk (fun z => (GS.fin (GS.re ((show Hid (w673 275 88 = 0 → GS w673 N (w673 275 78) (w673 275 94) (w 275 79) (w 275 80) P (w 275 81) OW O (0 + 1 + 1)) from Hid.mk (fun z => (q675x.out z).1)).out (by omega)) rfl rfl rfl rfl rfl (show _ = 2 from by omega)) q689.out (by omega) (by omega) (by omega) (by omega) (by omega) (by unfold iOw; omega) (fun y => absurd y (by decide))))).out z) (prE.tk q715))).out (by omega)))⟩
            · exact absurd q715b (by decide)
          · refine e_Ok.nrm (q := 402) (st' := [(0, 0), (1, 275)]) rfl rfl ?_
            clear q711n
            refine e_Ok.callV rfl (Nat.le_trans (by decide) hdq) rfl rfl rfl rfl (c_334 (Nat.le_trans (by decide) hdq) c703.1 c703.2.1 c703.2.2.1 hNr c703.2.2.2.1 (by decide)) (fun r731 w732 h733 => ?_)
            obtain ⟨rfl, q734⟩ := h733
            obtain ⟨rfl, q734z⟩ | ⟨q734z, q734b, q734, q734s, q734t⟩ | ⟨q734z, q734b, q734, q734T, q734H, q734r⟩ := q734
            · refine e_Ok.nrm (q := 405) (st' := []) rfl rfl ?_
              rw [u700.out] at q734z
              clear q6753
              clear q6759
              refine e_Ok.rets rfl rfl ?_
              exact ⟨rfl, f702, c703, (by unfold stL; rw [u690.out, u691.out, u692.out, u693.out, u694.out, u695.out, u698.out, u700.out, u701.out]; omega), (fun z => by rw [u700.out] at z; exact absurd z (by omega))⟩
            · exact absurd q734b (by decide)
            · refine e_Ok.nrm (q := 405) (st' := []) rfl rfl ?_
              rw [u700.out] at q734z
              replace q6753 := q6753 (by omega)
              replace q6759 := q6759 (by omega)
              refine e_Ok.rets rfl rfl ?_
              exact ⟨rfl, (show e_fr (mStm (w 275 78) (w 275 79) (w 275 80) (w 275 94)) w w732 from e_fr.trans f702 (e_fr.mono q734 (fun c k g => mRf_St g))), (cSt.rf c703 q734 q734T q734H), (by unfold stL; rw [(show Hid (w732 275 78 = w673 275 78 + 1) from Hid.mk (Eq.trans (q734 275 78 (mRf_fld (by decide))) u690.out)).out, (show Hid (w732 275 79 = w 275 79) from Hid.mk (Eq.trans (q734 275 79 (mRf_fld (by decide))) u691.out)).out, (show Hid (w732 275 80 = w 275 80) from Hid.mk (Eq.trans (q734 275 80 (mRf_fld (by decide))) u692.out)).out, (show Hid (w732 275 81 = w 275 81) from Hid.mk (Eq.trans (q734 275 81 (mRf_fld (by decide))) u693.out)).out, (show Hid (w732 275 82 = w 275 82) from Hid.mk (Eq.trans (q734 275 82 (mRf_fld (by decide))) u694.out)).out, (show Hid (w732 275 83 = w673 275 83) from Hid.mk (Eq.trans (q734 275 83 (mRf_fld (by decide))) u695.out)).out, (show Hid (w732 275 86 = w673 275 86) from Hid.mk (Eq.trans (q734 275 86 (mRf_fld (by decide))) u698.out)).out, (show Hid (w732 275 94 = w673 275 94) from Hid.mk (Eq.trans (q734 275 94 (mRf_fld (by decide))) u701.out)).out]; omega), (fun z => absurd z (by omega))⟩
        · exact absurd q622b (by decide)
      · refine e_Ok.nrm (q := 206) (st' := [(0, 0), (1, 275)]) rfl rfl ?_
        clear q618n
        refine e_Ok.callV rfl (Nat.le_trans (by decide) hdq) rfl rfl rfl rfl (c_334 (Nat.le_trans (by decide) hdq) q603c.1 q603c.2.1 q603c.2.2.1 hNr q603c.2.2.2.1 (by decide)) (fun r748 w749 h750 => ?_)
        obtain ⟨rfl, q751⟩ := h750
        obtain ⟨rfl, q751z⟩ | ⟨q751z, q751b, q751, q751s, q751t⟩ | ⟨q751z, q751b, q751, q751T, q751H, q751r⟩ := q751
        · refine e_Ok.nrm (q := 209) (st' := []) rfl rfl ?_
          clear q6033
          clear q6039
          refine e_Ok.ps1 (x := (1, 275)) (q := 210) 1 rfl ?_
          refine e_Ok.callV rfl (Nat.le_trans (by decide) hdq) rfl rfl rfl rfl (c_339_0 (Nat.le_trans (by decide) hdq) q603c (by omega)) (fun r752 w753 h754 => ?_)
          obtain ⟨rfl, rfl⟩ := h754
          refine e_Ok.nrm (q := 213) (st' := []) rfl rfl ?_
          refine e_Ok.ps3 (x := (0, 0)) (y := (0, 35)) (z := (1, 275)) (q := 217) 3 rfl ?_
          refine e_Ok.callV rfl (Nat.le_trans (by decide) hdq) rfl rfl rfl rfl (c_336 q603c.1 (n := w601 275 78) rfl (by omega) (s := w 275 81) u606.out (by omega)) (fun r755 w756 h757 => ?_)
          obtain ⟨rfl, q758⟩ := h757
          replace q758 := (show Hid (EM w601 w756 (w601 275 78) 35 (0) (w 275 81)) from q758)
          have u759 : Hid (w756 275 78 = w601 275 78 + 1) := Hid.mk (Eq.trans q758.out.2.2.2.2 (by omega))
          have u769 : Hid (w756 275 88 = w601 275 88) := Hid.mk (q758.out.fld (by decide))
          have f771 : e_fr (mStm (w 275 78) (w 275 79) (w 275 80) (w 275 94)) w w756 := e_fr.trans f610 (q758.out.st (by omega))
          have c772 := cSt.em q603c q758.out (by decide) (by omega) (by omega)
          refine e_Ok.nrm (q := 220) (st' := [(0, w601 275 78)]) rfl rfl ?_
          refine e_Ok.run (t' := (399, [(2, (0, w 275 78 + 1)), (0, (1, 275)), (1, (0, key))], [(0, 59), (1, 275), (1, 275)], w756)) 5 rfl ?_
          refine e_Ok.callV rfl (Nat.le_trans (by decide) hdq) rfl rfl rfl rfl (c_331 c772.1 (N := N) c772.2.2.2.1) (fun r773 w774 h775 => ?_)
          obtain ⟨z776, rfl, rfl, q777⟩ := h775
          obtain ⟨rfl, q777, q777b⟩ | ⟨rfl, q777n⟩ := q777
          · refine e_Ok.nrm (q := 402) (st' := [(0, 1), (1, 275)]) rfl rfl ?_
            rw [(show Hid (w756 275 84 = w601 275 84) from Hid.mk (q758.out.fld (by decide))).out] at q777
            rw [(show Hid (w756 275 85 = w601 275 85) from Hid.mk (q758.out.fld (by decide))).out] at q777b
            refine e_Ok.callV rfl (Nat.le_trans (by decide) hdq) rfl rfl rfl rfl (c_334 (Nat.le_trans (by decide) hdq) c772.1 c772.2.1 c772.2.2.1 hNr c772.2.2.2.1 (by decide)) (fun r778 w779 h780 => ?_)
            obtain ⟨rfl, q781⟩ := h780
            obtain ⟨rfl, q781z⟩ | ⟨q781z, q781b, q781, q781s, q781t⟩ | ⟨q781z, q781b, q781, q781T, q781H, q781r⟩ := q781
            · show e_Ok 20 elay ecode eI (d + 1) 349 (405, [(2, (0, w 275 78 + 1)), (0, (1, 275)), (1, (0, key))], [], w756) _
              rw [u769.out] at q781z
              refine e_Ok.rets rfl rfl ?_
              exact ⟨rfl, f771, c772, (by unfold stL; rw [u759.out, (show Hid (w756 275 79 = w 275 79) from Hid.mk (Eq.trans (q758.out.fld (by decide)) u604.out)).out, (show Hid (w756 275 80 = w 275 80) from Hid.mk (Eq.trans (q758.out.fld (by decide)) u605.out)).out, (show Hid (w756 275 81 = w 275 81) from Hid.mk (Eq.trans (q758.out.fld (by decide)) u606.out)).out, (show Hid (w756 275 82 = w 275 82) from Hid.mk (Eq.trans (q758.out.fld (by decide)) u607.out)).out, (show Hid (w756 275 83 = w601 275 83) from Hid.mk (q758.out.fld (by decide))).out, (show Hid (w756 275 86 = w601 275 86) from Hid.mk (q758.out.fld (by decide))).out, u769.out, (show Hid (w756 275 94 = w601 275 94) from Hid.mk (q758.out.fld (by decide))).out]; omega), (fun z => by rw [u769.out] at z; exact absurd z (by omega))⟩
            · rw [u769.out] at q781z; exact absurd q781z (by omega)
            · rw [u769.out] at q781z; exact absurd q781z (by omega)
          · refine e_Ok.nrm (q := 402) (st' := [(0, 0), (1, 275)]) rfl rfl ?_
            clear q777n
            refine e_Ok.callV rfl (Nat.le_trans (by decide) hdq) rfl rfl rfl rfl (c_334 (Nat.le_trans (by decide) hdq) c772.1 c772.2.1 c772.2.2.1 hNr c772.2.2.2.1 (by decide)) (fun r782 w783 h784 => ?_)
            obtain ⟨rfl, q785⟩ := h784
            obtain ⟨rfl, q785z⟩ | ⟨q785z, q785b, q785, q785s, q785t⟩ | ⟨q785z, q785b, q785, q785T, q785H, q785r⟩ := q785
            · refine e_Ok.nrm (q := 405) (st' := []) rfl rfl ?_
              rw [u769.out] at q785z
              refine e_Ok.rets rfl rfl ?_
              exact ⟨rfl, f771, c772, (by unfold stL; rw [u759.out, (show Hid (w756 275 79 = w 275 79) from Hid.mk (Eq.trans (q758.out.fld (by decide)) u604.out)).out, (show Hid (w756 275 80 = w 275 80) from Hid.mk (Eq.trans (q758.out.fld (by decide)) u605.out)).out, (show Hid (w756 275 81 = w 275 81) from Hid.mk (Eq.trans (q758.out.fld (by decide)) u606.out)).out, (show Hid (w756 275 82 = w 275 82) from Hid.mk (Eq.trans (q758.out.fld (by decide)) u607.out)).out, (show Hid (w756 275 83 = w601 275 83) from Hid.mk (q758.out.fld (by decide))).out, (show Hid (w756 275 86 = w601 275 86) from Hid.mk (q758.out.fld (by decide))).out, u769.out, (show Hid (w756 275 94 = w601 275 94) from Hid.mk (q758.out.fld (by decide))).out]; omega), (fun z => by rw [u769.out] at z; exact absurd z (by omega))⟩
            · rw [u769.out] at q785z; exact absurd q785z (by omega)
            · rw [u769.out] at q785z; exact absurd q785z (by omega)
        · exact absurd q751b (by decide)
        · refine e_Ok.nrm (q := 209) (st' := []) rfl rfl ?_
          replace q6033 := q6033 (by omega)
          replace q6039 := q6039 (by omega)
          have c797 := cSt.rf q603c q751 q751T q751H
          refine e_Ok.ps1 (x := (1, 275)) (q := 210) 1 rfl ?_
          refine e_Ok.callV rfl (Nat.le_trans (by decide) hdq) rfl rfl rfl rfl (c_339_0 (Nat.le_trans (by decide) hdq) c797 (by omega)) (fun r799 w800 h801 => ?_)
          obtain ⟨rfl, rfl⟩ := h801
          refine e_Ok.nrm (q := 213) (st' := []) rfl rfl ?_
          refine e_Ok.ps3 (x := (0, 0)) (y := (0, 35)) (z := (1, 275)) (q := 217) 3 rfl ?_
          refine e_Ok.callV rfl (Nat.le_trans (by decide) hdq) rfl rfl rfl rfl (c_336 c797.1 (n := w601 275 78) (show Hid (w749 275 78 = w601 275 78) from Hid.mk (q751 275 78 (mRf_fld (by decide)))).out (by omega) (s := w 275 81) (show Hid (w749 275 81 = w 275 81) from Hid.mk (Eq.trans (q751 275 81 (mRf_fld (by decide))) u606.out)).out (by omega)) (fun r802 w803 h804 => ?_)
          obtain ⟨rfl, q805⟩ := h804
          replace q805 := (show Hid (EM w749 w803 (w601 275 78) 35 (0) (w 275 81)) from q805)
          have u806 : Hid (w803 275 78 = w601 275 78 + 1) := Hid.mk (Eq.trans q805.out.2.2.2.2 (by omega))
          have u816 : Hid (w803 275 88 = w749 275 88) := Hid.mk (q805.out.fld (by decide))
          have f818 : e_fr (mStm (w 275 78) (w 275 79) (w 275 80) (w 275 94)) w w803 := e_fr.trans (show e_fr (mStm (w 275 78) (w 275 79) (w 275 80) (w 275 94)) w w749 from e_fr.trans f610 (e_fr.mono q751 (fun c k g => mRf_St g))) (q805.out.st (by omega))
          have c819 := cSt.em c797 q805.out (by decide) (by omega) (by omega)
          refine e_Ok.nrm (q := 220) (st' := [(0, w601 275 78)]) rfl rfl ?_
          refine e_Ok.run (t' := (399, [(2, (0, w 275 78 + 1)), (0, (1, 275)), (1, (0, key))], [(0, 59), (1, 275), (1, 275)], w803)) 5 rfl ?_
          refine e_Ok.callV rfl (Nat.le_trans (by decide) hdq) rfl rfl rfl rfl (c_331 c819.1 (N := N) c819.2.2.2.1) (fun r820 w821 h822 => ?_)
          obtain ⟨z823, rfl, rfl, q824⟩ := h822
          obtain ⟨rfl, q824, q824b⟩ | ⟨rfl, q824n⟩ := q824
          · refine e_Ok.nrm (q := 402) (st' := [(0, 1), (1, 275)]) rfl rfl ?_
            rw [(show Hid (w803 275 84 = w601 275 84) from Hid.mk (Eq.trans (q805.out.fld (by decide)) (show Hid (w749 275 84 = w601 275 84) from Hid.mk (q751 275 84 (mRf_fld (by decide)))).out)).out] at q824
            rw [(show Hid (w803 275 85 = w601 275 85) from Hid.mk (Eq.trans (q805.out.fld (by decide)) (show Hid (w749 275 85 = w601 275 85) from Hid.mk (q751 275 85 (mRf_fld (by decide)))).out)).out] at q824b
            refine e_Ok.callV rfl (Nat.le_trans (by decide) hdq) rfl rfl rfl rfl (c_334 (Nat.le_trans (by decide) hdq) c819.1 c819.2.1 c819.2.2.1 hNr c819.2.2.2.1 (by decide)) (fun r825 w826 h827 => ?_)
            obtain ⟨rfl, q828⟩ := h827
            obtain ⟨rfl, q828z⟩ | ⟨q828z, q828b, q828, q828s, q828t⟩ | ⟨q828z, q828b, q828, q828T, q828H, q828r⟩ := q828
            · show e_Ok 20 elay ecode eI (d + 1) 349 (405, [(2, (0, w 275 78 + 1)), (0, (1, 275)), (1, (0, key))], [], w803) _
              rw [u816.out] at q828z
              refine e_Ok.rets rfl rfl ?_
              exact ⟨rfl, f818, c819, (by unfold stL; rw [u806.out, (show Hid (w803 275 79 = w 275 79) from Hid.mk (Eq.trans (q805.out.fld (by decide)) (show Hid (w749 275 79 = w 275 79) from Hid.mk (Eq.trans (q751 275 79 (mRf_fld (by decide))) u604.out)).out)).out, (show Hid (w803 275 80 = w 275 80) from Hid.mk (Eq.trans (q805.out.fld (by decide)) (show Hid (w749 275 80 = w 275 80) from Hid.mk (Eq.trans (q751 275 80 (mRf_fld (by decide))) u605.out)).out)).out, (show Hid (w803 275 81 = w 275 81) from Hid.mk (Eq.trans (q805.out.fld (by decide)) (show Hid (w749 275 81 = w 275 81) from Hid.mk (Eq.trans (q751 275 81 (mRf_fld (by decide))) u606.out)).out)).out, (show Hid (w803 275 82 = w 275 82) from Hid.mk (Eq.trans (q805.out.fld (by decide)) (show Hid (w749 275 82 = w 275 82) from Hid.mk (Eq.trans (q751 275 82 (mRf_fld (by decide))) u607.out)).out)).out, (show Hid (w803 275 83 = w601 275 83) from Hid.mk (Eq.trans (q805.out.fld (by decide)) (show Hid (w749 275 83 = w601 275 83) from Hid.mk (q751 275 83 (mRf_fld (by decide)))).out)).out, (show Hid (w803 275 86 = w601 275 86) from Hid.mk (Eq.trans (q805.out.fld (by decide)) (show Hid (w749 275 86 = w601 275 86) from Hid.mk (q751 275 86 (mRf_fld (by decide)))).out)).out, u816.out, (show Hid (w803 275 94 = w601 275 94) from Hid.mk (Eq.trans (q805.out.fld (by decide)) (show Hid (w749 275 94 = w601 275 94) from Hid.mk (q751 275 94 (mRf_fld (by decide)))).out)).out]; omega), (fun z => by rw [u816.out] at z; exact absurd z (by omega))⟩
            · rw [u816.out] at q828z; exact absurd q828z (by omega)
            · rw [u816.out] at q828z; exact absurd q828z (by omega)
          · refine e_Ok.nrm (q := 402) (st' := [(0, 0), (1, 275)]) rfl rfl ?_
            clear q824n
            refine e_Ok.callV rfl (Nat.le_trans (by decide) hdq) rfl rfl rfl rfl (c_334 (Nat.le_trans (by decide) hdq) c819.1 c819.2.1 c819.2.2.1 hNr c819.2.2.2.1 (by decide)) (fun r829 w830 h831 => ?_)
            obtain ⟨rfl, q832⟩ := h831
            obtain ⟨rfl, q832z⟩ | ⟨q832z, q832b, q832, q832s, q832t⟩ | ⟨q832z, q832b, q832, q832T, q832H, q832r⟩ := q832
            · refine e_Ok.nrm (q := 405) (st' := []) rfl rfl ?_
              rw [u816.out] at q832z
              refine e_Ok.rets rfl rfl ?_
              exact ⟨rfl, f818, c819, (by unfold stL; rw [u806.out, (show Hid (w803 275 79 = w 275 79) from Hid.mk (Eq.trans (q805.out.fld (by decide)) (show Hid (w749 275 79 = w 275 79) from Hid.mk (Eq.trans (q751 275 79 (mRf_fld (by decide))) u604.out)).out)).out, (show Hid (w803 275 80 = w 275 80) from Hid.mk (Eq.trans (q805.out.fld (by decide)) (show Hid (w749 275 80 = w 275 80) from Hid.mk (Eq.trans (q751 275 80 (mRf_fld (by decide))) u605.out)).out)).out, (show Hid (w803 275 81 = w 275 81) from Hid.mk (Eq.trans (q805.out.fld (by decide)) (show Hid (w749 275 81 = w 275 81) from Hid.mk (Eq.trans (q751 275 81 (mRf_fld (by decide))) u606.out)).out)).out, (show Hid (w803 275 82 = w 275 82) from Hid.mk (Eq.trans (q805.out.fld (by decide)) (show Hid (w749 275 82 = w 275 82) from Hid.mk (Eq.trans (q751 275 82 (mRf_fld (by decide))) u607.out)).out)).out, (show Hid (w803 275 83 = w601 275 83) from Hid.mk (Eq.trans (q805.out.fld (by decide)) (show Hid (w749 275 83 = w601 275 83) from Hid.mk (q751 275 83 (mRf_fld (by decide)))).out)).out, (show Hid (w803 275 86 = w601 275 86) from Hid.mk (Eq.trans (q805.out.fld (by decide)) (show Hid (w749 275 86 = w601 275 86) from Hid.mk (q751 275 86 (mRf_fld (by decide)))).out)).out, u816.out, (show Hid (w803 275 94 = w601 275 94) from Hid.mk (Eq.trans (q805.out.fld (by decide)) (show Hid (w749 275 94 = w601 275 94) from Hid.mk (q751 275 94 (mRf_fld (by decide)))).out)).out]; omega), (fun z => by rw [u816.out] at z; exact absurd z (by omega))⟩
            · rw [u816.out] at q832z; exact absurd q832z (by omega)
            · rw [u816.out] at q832z; exact absurd q832z (by omega)
    · refine e_Ok.sw (tg := 224) rfl (by rw [h44]; rfl) ?_
      refine e_Ok.run (t' := (230, [(2, (0, w 275 78 + 1)), (0, (1, 275)), (1, (0, key))], [(0, 0), (0, 38), (1, 275), (0, 3), (1, 275)], w24)) 5 rfl ?_
      refine e_Ok.callV rfl (Nat.le_trans (by decide) hdq) rfl rfl rfl rfl (c_336 c37.1 (n := w 275 78 + 1) u29.out (by omega) (s := w 275 81) u32.out (by omega)) (fun r833 w834 h835 => ?_)
      obtain ⟨rfl, q836⟩ := h835
      replace q836 := (show Hid (EM w24 w834 (w 275 78 + 1) 38 (0) (w 275 81)) from q836)
      have u837 : Hid (w834 275 78 = w 275 78 + 2) := Hid.mk (Eq.trans q836.out.2.2.2.2 (by omega))
      have u845 : Hid (w834 275 86 = w24 275 86) := Hid.mk (q836.out.fld (by decide))
      have u847 : Hid (w834 275 88 = w 275 88) := Hid.mk (Eq.trans (q836.out.fld (by decide)) u35.out)
      have f849 : e_fr (mStm (w 275 78) (w 275 79) (w 275 80) (w 275 94)) w w834 := e_fr.trans f40 (q836.out.st (by omega))
      have c850 := cSt.em c37 q836.out (by decide) (by omega) (by omega)
      refine e_Ok.nrm (q := 233) (st' := [(0, w 275 78 + 1), (0, 3), (1, 275)]) rfl rfl ?_
      refine e_Ok.callV rfl (Nat.le_trans (by decide) hdq) rfl rfl rfl rfl (c_338 (Nat.le_trans (by decide) hdq) c850.1 c850.2.1 c850.2.2.1 hNr c850.2.2.2.1 (mm := w 275 94) (show Hid (w834 275 94 = w 275 94) from Hid.mk (Eq.trans (q836.out.fld (by decide)) u36.out)).out (by omega) (by decide) (by omega)) (fun r853 w854 h855 => ?_)
      obtain ⟨rfl, q856⟩ := h855
      obtain ⟨rfl, q856z⟩ | ⟨q856z, q856k, q856, q856T, q856H, q856r⟩ | ⟨q856z, q856k, w857, q856F, q856T, q856H, q856v, q856o, q856, q856s, q856t⟩ := q856
      · rw [u847.out] at q856z; exact absurd q856z (by omega)
      · refine e_Ok.nrm (q := 236) (st' := []) rfl rfl ?_
        rw [u847.out] at q856z
        clear q856k
        have c869 := cSt.rf c850 q856 q856T q856H
        have f870 : e_fr (mStm (w 275 78) (w 275 79) (w 275 80) (w 275 94)) w w854 := e_fr.trans f849 (e_fr.mono q856 (fun c k g => mRf_St g))
        refine e_Ok.run (t' := (399, [(2, (0, w 275 78 + 1)), (0, (1, 275)), (1, (0, key))], [(0, 59), (1, 275), (1, 275)], w854)) 4 rfl ?_
        refine e_Ok.callV rfl (Nat.le_trans (by decide) hdq) rfl rfl rfl rfl (c_331 c869.1 (N := N) c869.2.2.2.1) (fun r871 w872 h873 => ?_)
        obtain ⟨z874, rfl, rfl, q875⟩ := h873
        obtain ⟨rfl, q875, q875b⟩ | ⟨rfl, q875n⟩ := q875
        · refine e_Ok.nrm (q := 402) (st' := [(0, 1), (1, 275)]) rfl rfl ?_
          rw [(show Hid (w854 275 84 = w24 275 84) from Hid.mk (Eq.trans (q856 275 84 (mRf_fld (by decide))) (show Hid (w834 275 84 = w24 275 84) from Hid.mk (q836.out.fld (by decide))).out)).out] at q875
          rw [(show Hid (w854 275 85 = w24 275 85) from Hid.mk (Eq.trans (q856 275 85 (mRf_fld (by decide))) (show Hid (w834 275 85 = w24 275 85) from Hid.mk (q836.out.fld (by decide))).out)).out] at q875b
          refine e_Ok.callV rfl (Nat.le_trans (by decide) hdq) rfl rfl rfl rfl (c_334 (Nat.le_trans (by decide) hdq) c869.1 c869.2.1 c869.2.2.1 hNr c869.2.2.2.1 (by decide)) (fun r876 w877 h878 => ?_)
          obtain ⟨rfl, q879⟩ := h878
          obtain ⟨rfl, q879z⟩ | ⟨q879z, q879b, q879, q879s, q879t⟩ | ⟨q879z, q879b, q879, q879T, q879H, q879r⟩ := q879
          · show e_Ok 20 elay ecode eI (d + 1) 349 (405, [(2, (0, w 275 78 + 1)), (0, (1, 275)), (1, (0, key))], [], w854) _
            refine e_Ok.rets rfl rfl ?_
            exact ⟨rfl, f870, c869, (by unfold stL; rw [(show Hid (w854 275 78 = w 275 78 + 2) from Hid.mk (Eq.trans (q856 275 78 (mRf_fld (by decide))) u837.out)).out, (show Hid (w854 275 79 = w 275 79) from Hid.mk (Eq.trans (q856 275 79 (mRf_fld (by decide))) (show Hid (w834 275 79 = w 275 79) from Hid.mk (Eq.trans (q836.out.fld (by decide)) u30.out)).out)).out, (show Hid (w854 275 80 = w 275 80) from Hid.mk (Eq.trans (q856 275 80 (mRf_fld (by decide))) (show Hid (w834 275 80 = w 275 80) from Hid.mk (Eq.trans (q836.out.fld (by decide)) u31.out)).out)).out, (show Hid (w854 275 81 = w 275 81) from Hid.mk (Eq.trans (q856 275 81 (mRf_fld (by decide))) (show Hid (w834 275 81 = w 275 81) from Hid.mk (Eq.trans (q836.out.fld (by decide)) u32.out)).out)).out, (show Hid (w854 275 82 = w 275 82) from Hid.mk (Eq.trans (q856 275 82 (mRf_fld (by decide))) (show Hid (w834 275 82 = w 275 82) from Hid.mk (Eq.trans (q836.out.fld (by decide)) u33.out)).out)).out, (show Hid (w854 275 83 = w 275 83) from Hid.mk (Eq.trans (q856 275 83 (mRf_fld (by decide))) (show Hid (w834 275 83 = w 275 83) from Hid.mk (Eq.trans (q836.out.fld (by decide)) u34.out)).out)).out, (show Hid (w854 275 86 = w24 275 86) from Hid.mk (Eq.trans (q856 275 86 (mRf_fld (by decide))) u845.out)).out, (show Hid (w854 275 94 = w 275 94) from Hid.mk (Eq.trans (q856 275 94 (mRf_fld (by decide))) (show Hid (w834 275 94 = w 275 94) from Hid.mk (Eq.trans (q836.out.fld (by decide)) u36.out)).out)).out]; omega), (fun z => absurd z (by omega))⟩
          · exact absurd q879z (by omega)
          · exact absurd q879z (by omega)
        · refine e_Ok.nrm (q := 402) (st' := [(0, 0), (1, 275)]) rfl rfl ?_
          clear q875n
          refine e_Ok.callV rfl (Nat.le_trans (by decide) hdq) rfl rfl rfl rfl (c_334 (Nat.le_trans (by decide) hdq) c869.1 c869.2.1 c869.2.2.1 hNr c869.2.2.2.1 (by decide)) (fun r880 w881 h882 => ?_)
          obtain ⟨rfl, q883⟩ := h882
          obtain ⟨rfl, q883z⟩ | ⟨q883z, q883b, q883, q883s, q883t⟩ | ⟨q883z, q883b, q883, q883T, q883H, q883r⟩ := q883
          · refine e_Ok.nrm (q := 405) (st' := []) rfl rfl ?_
            refine e_Ok.rets rfl rfl ?_
            exact ⟨rfl, f870, c869, (by unfold stL; rw [(show Hid (w854 275 78 = w 275 78 + 2) from Hid.mk (Eq.trans (q856 275 78 (mRf_fld (by decide))) u837.out)).out, (show Hid (w854 275 79 = w 275 79) from Hid.mk (Eq.trans (q856 275 79 (mRf_fld (by decide))) (show Hid (w834 275 79 = w 275 79) from Hid.mk (Eq.trans (q836.out.fld (by decide)) u30.out)).out)).out, (show Hid (w854 275 80 = w 275 80) from Hid.mk (Eq.trans (q856 275 80 (mRf_fld (by decide))) (show Hid (w834 275 80 = w 275 80) from Hid.mk (Eq.trans (q836.out.fld (by decide)) u31.out)).out)).out, (show Hid (w854 275 81 = w 275 81) from Hid.mk (Eq.trans (q856 275 81 (mRf_fld (by decide))) (show Hid (w834 275 81 = w 275 81) from Hid.mk (Eq.trans (q836.out.fld (by decide)) u32.out)).out)).out, (show Hid (w854 275 82 = w 275 82) from Hid.mk (Eq.trans (q856 275 82 (mRf_fld (by decide))) (show Hid (w834 275 82 = w 275 82) from Hid.mk (Eq.trans (q836.out.fld (by decide)) u33.out)).out)).out, (show Hid (w854 275 83 = w 275 83) from Hid.mk (Eq.trans (q856 275 83 (mRf_fld (by decide))) (show Hid (w834 275 83 = w 275 83) from Hid.mk (Eq.trans (q836.out.fld (by decide)) u34.out)).out)).out, (show Hid (w854 275 86 = w24 275 86) from Hid.mk (Eq.trans (q856 275 86 (mRf_fld (by decide))) u845.out)).out, (show Hid (w854 275 94 = w 275 94) from Hid.mk (Eq.trans (q856 275 94 (mRf_fld (by decide))) (show Hid (w834 275 94 = w 275 94) from Hid.mk (Eq.trans (q836.out.fld (by decide)) u36.out)).out)).out]; omega), (fun z => absurd z (by omega))⟩
          · exact absurd q883z (by omega)
          · exact absurd q883z (by omega)
      · refine e_Ok.nrm (q := 236) (st' := []) rfl rfl ?_
        rw [u847.out] at q856z
        rw [(show Hid (w834 275 84 = w24 275 84) from Hid.mk (q836.out.fld (by decide))).out] at q856k
        rw [(show Hid (w834 275 87 = w24 275 87) from Hid.mk (q836.out.fld (by decide))).out] at q856t
        have p884 := tkS.pos c850.2.2.2.1 (by rw [(show Hid (w834 275 84 = w24 275 84) from Hid.mk (q836.out.fld (by decide))).out] <;> omega)
        rw [u845.out, (show Hid (w834 275 87 = w24 275 87) from Hid.mk (q836.out.fld (by decide))).out] at p884
        obtain ⟨q856v1, q856v2, q856v3, q856v4, q856v5⟩ := q856v
        rw [u845.out] at q856v2
        rw [u845.out, (show Hid (w834 275 87 = w24 275 87) from Hid.mk (q836.out.fld (by decide))).out] at q856v3
        replace q856v1 := (show Hid _ from q856v1)
        replace q856v2 := (show Hid _ from q856v2)
        replace q856v3 := (show Hid _ from q856v3)
        replace q856v4 := (show Hid _ from q856v4)
        replace q856v5 := (show Hid _ from q856v5)
        replace q856o := (show Hid _ from q856o)
        have u906 : Hid (w854 275 88 = w 275 88) := Hid.mk (Eq.trans (q856 275 88 (mTq_fld (by decide))) (show Hid (w857 275 88 = w 275 88) from Hid.mk (Eq.trans (q856F 275 88 (mNm_fld (by decide))) u847.out)).out)
        have c908 := cSt.tk (cSt.nm c850 q856F) q856 q856s
        have t909 := tkS.lin c908.2.2.2.1
        have f910 : e_fr (mStm (w 275 78) (w 275 79) (w 275 80) (w 275 94)) w w854 := e_fr.trans (show e_fr (mStm (w 275 78) (w 275 79) (w 275 80) (w 275 94)) w w857 from e_fr.trans f849 (fun c k g => q856o.out c k (fun g2 => g (by unfold mStm; omega)))) (e_fr.mono q856 (fun c k g => mTq_St g))
        refine e_Ok.run (t' := (399, [(2, (0, w 275 78 + 1)), (0, (1, 275)), (1, (0, key))], [(0, 59), (1, 275), (1, 275)], w854)) 4 rfl ?_
        refine e_Ok.callV rfl (Nat.le_trans (by decide) hdq) rfl rfl rfl rfl (c_331 c908.1 (N := N) c908.2.2.2.1) (fun r912 w913 h914 => ?_)
        obtain ⟨z915, rfl, rfl, q916⟩ := h914
        obtain ⟨rfl, q916, q916b⟩ | ⟨rfl, q916n⟩ := q916
        · refine e_Ok.nrm (q := 402) (st' := [(0, 1), (1, 275)]) rfl rfl ?_
          refine e_Ok.callV rfl (Nat.le_trans (by decide) hdq) rfl rfl rfl rfl (c_334 (Nat.le_trans (by decide) hdq) c908.1 c908.2.1 c908.2.2.1 hNr c908.2.2.2.1 (by decide)) (fun r917 w918 h919 => ?_)
          obtain ⟨rfl, q920⟩ := h919
          obtain ⟨rfl, q920z⟩ | ⟨q920z, q920b, q920, q920s, q920t⟩ | ⟨q920z, q920b, q920, q920T, q920H, q920r⟩ := q920
          · rw [u906.out] at q920z; exact absurd q920z (by omega)
          · refine e_Ok.nrm (q := 405) (st' := []) rfl rfl ?_
            rw [u906.out] at q920z
            have p921 := tkS.pos c908.2.2.2.1 (by omega)
            have c930 := cSt.tk c908 q920 q920s
            have t931 := tkS.lin c930.2.2.2.1
            refine e_Ok.rets rfl rfl ?_
            exact ⟨rfl, (show e_fr (mStm (w 275 78) (w 275 79) (w 275 80) (w 275 94)) w w918 from e_fr.trans f910 (e_fr.mono q920 (fun c k g => mTq_St g))), c930, (by unfold stL; rw [(show Hid (w918 275 78 = w 275 78 + 2) from Hid.mk (Eq.trans (q920 275 78 (mTq_fld (by decide))) (show Hid (w854 275 78 = w 275 78 + 2) from Hid.mk (Eq.trans (q856 275 78 (mTq_fld (by decide))) (show Hid (w857 275 78 = w 275 78 + 2) from Hid.mk (Eq.trans (q856F 275 78 (mNm_fld (by decide))) u837.out)).out)).out)).out, (show Hid (w918 275 79 = w 275 79) from Hid.mk (Eq.trans (q920 275 79 (mTq_fld (by decide))) (show Hid (w854 275 79 = w 275 79) from Hid.mk (Eq.trans (q856 275 79 (mTq_fld (by decide))) (show Hid (w857 275 79 = w 275 79) from Hid.mk (Eq.trans (q856F 275 79 (mNm_fld (by decide))) (show Hid (w834 275 79 = w 275 79) from Hid.mk (Eq.trans (q836.out.fld (by decide)) u30.out)).out)).out)).out)).out, (show Hid (w918 275 80 = w 275 80) from Hid.mk (Eq.trans (q920 275 80 (mTq_fld (by decide))) (show Hid (w854 275 80 = w 275 80) from Hid.mk (Eq.trans (q856 275 80 (mTq_fld (by decide))) (show Hid (w857 275 80 = w 275 80) from Hid.mk (Eq.trans (q856F 275 80 (mNm_fld (by decide))) (show Hid (w834 275 80 = w 275 80) from Hid.mk (Eq.trans (q836.out.fld (by decide)) u31.out)).out)).out)).out)).out, (show Hid (w918 275 81 = w 275 81) from Hid.mk (Eq.trans (q920 275 81 (mTq_fld (by decide))) (show Hid (w854 275 81 = w 275 81) from Hid.mk (Eq.trans (q856 275 81 (mTq_fld (by decide))) (show Hid (w857 275 81 = w 275 81) from Hid.mk (Eq.trans (q856F 275 81 (mNm_fld (by decide))) (show Hid (w834 275 81 = w 275 81) from Hid.mk (Eq.trans (q836.out.fld (by decide)) u32.out)).out)).out)).out)).out, (show Hid (w918 275 82 = w 275 82) from Hid.mk (Eq.trans (q920 275 82 (mTq_fld (by decide))) (show Hid (w854 275 82 = w 275 82) from Hid.mk (Eq.trans (q856 275 82 (mTq_fld (by decide))) (show Hid (w857 275 82 = w 275 82) from Hid.mk (Eq.trans (q856F 275 82 (mNm_fld (by decide))) (show Hid (w834 275 82 = w 275 82) from Hid.mk (Eq.trans (q836.out.fld (by decide)) u33.out)).out)).out)).out)).out, (show Hid (w918 275 83 = w 275 83) from Hid.mk (Eq.trans (q920 275 83 (mTq_fld (by decide))) (show Hid (w854 275 83 = w 275 83) from Hid.mk (Eq.trans (q856 275 83 (mTq_fld (by decide))) (show Hid (w857 275 83 = w 275 83) from Hid.mk (Eq.trans (q856F 275 83 (mNm_fld (by decide))) (show Hid (w834 275 83 = w 275 83) from Hid.mk (Eq.trans (q836.out.fld (by decide)) u34.out)).out)).out)).out)).out, (show Hid (w918 275 88 = w 275 88) from Hid.mk (Eq.trans (q920 275 88 (mTq_fld (by decide))) u906.out)).out, (show Hid (w918 275 94 = w 275 94 + 1) from Hid.mk (Eq.trans (q920 275 94 (mTq_fld (by decide))) (show Hid (w854 275 94 = w 275 94 + 1) from Hid.mk (Eq.trans (q856 275 94 (mTq_fld (by decide))) (show Hid (w857 275 94 = w 275 94 + 1) from Hid.mk (Eq.trans q856v5.out (by omega))).out)).out)).out]; omega), (fun z => by rw [(show Hid (w918 275 88 = w 275 88) from Hid.mk (Eq.trans (q920 275 88 (mTq_fld (by decide))) u906.out)).out] at z; rw [(show Hid (w918 275 78 = w 275 78 + 2) from Hid.mk (Eq.trans (q920 275 78 (mTq_fld (by decide))) (show Hid (w854 275 78 = w 275 78 + 2) from Hid.mk (Eq.trans (q856 275 78 (mTq_fld (by decide))) (show Hid (w857 275 78 = w 275 78 + 2) from Hid.mk (Eq.trans (q856F 275 78 (mNm_fld (by decide))) u837.out)).out)).out)).out, (show Hid (w918 275 94 = w 275 94 + 1) from Hid.mk (Eq.trans (q920 275 94 (mTq_fld (by decide))) (show Hid (w854 275 94 = w 275 94 + 1) from Hid.mk (Eq.trans (q856 275 94 (mTq_fld (by decide))) (show Hid (w857 275 94 = w 275 94 + 1) from Hid.mk (Eq.trans q856v5.out (by omega))).out)).out)).out, (show Hid (w918 275 79 = w 275 79) from Hid.mk (Eq.trans (q920 275 79 (mTq_fld (by decide))) (show Hid (w854 275 79 = w 275 79) from Hid.mk (Eq.trans (q856 275 79 (mTq_fld (by decide))) (show Hid (w857 275 79 = w 275 79) from Hid.mk (Eq.trans (q856F 275 79 (mNm_fld (by decide))) (show Hid (w834 275 79 = w 275 79) from Hid.mk (Eq.trans (q836.out.fld (by decide)) u30.out)).out)).out)).out)).out, (show Hid (w918 275 80 = w 275 80) from Hid.mk (Eq.trans (q920 275 80 (mTq_fld (by decide))) (show Hid (w854 275 80 = w 275 80) from Hid.mk (Eq.trans (q856 275 80 (mTq_fld (by decide))) (show Hid (w857 275 80 = w 275 80) from Hid.mk (Eq.trans (q856F 275 80 (mNm_fld (by decide))) (show Hid (w834 275 80 = w 275 80) from Hid.mk (Eq.trans (q836.out.fld (by decide)) u31.out)).out)).out)).out)).out, (show Hid (w918 275 81 = w 275 81) from Hid.mk (Eq.trans (q920 275 81 (mTq_fld (by decide))) (show Hid (w854 275 81 = w 275 81) from Hid.mk (Eq.trans (q856 275 81 (mTq_fld (by decide))) (show Hid (w857 275 81 = w 275 81) from Hid.mk (Eq.trans (q856F 275 81 (mNm_fld (by decide))) (show Hid (w834 275 81 = w 275 81) from Hid.mk (Eq.trans (q836.out.fld (by decide)) u32.out)).out)).out)).out)).out]; exact ((show Hid (w 275 88 = 0 → GB w918 N (w 275 78 + 2) (w 275 94 + 1) (w 275 79) (w 275 80) P (w 275 81) OW O) from Hid.mk (fun z => GB.pr ((show Hid (w 275 88 = 0 → GB w854 N (w 275 78 + 2) (w 275 94 + 1) (w 275 79) (w 275 80) P (w 275 81) OW O) from Hid.mk (fun z => GB.pr ((show Hid (w 275 88 = 0 → GB w857 N (w 275 78 + 2) (w 275 94 + 1) (w 275 79) (w 275 80) P (w 275 81) OW O) from Hid.mk (fun z => (GB.re (GS.call (ta := w24 275 86) (te := w24 275 87) (GA.gs (g41.out (by omega))) q836.out (by omega) (by unfold iOw; omega) ⟨q856v1.out, q856v2.out, q856v3.out, Eq.trans q856v4.out (show _ = w 275 78 + 1 from by omega)⟩ q856o.out (by omega) hNr.2) (show _ = w 275 78 + 2 from by omega) rfl rfl rfl rfl))).out z) (prE.tk q856))).out z) (prE.tk q920))).out (by omega)))⟩
          · exact absurd q920b (by decide)
        · refine e_Ok.nrm (q := 402) (st' := [(0, 0), (1, 275)]) rfl rfl ?_
          clear q916n
          refine e_Ok.callV rfl (Nat.le_trans (by decide) hdq) rfl rfl rfl rfl (c_334 (Nat.le_trans (by decide) hdq) c908.1 c908.2.1 c908.2.2.1 hNr c908.2.2.2.1 (by decide)) (fun r934 w935 h936 => ?_)
          obtain ⟨rfl, q937⟩ := h936
          obtain ⟨rfl, q937z⟩ | ⟨q937z, q937b, q937, q937s, q937t⟩ | ⟨q937z, q937b, q937, q937T, q937H, q937r⟩ := q937
          · rw [u906.out] at q937z; exact absurd q937z (by omega)
          · exact absurd q937b (by decide)
          · refine e_Ok.nrm (q := 405) (st' := []) rfl rfl ?_
            rw [u906.out] at q937z
            refine e_Ok.rets rfl rfl ?_
            exact ⟨rfl, (show e_fr (mStm (w 275 78) (w 275 79) (w 275 80) (w 275 94)) w w935 from e_fr.trans f910 (e_fr.mono q937 (fun c k g => mRf_St g))), (cSt.rf c908 q937 q937T q937H), (by unfold stL; rw [(show Hid (w935 275 78 = w 275 78 + 2) from Hid.mk (Eq.trans (q937 275 78 (mRf_fld (by decide))) (show Hid (w854 275 78 = w 275 78 + 2) from Hid.mk (Eq.trans (q856 275 78 (mTq_fld (by decide))) (show Hid (w857 275 78 = w 275 78 + 2) from Hid.mk (Eq.trans (q856F 275 78 (mNm_fld (by decide))) u837.out)).out)).out)).out, (show Hid (w935 275 79 = w 275 79) from Hid.mk (Eq.trans (q937 275 79 (mRf_fld (by decide))) (show Hid (w854 275 79 = w 275 79) from Hid.mk (Eq.trans (q856 275 79 (mTq_fld (by decide))) (show Hid (w857 275 79 = w 275 79) from Hid.mk (Eq.trans (q856F 275 79 (mNm_fld (by decide))) (show Hid (w834 275 79 = w 275 79) from Hid.mk (Eq.trans (q836.out.fld (by decide)) u30.out)).out)).out)).out)).out, (show Hid (w935 275 80 = w 275 80) from Hid.mk (Eq.trans (q937 275 80 (mRf_fld (by decide))) (show Hid (w854 275 80 = w 275 80) from Hid.mk (Eq.trans (q856 275 80 (mTq_fld (by decide))) (show Hid (w857 275 80 = w 275 80) from Hid.mk (Eq.trans (q856F 275 80 (mNm_fld (by decide))) (show Hid (w834 275 80 = w 275 80) from Hid.mk (Eq.trans (q836.out.fld (by decide)) u31.out)).out)).out)).out)).out, (show Hid (w935 275 81 = w 275 81) from Hid.mk (Eq.trans (q937 275 81 (mRf_fld (by decide))) (show Hid (w854 275 81 = w 275 81) from Hid.mk (Eq.trans (q856 275 81 (mTq_fld (by decide))) (show Hid (w857 275 81 = w 275 81) from Hid.mk (Eq.trans (q856F 275 81 (mNm_fld (by decide))) (show Hid (w834 275 81 = w 275 81) from Hid.mk (Eq.trans (q836.out.fld (by decide)) u32.out)).out)).out)).out)).out, (show Hid (w935 275 82 = w 275 82) from Hid.mk (Eq.trans (q937 275 82 (mRf_fld (by decide))) (show Hid (w854 275 82 = w 275 82) from Hid.mk (Eq.trans (q856 275 82 (mTq_fld (by decide))) (show Hid (w857 275 82 = w 275 82) from Hid.mk (Eq.trans (q856F 275 82 (mNm_fld (by decide))) (show Hid (w834 275 82 = w 275 82) from Hid.mk (Eq.trans (q836.out.fld (by decide)) u33.out)).out)).out)).out)).out, (show Hid (w935 275 83 = w 275 83) from Hid.mk (Eq.trans (q937 275 83 (mRf_fld (by decide))) (show Hid (w854 275 83 = w 275 83) from Hid.mk (Eq.trans (q856 275 83 (mTq_fld (by decide))) (show Hid (w857 275 83 = w 275 83) from Hid.mk (Eq.trans (q856F 275 83 (mNm_fld (by decide))) (show Hid (w834 275 83 = w 275 83) from Hid.mk (Eq.trans (q836.out.fld (by decide)) u34.out)).out)).out)).out)).out, (show Hid (w935 275 86 = w854 275 86) from Hid.mk (q937 275 86 (mRf_fld (by decide)))).out, (show Hid (w935 275 94 = w 275 94 + 1) from Hid.mk (Eq.trans (q937 275 94 (mRf_fld (by decide))) (show Hid (w854 275 94 = w 275 94 + 1) from Hid.mk (Eq.trans (q856 275 94 (mTq_fld (by decide))) (show Hid (w857 275 94 = w 275 94 + 1) from Hid.mk (Eq.trans q856v5.out (by omega))).out)).out)).out]; omega), (fun z => absurd z (by omega))⟩
    · refine e_Ok.sw (tg := 239) rfl (by rw [h44]; rfl) ?_
      refine e_Ok.run (t' := (245, [(2, (0, w 275 78 + 1)), (0, (1, 275)), (1, (0, key))], [(0, 0), (0, 39), (1, 275), (0, 3), (1, 275)], w24)) 5 rfl ?_
      refine e_Ok.callV rfl (Nat.le_trans (by decide) hdq) rfl rfl rfl rfl (c_336 c37.1 (n := w 275 78 + 1) u29.out (by omega) (s := w 275 81) u32.out (by omega)) (fun r951 w952 h953 => ?_)
      obtain ⟨rfl, q954⟩ := h953
      replace q954 := (show Hid (EM w24 w952 (w 275 78 + 1) 39 (0) (w 275 81)) from q954)
      have u955 : Hid (w952 275 78 = w 275 78 + 2) := Hid.mk (Eq.trans q954.out.2.2.2.2 (by omega))
      have u963 : Hid (w952 275 86 = w24 275 86) := Hid.mk (q954.out.fld (by decide))
      have u965 : Hid (w952 275 88 = w 275 88) := Hid.mk (Eq.trans (q954.out.fld (by decide)) u35.out)
      have f967 : e_fr (mStm (w 275 78) (w 275 79) (w 275 80) (w 275 94)) w w952 := e_fr.trans f40 (q954.out.st (by omega))
      have c968 := cSt.em c37 q954.out (by decide) (by omega) (by omega)
      refine e_Ok.nrm (q := 248) (st' := [(0, w 275 78 + 1), (0, 3), (1, 275)]) rfl rfl ?_
      refine e_Ok.callV rfl (Nat.le_trans (by decide) hdq) rfl rfl rfl rfl (c_338 (Nat.le_trans (by decide) hdq) c968.1 c968.2.1 c968.2.2.1 hNr c968.2.2.2.1 (mm := w 275 94) (show Hid (w952 275 94 = w 275 94) from Hid.mk (Eq.trans (q954.out.fld (by decide)) u36.out)).out (by omega) (by decide) (by omega)) (fun r971 w972 h973 => ?_)
      obtain ⟨rfl, q974⟩ := h973
      obtain ⟨rfl, q974z⟩ | ⟨q974z, q974k, q974, q974T, q974H, q974r⟩ | ⟨q974z, q974k, w975, q974F, q974T, q974H, q974v, q974o, q974, q974s, q974t⟩ := q974
      · rw [u965.out] at q974z; exact absurd q974z (by omega)
      · refine e_Ok.nrm (q := 251) (st' := []) rfl rfl ?_
        rw [u965.out] at q974z
        clear q974k
        have c987 := cSt.rf c968 q974 q974T q974H
        have f988 : e_fr (mStm (w 275 78) (w 275 79) (w 275 80) (w 275 94)) w w972 := e_fr.trans f967 (e_fr.mono q974 (fun c k g => mRf_St g))
        refine e_Ok.run (t' := (399, [(2, (0, w 275 78 + 1)), (0, (1, 275)), (1, (0, key))], [(0, 59), (1, 275), (1, 275)], w972)) 4 rfl ?_
        refine e_Ok.callV rfl (Nat.le_trans (by decide) hdq) rfl rfl rfl rfl (c_331 c987.1 (N := N) c987.2.2.2.1) (fun r989 w990 h991 => ?_)
        obtain ⟨z992, rfl, rfl, q993⟩ := h991
        obtain ⟨rfl, q993, q993b⟩ | ⟨rfl, q993n⟩ := q993
        · refine e_Ok.nrm (q := 402) (st' := [(0, 1), (1, 275)]) rfl rfl ?_
          rw [(show Hid (w972 275 84 = w24 275 84) from Hid.mk (Eq.trans (q974 275 84 (mRf_fld (by decide))) (show Hid (w952 275 84 = w24 275 84) from Hid.mk (q954.out.fld (by decide))).out)).out] at q993
          rw [(show Hid (w972 275 85 = w24 275 85) from Hid.mk (Eq.trans (q974 275 85 (mRf_fld (by decide))) (show Hid (w952 275 85 = w24 275 85) from Hid.mk (q954.out.fld (by decide))).out)).out] at q993b
          refine e_Ok.callV rfl (Nat.le_trans (by decide) hdq) rfl rfl rfl rfl (c_334 (Nat.le_trans (by decide) hdq) c987.1 c987.2.1 c987.2.2.1 hNr c987.2.2.2.1 (by decide)) (fun r994 w995 h996 => ?_)
          obtain ⟨rfl, q997⟩ := h996
          obtain ⟨rfl, q997z⟩ | ⟨q997z, q997b, q997, q997s, q997t⟩ | ⟨q997z, q997b, q997, q997T, q997H, q997r⟩ := q997
          · show e_Ok 20 elay ecode eI (d + 1) 349 (405, [(2, (0, w 275 78 + 1)), (0, (1, 275)), (1, (0, key))], [], w972) _
            refine e_Ok.rets rfl rfl ?_
            exact ⟨rfl, f988, c987, (by unfold stL; rw [(show Hid (w972 275 78 = w 275 78 + 2) from Hid.mk (Eq.trans (q974 275 78 (mRf_fld (by decide))) u955.out)).out, (show Hid (w972 275 79 = w 275 79) from Hid.mk (Eq.trans (q974 275 79 (mRf_fld (by decide))) (show Hid (w952 275 79 = w 275 79) from Hid.mk (Eq.trans (q954.out.fld (by decide)) u30.out)).out)).out, (show Hid (w972 275 80 = w 275 80) from Hid.mk (Eq.trans (q974 275 80 (mRf_fld (by decide))) (show Hid (w952 275 80 = w 275 80) from Hid.mk (Eq.trans (q954.out.fld (by decide)) u31.out)).out)).out, (show Hid (w972 275 81 = w 275 81) from Hid.mk (Eq.trans (q974 275 81 (mRf_fld (by decide))) (show Hid (w952 275 81 = w 275 81) from Hid.mk (Eq.trans (q954.out.fld (by decide)) u32.out)).out)).out, (show Hid (w972 275 82 = w 275 82) from Hid.mk (Eq.trans (q974 275 82 (mRf_fld (by decide))) (show Hid (w952 275 82 = w 275 82) from Hid.mk (Eq.trans (q954.out.fld (by decide)) u33.out)).out)).out, (show Hid (w972 275 83 = w 275 83) from Hid.mk (Eq.trans (q974 275 83 (mRf_fld (by decide))) (show Hid (w952 275 83 = w 275 83) from Hid.mk (Eq.trans (q954.out.fld (by decide)) u34.out)).out)).out, (show Hid (w972 275 86 = w24 275 86) from Hid.mk (Eq.trans (q974 275 86 (mRf_fld (by decide))) u963.out)).out, (show Hid (w972 275 94 = w 275 94) from Hid.mk (Eq.trans (q974 275 94 (mRf_fld (by decide))) (show Hid (w952 275 94 = w 275 94) from Hid.mk (Eq.trans (q954.out.fld (by decide)) u36.out)).out)).out]; omega), (fun z => absurd z (by omega))⟩
          · exact absurd q997z (by omega)
          · exact absurd q997z (by omega)
        · refine e_Ok.nrm (q := 402) (st' := [(0, 0), (1, 275)]) rfl rfl ?_
          clear q993n
          refine e_Ok.callV rfl (Nat.le_trans (by decide) hdq) rfl rfl rfl rfl (c_334 (Nat.le_trans (by decide) hdq) c987.1 c987.2.1 c987.2.2.1 hNr c987.2.2.2.1 (by decide)) (fun r998 w999 h1000 => ?_)
          obtain ⟨rfl, q1001⟩ := h1000
          obtain ⟨rfl, q1001z⟩ | ⟨q1001z, q1001b, q1001, q1001s, q1001t⟩ | ⟨q1001z, q1001b, q1001, q1001T, q1001H, q1001r⟩ := q1001
          · refine e_Ok.nrm (q := 405) (st' := []) rfl rfl ?_
            refine e_Ok.rets rfl rfl ?_
            exact ⟨rfl, f988, c987, (by unfold stL; rw [(show Hid (w972 275 78 = w 275 78 + 2) from Hid.mk (Eq.trans (q974 275 78 (mRf_fld (by decide))) u955.out)).out, (show Hid (w972 275 79 = w 275 79) from Hid.mk (Eq.trans (q974 275 79 (mRf_fld (by decide))) (show Hid (w952 275 79 = w 275 79) from Hid.mk (Eq.trans (q954.out.fld (by decide)) u30.out)).out)).out, (show Hid (w972 275 80 = w 275 80) from Hid.mk (Eq.trans (q974 275 80 (mRf_fld (by decide))) (show Hid (w952 275 80 = w 275 80) from Hid.mk (Eq.trans (q954.out.fld (by decide)) u31.out)).out)).out, (show Hid (w972 275 81 = w 275 81) from Hid.mk (Eq.trans (q974 275 81 (mRf_fld (by decide))) (show Hid (w952 275 81 = w 275 81) from Hid.mk (Eq.trans (q954.out.fld (by decide)) u32.out)).out)).out, (show Hid (w972 275 82 = w 275 82) from Hid.mk (Eq.trans (q974 275 82 (mRf_fld (by decide))) (show Hid (w952 275 82 = w 275 82) from Hid.mk (Eq.trans (q954.out.fld (by decide)) u33.out)).out)).out, (show Hid (w972 275 83 = w 275 83) from Hid.mk (Eq.trans (q974 275 83 (mRf_fld (by decide))) (show Hid (w952 275 83 = w 275 83) from Hid.mk (Eq.trans (q954.out.fld (by decide)) u34.out)).out)).out, (show Hid (w972 275 86 = w24 275 86) from Hid.mk (Eq.trans (q974 275 86 (mRf_fld (by decide))) u963.out)).out, (show Hid (w972 275 94 = w 275 94) from Hid.mk (Eq.trans (q974 275 94 (mRf_fld (by decide))) (show Hid (w952 275 94 = w 275 94) from Hid.mk (Eq.trans (q954.out.fld (by decide)) u36.out)).out)).out]; omega), (fun z => absurd z (by omega))⟩
          · exact absurd q1001z (by omega)
          · exact absurd q1001z (by omega)
      · refine e_Ok.nrm (q := 251) (st' := []) rfl rfl ?_
        rw [u965.out] at q974z
        rw [(show Hid (w952 275 84 = w24 275 84) from Hid.mk (q954.out.fld (by decide))).out] at q974k
        rw [(show Hid (w952 275 87 = w24 275 87) from Hid.mk (q954.out.fld (by decide))).out] at q974t
        have p1002 := tkS.pos c968.2.2.2.1 (by rw [(show Hid (w952 275 84 = w24 275 84) from Hid.mk (q954.out.fld (by decide))).out] <;> omega)
        rw [u963.out, (show Hid (w952 275 87 = w24 275 87) from Hid.mk (q954.out.fld (by decide))).out] at p1002
        obtain ⟨q974v1, q974v2, q974v3, q974v4, q974v5⟩ := q974v
        rw [u963.out] at q974v2
        rw [u963.out, (show Hid (w952 275 87 = w24 275 87) from Hid.mk (q954.out.fld (by decide))).out] at q974v3
        replace q974v1 := (show Hid _ from q974v1)
        replace q974v2 := (show Hid _ from q974v2)
        replace q974v3 := (show Hid _ from q974v3)
        replace q974v4 := (show Hid _ from q974v4)
        replace q974v5 := (show Hid _ from q974v5)
        replace q974o := (show Hid _ from q974o)
        have u1024 : Hid (w972 275 88 = w 275 88) := Hid.mk (Eq.trans (q974 275 88 (mTq_fld (by decide))) (show Hid (w975 275 88 = w 275 88) from Hid.mk (Eq.trans (q974F 275 88 (mNm_fld (by decide))) u965.out)).out)
        have c1026 := cSt.tk (cSt.nm c968 q974F) q974 q974s
        have t1027 := tkS.lin c1026.2.2.2.1
        have f1028 : e_fr (mStm (w 275 78) (w 275 79) (w 275 80) (w 275 94)) w w972 := e_fr.trans (show e_fr (mStm (w 275 78) (w 275 79) (w 275 80) (w 275 94)) w w975 from e_fr.trans f967 (fun c k g => q974o.out c k (fun g2 => g (by unfold mStm; omega)))) (e_fr.mono q974 (fun c k g => mTq_St g))
        refine e_Ok.run (t' := (399, [(2, (0, w 275 78 + 1)), (0, (1, 275)), (1, (0, key))], [(0, 59), (1, 275), (1, 275)], w972)) 4 rfl ?_
        refine e_Ok.callV rfl (Nat.le_trans (by decide) hdq) rfl rfl rfl rfl (c_331 c1026.1 (N := N) c1026.2.2.2.1) (fun r1030 w1031 h1032 => ?_)
        obtain ⟨z1033, rfl, rfl, q1034⟩ := h1032
        obtain ⟨rfl, q1034, q1034b⟩ | ⟨rfl, q1034n⟩ := q1034
        · refine e_Ok.nrm (q := 402) (st' := [(0, 1), (1, 275)]) rfl rfl ?_
          refine e_Ok.callV rfl (Nat.le_trans (by decide) hdq) rfl rfl rfl rfl (c_334 (Nat.le_trans (by decide) hdq) c1026.1 c1026.2.1 c1026.2.2.1 hNr c1026.2.2.2.1 (by decide)) (fun r1035 w1036 h1037 => ?_)
          obtain ⟨rfl, q1038⟩ := h1037
          obtain ⟨rfl, q1038z⟩ | ⟨q1038z, q1038b, q1038, q1038s, q1038t⟩ | ⟨q1038z, q1038b, q1038, q1038T, q1038H, q1038r⟩ := q1038
          · rw [u1024.out] at q1038z; exact absurd q1038z (by omega)
          · refine e_Ok.nrm (q := 405) (st' := []) rfl rfl ?_
            rw [u1024.out] at q1038z
            have p1039 := tkS.pos c1026.2.2.2.1 (by omega)
            have c1048 := cSt.tk c1026 q1038 q1038s
            have t1049 := tkS.lin c1048.2.2.2.1
            refine e_Ok.rets rfl rfl ?_
            exact ⟨rfl, (show e_fr (mStm (w 275 78) (w 275 79) (w 275 80) (w 275 94)) w w1036 from e_fr.trans f1028 (e_fr.mono q1038 (fun c k g => mTq_St g))), c1048, (by unfold stL; rw [(show Hid (w1036 275 78 = w 275 78 + 2) from Hid.mk (Eq.trans (q1038 275 78 (mTq_fld (by decide))) (show Hid (w972 275 78 = w 275 78 + 2) from Hid.mk (Eq.trans (q974 275 78 (mTq_fld (by decide))) (show Hid (w975 275 78 = w 275 78 + 2) from Hid.mk (Eq.trans (q974F 275 78 (mNm_fld (by decide))) u955.out)).out)).out)).out, (show Hid (w1036 275 79 = w 275 79) from Hid.mk (Eq.trans (q1038 275 79 (mTq_fld (by decide))) (show Hid (w972 275 79 = w 275 79) from Hid.mk (Eq.trans (q974 275 79 (mTq_fld (by decide))) (show Hid (w975 275 79 = w 275 79) from Hid.mk (Eq.trans (q974F 275 79 (mNm_fld (by decide))) (show Hid (w952 275 79 = w 275 79) from Hid.mk (Eq.trans (q954.out.fld (by decide)) u30.out)).out)).out)).out)).out, (show Hid (w1036 275 80 = w 275 80) from Hid.mk (Eq.trans (q1038 275 80 (mTq_fld (by decide))) (show Hid (w972 275 80 = w 275 80) from Hid.mk (Eq.trans (q974 275 80 (mTq_fld (by decide))) (show Hid (w975 275 80 = w 275 80) from Hid.mk (Eq.trans (q974F 275 80 (mNm_fld (by decide))) (show Hid (w952 275 80 = w 275 80) from Hid.mk (Eq.trans (q954.out.fld (by decide)) u31.out)).out)).out)).out)).out, (show Hid (w1036 275 81 = w 275 81) from Hid.mk (Eq.trans (q1038 275 81 (mTq_fld (by decide))) (show Hid (w972 275 81 = w 275 81) from Hid.mk (Eq.trans (q974 275 81 (mTq_fld (by decide))) (show Hid (w975 275 81 = w 275 81) from Hid.mk (Eq.trans (q974F 275 81 (mNm_fld (by decide))) (show Hid (w952 275 81 = w 275 81) from Hid.mk (Eq.trans (q954.out.fld (by decide)) u32.out)).out)).out)).out)).out, (show Hid (w1036 275 82 = w 275 82) from Hid.mk (Eq.trans (q1038 275 82 (mTq_fld (by decide))) (show Hid (w972 275 82 = w 275 82) from Hid.mk (Eq.trans (q974 275 82 (mTq_fld (by decide))) (show Hid (w975 275 82 = w 275 82) from Hid.mk (Eq.trans (q974F 275 82 (mNm_fld (by decide))) (show Hid (w952 275 82 = w 275 82) from Hid.mk (Eq.trans (q954.out.fld (by decide)) u33.out)).out)).out)).out)).out, (show Hid (w1036 275 83 = w 275 83) from Hid.mk (Eq.trans (q1038 275 83 (mTq_fld (by decide))) (show Hid (w972 275 83 = w 275 83) from Hid.mk (Eq.trans (q974 275 83 (mTq_fld (by decide))) (show Hid (w975 275 83 = w 275 83) from Hid.mk (Eq.trans (q974F 275 83 (mNm_fld (by decide))) (show Hid (w952 275 83 = w 275 83) from Hid.mk (Eq.trans (q954.out.fld (by decide)) u34.out)).out)).out)).out)).out, (show Hid (w1036 275 88 = w 275 88) from Hid.mk (Eq.trans (q1038 275 88 (mTq_fld (by decide))) u1024.out)).out, (show Hid (w1036 275 94 = w 275 94 + 1) from Hid.mk (Eq.trans (q1038 275 94 (mTq_fld (by decide))) (show Hid (w972 275 94 = w 275 94 + 1) from Hid.mk (Eq.trans (q974 275 94 (mTq_fld (by decide))) (show Hid (w975 275 94 = w 275 94 + 1) from Hid.mk (Eq.trans q974v5.out (by omega))).out)).out)).out]; omega), (fun z => by rw [(show Hid (w1036 275 88 = w 275 88) from Hid.mk (Eq.trans (q1038 275 88 (mTq_fld (by decide))) u1024.out)).out] at z; rw [(show Hid (w1036 275 78 = w 275 78 + 2) from Hid.mk (Eq.trans (q1038 275 78 (mTq_fld (by decide))) (show Hid (w972 275 78 = w 275 78 + 2) from Hid.mk (Eq.trans (q974 275 78 (mTq_fld (by decide))) (show Hid (w975 275 78 = w 275 78 + 2) from Hid.mk (Eq.trans (q974F 275 78 (mNm_fld (by decide))) u955.out)).out)).out)).out, (show Hid (w1036 275 94 = w 275 94 + 1) from Hid.mk (Eq.trans (q1038 275 94 (mTq_fld (by decide))) (show Hid (w972 275 94 = w 275 94 + 1) from Hid.mk (Eq.trans (q974 275 94 (mTq_fld (by decide))) (show Hid (w975 275 94 = w 275 94 + 1) from Hid.mk (Eq.trans q974v5.out (by omega))).out)).out)).out, (show Hid (w1036 275 79 = w 275 79) from Hid.mk (Eq.trans (q1038 275 79 (mTq_fld (by decide))) (show Hid (w972 275 79 = w 275 79) from Hid.mk (Eq.trans (q974 275 79 (mTq_fld (by decide))) (show Hid (w975 275 79 = w 275 79) from Hid.mk (Eq.trans (q974F 275 79 (mNm_fld (by decide))) (show Hid (w952 275 79 = w 275 79) from Hid.mk (Eq.trans (q954.out.fld (by decide)) u30.out)).out)).out)).out)).out, (show Hid (w1036 275 80 = w 275 80) from Hid.mk (Eq.trans (q1038 275 80 (mTq_fld (by decide))) (show Hid (w972 275 80 = w 275 80) from Hid.mk (Eq.trans (q974 275 80 (mTq_fld (by decide))) (show Hid (w975 275 80 = w 275 80) from Hid.mk (Eq.trans (q974F 275 80 (mNm_fld (by decide))) (show Hid (w952 275 80 = w 275 80) from Hid.mk (Eq.trans (q954.out.fld (by decide)) u31.out)).out)).out)).out)).out, (show Hid (w1036 275 81 = w 275 81) from Hid.mk (Eq.trans (q1038 275 81 (mTq_fld (by decide))) (show Hid (w972 275 81 = w 275 81) from Hid.mk (Eq.trans (q974 275 81 (mTq_fld (by decide))) (show Hid (w975 275 81 = w 275 81) from Hid.mk (Eq.trans (q974F 275 81 (mNm_fld (by decide))) (show Hid (w952 275 81 = w 275 81) from Hid.mk (Eq.trans (q954.out.fld (by decide)) u32.out)).out)).out)).out)).out]; exact ((show Hid (w 275 88 = 0 → GB w1036 N (w 275 78 + 2) (w 275 94 + 1) (w 275 79) (w 275 80) P (w 275 81) OW O) from Hid.mk (fun z => GB.pr ((show Hid (w 275 88 = 0 → GB w972 N (w 275 78 + 2) (w 275 94 + 1) (w 275 79) (w 275 80) P (w 275 81) OW O) from Hid.mk (fun z => GB.pr ((show Hid (w 275 88 = 0 → GB w975 N (w 275 78 + 2) (w 275 94 + 1) (w 275 79) (w 275 80) P (w 275 81) OW O) from Hid.mk (fun z => (GB.re (GS.call (ta := w24 275 86) (te := w24 275 87) (GA.gs (g41.out (by omega))) q954.out (by omega) (by unfold iOw; omega) ⟨q974v1.out, q974v2.out, q974v3.out, Eq.trans q974v4.out (show _ = w 275 78 + 1 from by omega)⟩ q974o.out (by omega) hNr.2) (show _ = w 275 78 + 2 from by omega) rfl rfl rfl rfl))).out z) (prE.tk q974))).out z) (prE.tk q1038))).out (by omega)))⟩
          · exact absurd q1038b (by decide)
        · refine e_Ok.nrm (q := 402) (st' := [(0, 0), (1, 275)]) rfl rfl ?_
          clear q1034n
          refine e_Ok.callV rfl (Nat.le_trans (by decide) hdq) rfl rfl rfl rfl (c_334 (Nat.le_trans (by decide) hdq) c1026.1 c1026.2.1 c1026.2.2.1 hNr c1026.2.2.2.1 (by decide)) (fun r1052 w1053 h1054 => ?_)
          obtain ⟨rfl, q1055⟩ := h1054
          obtain ⟨rfl, q1055z⟩ | ⟨q1055z, q1055b, q1055, q1055s, q1055t⟩ | ⟨q1055z, q1055b, q1055, q1055T, q1055H, q1055r⟩ := q1055
          · rw [u1024.out] at q1055z; exact absurd q1055z (by omega)
          · exact absurd q1055b (by decide)
          · refine e_Ok.nrm (q := 405) (st' := []) rfl rfl ?_
            rw [u1024.out] at q1055z
            refine e_Ok.rets rfl rfl ?_
            exact ⟨rfl, (show e_fr (mStm (w 275 78) (w 275 79) (w 275 80) (w 275 94)) w w1053 from e_fr.trans f1028 (e_fr.mono q1055 (fun c k g => mRf_St g))), (cSt.rf c1026 q1055 q1055T q1055H), (by unfold stL; rw [(show Hid (w1053 275 78 = w 275 78 + 2) from Hid.mk (Eq.trans (q1055 275 78 (mRf_fld (by decide))) (show Hid (w972 275 78 = w 275 78 + 2) from Hid.mk (Eq.trans (q974 275 78 (mTq_fld (by decide))) (show Hid (w975 275 78 = w 275 78 + 2) from Hid.mk (Eq.trans (q974F 275 78 (mNm_fld (by decide))) u955.out)).out)).out)).out, (show Hid (w1053 275 79 = w 275 79) from Hid.mk (Eq.trans (q1055 275 79 (mRf_fld (by decide))) (show Hid (w972 275 79 = w 275 79) from Hid.mk (Eq.trans (q974 275 79 (mTq_fld (by decide))) (show Hid (w975 275 79 = w 275 79) from Hid.mk (Eq.trans (q974F 275 79 (mNm_fld (by decide))) (show Hid (w952 275 79 = w 275 79) from Hid.mk (Eq.trans (q954.out.fld (by decide)) u30.out)).out)).out)).out)).out, (show Hid (w1053 275 80 = w 275 80) from Hid.mk (Eq.trans (q1055 275 80 (mRf_fld (by decide))) (show Hid (w972 275 80 = w 275 80) from Hid.mk (Eq.trans (q974 275 80 (mTq_fld (by decide))) (show Hid (w975 275 80 = w 275 80) from Hid.mk (Eq.trans (q974F 275 80 (mNm_fld (by decide))) (show Hid (w952 275 80 = w 275 80) from Hid.mk (Eq.trans (q954.out.fld (by decide)) u31.out)).out)).out)).out)).out, (show Hid (w1053 275 81 = w 275 81) from Hid.mk (Eq.trans (q1055 275 81 (mRf_fld (by decide))) (show Hid (w972 275 81 = w 275 81) from Hid.mk (Eq.trans (q974 275 81 (mTq_fld (by decide))) (show Hid (w975 275 81 = w 275 81) from Hid.mk (Eq.trans (q974F 275 81 (mNm_fld (by decide))) (show Hid (w952 275 81 = w 275 81) from Hid.mk (Eq.trans (q954.out.fld (by decide)) u32.out)).out)).out)).out)).out, (show Hid (w1053 275 82 = w 275 82) from Hid.mk (Eq.trans (q1055 275 82 (mRf_fld (by decide))) (show Hid (w972 275 82 = w 275 82) from Hid.mk (Eq.trans (q974 275 82 (mTq_fld (by decide))) (show Hid (w975 275 82 = w 275 82) from Hid.mk (Eq.trans (q974F 275 82 (mNm_fld (by decide))) (show Hid (w952 275 82 = w 275 82) from Hid.mk (Eq.trans (q954.out.fld (by decide)) u33.out)).out)).out)).out)).out, (show Hid (w1053 275 83 = w 275 83) from Hid.mk (Eq.trans (q1055 275 83 (mRf_fld (by decide))) (show Hid (w972 275 83 = w 275 83) from Hid.mk (Eq.trans (q974 275 83 (mTq_fld (by decide))) (show Hid (w975 275 83 = w 275 83) from Hid.mk (Eq.trans (q974F 275 83 (mNm_fld (by decide))) (show Hid (w952 275 83 = w 275 83) from Hid.mk (Eq.trans (q954.out.fld (by decide)) u34.out)).out)).out)).out)).out, (show Hid (w1053 275 86 = w972 275 86) from Hid.mk (q1055 275 86 (mRf_fld (by decide)))).out, (show Hid (w1053 275 94 = w 275 94 + 1) from Hid.mk (Eq.trans (q1055 275 94 (mRf_fld (by decide))) (show Hid (w972 275 94 = w 275 94 + 1) from Hid.mk (Eq.trans (q974 275 94 (mTq_fld (by decide))) (show Hid (w975 275 94 = w 275 94 + 1) from Hid.mk (Eq.trans q974v5.out (by omega))).out)).out)).out]; omega), (fun z => absurd z (by omega))⟩
    · refine e_Ok.sw (tg := 283) rfl (by rw [h44]; rfl) ?_
      refine e_Ok.run (t' := (287, [(2, (0, w 275 78 + 1)), (0, (1, 275)), (1, (0, key))], [(0, 0), (0, 42), (1, 275)], w24)) 3 rfl ?_
      refine e_Ok.callV rfl (Nat.le_trans (by decide) hdq) rfl rfl rfl rfl (c_336 c37.1 (n := w 275 78 + 1) u29.out (by omega) (s := w 275 81) u32.out (by omega)) (fun r1069 w1070 h1071 => ?_)
      obtain ⟨rfl, q1072⟩ := h1071
      replace q1072 := (show Hid (EM w24 w1070 (w 275 78 + 1) 42 (0) (w 275 81)) from q1072)
      have u1073 : Hid (w1070 275 78 = w 275 78 + 2) := Hid.mk (Eq.trans q1072.out.2.2.2.2 (by omega))
      have u1083 : Hid (w1070 275 88 = w 275 88) := Hid.mk (Eq.trans (q1072.out.fld (by decide)) u35.out)
      have f1085 : e_fr (mStm (w 275 78) (w 275 79) (w 275 80) (w 275 94)) w w1070 := e_fr.trans f40 (q1072.out.st (by omega))
      have c1086 := cSt.em c37 q1072.out (by decide) (by omega) (by omega)
      refine e_Ok.nrm (q := 290) (st' := [(0, w 275 78 + 1)]) rfl rfl ?_
      refine e_Ok.run (t' := (399, [(2, (0, w 275 78 + 1)), (0, (1, 275)), (1, (0, key))], [(0, 59), (1, 275), (1, 275)], w1070)) 5 rfl ?_
      refine e_Ok.callV rfl (Nat.le_trans (by decide) hdq) rfl rfl rfl rfl (c_331 c1086.1 (N := N) c1086.2.2.2.1) (fun r1090 w1091 h1092 => ?_)
      obtain ⟨z1093, rfl, rfl, q1094⟩ := h1092
      obtain ⟨rfl, q1094, q1094b⟩ | ⟨rfl, q1094n⟩ := q1094
      · refine e_Ok.nrm (q := 402) (st' := [(0, 1), (1, 275)]) rfl rfl ?_
        rw [(show Hid (w1070 275 84 = w24 275 84) from Hid.mk (q1072.out.fld (by decide))).out] at q1094
        rw [(show Hid (w1070 275 85 = w24 275 85) from Hid.mk (q1072.out.fld (by decide))).out] at q1094b
        refine e_Ok.callV rfl (Nat.le_trans (by decide) hdq) rfl rfl rfl rfl (c_334 (Nat.le_trans (by decide) hdq) c1086.1 c1086.2.1 c1086.2.2.1 hNr c1086.2.2.2.1 (by decide)) (fun r1095 w1096 h1097 => ?_)
        obtain ⟨rfl, q1098⟩ := h1097
        obtain ⟨rfl, q1098z⟩ | ⟨q1098z, q1098b, q1098, q1098s, q1098t⟩ | ⟨q1098z, q1098b, q1098, q1098T, q1098H, q1098r⟩ := q1098
        · rw [u1083.out] at q1098z; exact absurd q1098z (by omega)
        · show e_Ok 20 elay ecode eI (d + 1) 349 (405, [(2, (0, w 275 78 + 1)), (0, (1, 275)), (1, (0, key))], [], w1096) _
          rw [u1083.out] at q1098z
          rw [(show Hid (w1070 275 87 = w24 275 87) from Hid.mk (q1072.out.fld (by decide))).out] at q1098t
          have p1099 := tkS.pos c1086.2.2.2.1 (by rw [(show Hid (w1070 275 84 = w24 275 84) from Hid.mk (q1072.out.fld (by decide))).out] <;> omega)
          rw [(show Hid (w1070 275 86 = w24 275 86) from Hid.mk (q1072.out.fld (by decide))).out, (show Hid (w1070 275 87 = w24 275 87) from Hid.mk (q1072.out.fld (by decide))).out] at p1099
          have c1108 := cSt.tk c1086 q1098 q1098s
          have t1109 := tkS.lin c1108.2.2.2.1
          refine e_Ok.rets rfl rfl ?_
          exact ⟨rfl, (show e_fr (mStm (w 275 78) (w 275 79) (w 275 80) (w 275 94)) w w1096 from e_fr.trans f1085 (e_fr.mono q1098 (fun c k g => mTq_St g))), c1108, (by unfold stL; rw [(show Hid (w1096 275 78 = w 275 78 + 2) from Hid.mk (Eq.trans (q1098 275 78 (mTq_fld (by decide))) u1073.out)).out, (show Hid (w1096 275 79 = w 275 79) from Hid.mk (Eq.trans (q1098 275 79 (mTq_fld (by decide))) (show Hid (w1070 275 79 = w 275 79) from Hid.mk (Eq.trans (q1072.out.fld (by decide)) u30.out)).out)).out, (show Hid (w1096 275 80 = w 275 80) from Hid.mk (Eq.trans (q1098 275 80 (mTq_fld (by decide))) (show Hid (w1070 275 80 = w 275 80) from Hid.mk (Eq.trans (q1072.out.fld (by decide)) u31.out)).out)).out, (show Hid (w1096 275 81 = w 275 81) from Hid.mk (Eq.trans (q1098 275 81 (mTq_fld (by decide))) (show Hid (w1070 275 81 = w 275 81) from Hid.mk (Eq.trans (q1072.out.fld (by decide)) u32.out)).out)).out, (show Hid (w1096 275 82 = w 275 82) from Hid.mk (Eq.trans (q1098 275 82 (mTq_fld (by decide))) (show Hid (w1070 275 82 = w 275 82) from Hid.mk (Eq.trans (q1072.out.fld (by decide)) u33.out)).out)).out, (show Hid (w1096 275 83 = w 275 83) from Hid.mk (Eq.trans (q1098 275 83 (mTq_fld (by decide))) (show Hid (w1070 275 83 = w 275 83) from Hid.mk (Eq.trans (q1072.out.fld (by decide)) u34.out)).out)).out, (show Hid (w1096 275 88 = w 275 88) from Hid.mk (Eq.trans (q1098 275 88 (mTq_fld (by decide))) u1083.out)).out, (show Hid (w1096 275 94 = w 275 94) from Hid.mk (Eq.trans (q1098 275 94 (mTq_fld (by decide))) (show Hid (w1070 275 94 = w 275 94) from Hid.mk (Eq.trans (q1072.out.fld (by decide)) u36.out)).out)).out]; omega), (fun z => by rw [(show Hid (w1096 275 88 = w 275 88) from Hid.mk (Eq.trans (q1098 275 88 (mTq_fld (by decide))) u1083.out)).out] at z; rw [(show Hid (w1096 275 78 = w 275 78 + 2) from Hid.mk (Eq.trans (q1098 275 78 (mTq_fld (by decide))) u1073.out)).out, (show Hid (w1096 275 94 = w 275 94) from Hid.mk (Eq.trans (q1098 275 94 (mTq_fld (by decide))) (show Hid (w1070 275 94 = w 275 94) from Hid.mk (Eq.trans (q1072.out.fld (by decide)) u36.out)).out)).out, (show Hid (w1096 275 79 = w 275 79) from Hid.mk (Eq.trans (q1098 275 79 (mTq_fld (by decide))) (show Hid (w1070 275 79 = w 275 79) from Hid.mk (Eq.trans (q1072.out.fld (by decide)) u30.out)).out)).out, (show Hid (w1096 275 80 = w 275 80) from Hid.mk (Eq.trans (q1098 275 80 (mTq_fld (by decide))) (show Hid (w1070 275 80 = w 275 80) from Hid.mk (Eq.trans (q1072.out.fld (by decide)) u31.out)).out)).out, (show Hid (w1096 275 81 = w 275 81) from Hid.mk (Eq.trans (q1098 275 81 (mTq_fld (by decide))) (show Hid (w1070 275 81 = w 275 81) from Hid.mk (Eq.trans (q1072.out.fld (by decide)) u32.out)).out)).out]; exact ((show Hid (w 275 88 = 0 → GB w1096 N (w 275 78 + 2) (w 275 94) (w 275 79) (w 275 80) P (w 275 81) OW O) from Hid.mk (fun z => GB.pr ((show Hid (w 275 88 = 0 → GB w1070 N (w 275 78 + 2) (w 275 94) (w 275 79) (w 275 80) P (w 275 81) OW O) from Hid.mk (fun z => (GB.re (GS.fin (GA.gs (g41.out (by omega))) q1072.out (by omega) (by omega) (by omega) (by omega) (by omega) (by unfold iOw; omega) (fun y => absurd y (by decide))) (show _ = w 275 78 + 2 from by omega) rfl rfl rfl rfl))).out z) (prE.tk q1098))).out (by omega)))⟩
        · exact absurd q1098b (by decide)
      · refine e_Ok.nrm (q := 402) (st' := [(0, 0), (1, 275)]) rfl rfl ?_
        clear q1094n
        refine e_Ok.callV rfl (Nat.le_trans (by decide) hdq) rfl rfl rfl rfl (c_334 (Nat.le_trans (by decide) hdq) c1086.1 c1086.2.1 c1086.2.2.1 hNr c1086.2.2.2.1 (by decide)) (fun r1114 w1115 h1116 => ?_)
        obtain ⟨rfl, q1117⟩ := h1116
        obtain ⟨rfl, q1117z⟩ | ⟨q1117z, q1117b, q1117, q1117s, q1117t⟩ | ⟨q1117z, q1117b, q1117, q1117T, q1117H, q1117r⟩ := q1117
        · rw [u1083.out] at q1117z; exact absurd q1117z (by omega)
        · exact absurd q1117b (by decide)
        · refine e_Ok.nrm (q := 405) (st' := []) rfl rfl ?_
          rw [u1083.out] at q1117z
          refine e_Ok.rets rfl rfl ?_
          exact ⟨rfl, (show e_fr (mStm (w 275 78) (w 275 79) (w 275 80) (w 275 94)) w w1115 from e_fr.trans f1085 (e_fr.mono q1117 (fun c k g => mRf_St g))), (cSt.rf c1086 q1117 q1117T q1117H), (by unfold stL; rw [(show Hid (w1115 275 78 = w 275 78 + 2) from Hid.mk (Eq.trans (q1117 275 78 (mRf_fld (by decide))) u1073.out)).out, (show Hid (w1115 275 79 = w 275 79) from Hid.mk (Eq.trans (q1117 275 79 (mRf_fld (by decide))) (show Hid (w1070 275 79 = w 275 79) from Hid.mk (Eq.trans (q1072.out.fld (by decide)) u30.out)).out)).out, (show Hid (w1115 275 80 = w 275 80) from Hid.mk (Eq.trans (q1117 275 80 (mRf_fld (by decide))) (show Hid (w1070 275 80 = w 275 80) from Hid.mk (Eq.trans (q1072.out.fld (by decide)) u31.out)).out)).out, (show Hid (w1115 275 81 = w 275 81) from Hid.mk (Eq.trans (q1117 275 81 (mRf_fld (by decide))) (show Hid (w1070 275 81 = w 275 81) from Hid.mk (Eq.trans (q1072.out.fld (by decide)) u32.out)).out)).out, (show Hid (w1115 275 82 = w 275 82) from Hid.mk (Eq.trans (q1117 275 82 (mRf_fld (by decide))) (show Hid (w1070 275 82 = w 275 82) from Hid.mk (Eq.trans (q1072.out.fld (by decide)) u33.out)).out)).out, (show Hid (w1115 275 83 = w 275 83) from Hid.mk (Eq.trans (q1117 275 83 (mRf_fld (by decide))) (show Hid (w1070 275 83 = w 275 83) from Hid.mk (Eq.trans (q1072.out.fld (by decide)) u34.out)).out)).out, (show Hid (w1115 275 86 = w24 275 86) from Hid.mk (Eq.trans (q1117 275 86 (mRf_fld (by decide))) (show Hid (w1070 275 86 = w24 275 86) from Hid.mk (q1072.out.fld (by decide))).out)).out, (show Hid (w1115 275 94 = w 275 94) from Hid.mk (Eq.trans (q1117 275 94 (mRf_fld (by decide))) (show Hid (w1070 275 94 = w 275 94) from Hid.mk (Eq.trans (q1072.out.fld (by decide)) u36.out)).out)).out]; omega), (fun z => absurd z (by omega))⟩
    · refine e_Ok.sw (tg := 294) rfl (by rw [h44]; rfl) ?_
      refine e_Ok.run (t' := (298, [(2, (0, w 275 78 + 1)), (0, (1, 275)), (1, (0, key))], [(0, 0), (0, 43), (1, 275)], w24)) 3 rfl ?_
      refine e_Ok.callV rfl (Nat.le_trans (by decide) hdq) rfl rfl rfl rfl (c_336 c37.1 (n := w 275 78 + 1) u29.out (by omega) (s := w 275 81) u32.out (by omega)) (fun r1131 w1132 h1133 => ?_)
      obtain ⟨rfl, q1134⟩ := h1133
      replace q1134 := (show Hid (EM w24 w1132 (w 275 78 + 1) 43 (0) (w 275 81)) from q1134)
      have u1135 : Hid (w1132 275 78 = w 275 78 + 2) := Hid.mk (Eq.trans q1134.out.2.2.2.2 (by omega))
      have u1145 : Hid (w1132 275 88 = w 275 88) := Hid.mk (Eq.trans (q1134.out.fld (by decide)) u35.out)
      have f1147 : e_fr (mStm (w 275 78) (w 275 79) (w 275 80) (w 275 94)) w w1132 := e_fr.trans f40 (q1134.out.st (by omega))
      have c1148 := cSt.em c37 q1134.out (by decide) (by omega) (by omega)
      refine e_Ok.nrm (q := 301) (st' := [(0, w 275 78 + 1)]) rfl rfl ?_
      refine e_Ok.run (t' := (399, [(2, (0, w 275 78 + 1)), (0, (1, 275)), (1, (0, key))], [(0, 59), (1, 275), (1, 275)], w1132)) 5 rfl ?_
      refine e_Ok.callV rfl (Nat.le_trans (by decide) hdq) rfl rfl rfl rfl (c_331 c1148.1 (N := N) c1148.2.2.2.1) (fun r1152 w1153 h1154 => ?_)
      obtain ⟨z1155, rfl, rfl, q1156⟩ := h1154
      obtain ⟨rfl, q1156, q1156b⟩ | ⟨rfl, q1156n⟩ := q1156
      · refine e_Ok.nrm (q := 402) (st' := [(0, 1), (1, 275)]) rfl rfl ?_
        rw [(show Hid (w1132 275 84 = w24 275 84) from Hid.mk (q1134.out.fld (by decide))).out] at q1156
        rw [(show Hid (w1132 275 85 = w24 275 85) from Hid.mk (q1134.out.fld (by decide))).out] at q1156b
        refine e_Ok.callV rfl (Nat.le_trans (by decide) hdq) rfl rfl rfl rfl (c_334 (Nat.le_trans (by decide) hdq) c1148.1 c1148.2.1 c1148.2.2.1 hNr c1148.2.2.2.1 (by decide)) (fun r1157 w1158 h1159 => ?_)
        obtain ⟨rfl, q1160⟩ := h1159
        obtain ⟨rfl, q1160z⟩ | ⟨q1160z, q1160b, q1160, q1160s, q1160t⟩ | ⟨q1160z, q1160b, q1160, q1160T, q1160H, q1160r⟩ := q1160
        · rw [u1145.out] at q1160z; exact absurd q1160z (by omega)
        · show e_Ok 20 elay ecode eI (d + 1) 349 (405, [(2, (0, w 275 78 + 1)), (0, (1, 275)), (1, (0, key))], [], w1158) _
          rw [u1145.out] at q1160z
          rw [(show Hid (w1132 275 87 = w24 275 87) from Hid.mk (q1134.out.fld (by decide))).out] at q1160t
          have p1161 := tkS.pos c1148.2.2.2.1 (by rw [(show Hid (w1132 275 84 = w24 275 84) from Hid.mk (q1134.out.fld (by decide))).out] <;> omega)
          rw [(show Hid (w1132 275 86 = w24 275 86) from Hid.mk (q1134.out.fld (by decide))).out, (show Hid (w1132 275 87 = w24 275 87) from Hid.mk (q1134.out.fld (by decide))).out] at p1161
          have c1170 := cSt.tk c1148 q1160 q1160s
          have t1171 := tkS.lin c1170.2.2.2.1
          refine e_Ok.rets rfl rfl ?_
          exact ⟨rfl, (show e_fr (mStm (w 275 78) (w 275 79) (w 275 80) (w 275 94)) w w1158 from e_fr.trans f1147 (e_fr.mono q1160 (fun c k g => mTq_St g))), c1170, (by unfold stL; rw [(show Hid (w1158 275 78 = w 275 78 + 2) from Hid.mk (Eq.trans (q1160 275 78 (mTq_fld (by decide))) u1135.out)).out, (show Hid (w1158 275 79 = w 275 79) from Hid.mk (Eq.trans (q1160 275 79 (mTq_fld (by decide))) (show Hid (w1132 275 79 = w 275 79) from Hid.mk (Eq.trans (q1134.out.fld (by decide)) u30.out)).out)).out, (show Hid (w1158 275 80 = w 275 80) from Hid.mk (Eq.trans (q1160 275 80 (mTq_fld (by decide))) (show Hid (w1132 275 80 = w 275 80) from Hid.mk (Eq.trans (q1134.out.fld (by decide)) u31.out)).out)).out, (show Hid (w1158 275 81 = w 275 81) from Hid.mk (Eq.trans (q1160 275 81 (mTq_fld (by decide))) (show Hid (w1132 275 81 = w 275 81) from Hid.mk (Eq.trans (q1134.out.fld (by decide)) u32.out)).out)).out, (show Hid (w1158 275 82 = w 275 82) from Hid.mk (Eq.trans (q1160 275 82 (mTq_fld (by decide))) (show Hid (w1132 275 82 = w 275 82) from Hid.mk (Eq.trans (q1134.out.fld (by decide)) u33.out)).out)).out, (show Hid (w1158 275 83 = w 275 83) from Hid.mk (Eq.trans (q1160 275 83 (mTq_fld (by decide))) (show Hid (w1132 275 83 = w 275 83) from Hid.mk (Eq.trans (q1134.out.fld (by decide)) u34.out)).out)).out, (show Hid (w1158 275 88 = w 275 88) from Hid.mk (Eq.trans (q1160 275 88 (mTq_fld (by decide))) u1145.out)).out, (show Hid (w1158 275 94 = w 275 94) from Hid.mk (Eq.trans (q1160 275 94 (mTq_fld (by decide))) (show Hid (w1132 275 94 = w 275 94) from Hid.mk (Eq.trans (q1134.out.fld (by decide)) u36.out)).out)).out]; omega), (fun z => by rw [(show Hid (w1158 275 88 = w 275 88) from Hid.mk (Eq.trans (q1160 275 88 (mTq_fld (by decide))) u1145.out)).out] at z; rw [(show Hid (w1158 275 78 = w 275 78 + 2) from Hid.mk (Eq.trans (q1160 275 78 (mTq_fld (by decide))) u1135.out)).out, (show Hid (w1158 275 94 = w 275 94) from Hid.mk (Eq.trans (q1160 275 94 (mTq_fld (by decide))) (show Hid (w1132 275 94 = w 275 94) from Hid.mk (Eq.trans (q1134.out.fld (by decide)) u36.out)).out)).out, (show Hid (w1158 275 79 = w 275 79) from Hid.mk (Eq.trans (q1160 275 79 (mTq_fld (by decide))) (show Hid (w1132 275 79 = w 275 79) from Hid.mk (Eq.trans (q1134.out.fld (by decide)) u30.out)).out)).out, (show Hid (w1158 275 80 = w 275 80) from Hid.mk (Eq.trans (q1160 275 80 (mTq_fld (by decide))) (show Hid (w1132 275 80 = w 275 80) from Hid.mk (Eq.trans (q1134.out.fld (by decide)) u31.out)).out)).out, (show Hid (w1158 275 81 = w 275 81) from Hid.mk (Eq.trans (q1160 275 81 (mTq_fld (by decide))) (show Hid (w1132 275 81 = w 275 81) from Hid.mk (Eq.trans (q1134.out.fld (by decide)) u32.out)).out)).out]; exact ((show Hid (w 275 88 = 0 → GB w1158 N (w 275 78 + 2) (w 275 94) (w 275 79) (w 275 80) P (w 275 81) OW O) from Hid.mk (fun z => GB.pr ((show Hid (w 275 88 = 0 → GB w1132 N (w 275 78 + 2) (w 275 94) (w 275 79) (w 275 80) P (w 275 81) OW O) from Hid.mk (fun z => (GB.re (GS.fin (GA.gs (g41.out (by omega))) q1134.out (by omega) (by omega) (by omega) (by omega) (by omega) (by unfold iOw; omega) (fun y => absurd y (by decide))) (show _ = w 275 78 + 2 from by omega) rfl rfl rfl rfl))).out z) (prE.tk q1160))).out (by omega)))⟩
        · exact absurd q1160b (by decide)
      · refine e_Ok.nrm (q := 402) (st' := [(0, 0), (1, 275)]) rfl rfl ?_
        clear q1156n
        refine e_Ok.callV rfl (Nat.le_trans (by decide) hdq) rfl rfl rfl rfl (c_334 (Nat.le_trans (by decide) hdq) c1148.1 c1148.2.1 c1148.2.2.1 hNr c1148.2.2.2.1 (by decide)) (fun r1176 w1177 h1178 => ?_)
        obtain ⟨rfl, q1179⟩ := h1178
        obtain ⟨rfl, q1179z⟩ | ⟨q1179z, q1179b, q1179, q1179s, q1179t⟩ | ⟨q1179z, q1179b, q1179, q1179T, q1179H, q1179r⟩ := q1179
        · rw [u1145.out] at q1179z; exact absurd q1179z (by omega)
        · exact absurd q1179b (by decide)
        · refine e_Ok.nrm (q := 405) (st' := []) rfl rfl ?_
          rw [u1145.out] at q1179z
          refine e_Ok.rets rfl rfl ?_
          exact ⟨rfl, (show e_fr (mStm (w 275 78) (w 275 79) (w 275 80) (w 275 94)) w w1177 from e_fr.trans f1147 (e_fr.mono q1179 (fun c k g => mRf_St g))), (cSt.rf c1148 q1179 q1179T q1179H), (by unfold stL; rw [(show Hid (w1177 275 78 = w 275 78 + 2) from Hid.mk (Eq.trans (q1179 275 78 (mRf_fld (by decide))) u1135.out)).out, (show Hid (w1177 275 79 = w 275 79) from Hid.mk (Eq.trans (q1179 275 79 (mRf_fld (by decide))) (show Hid (w1132 275 79 = w 275 79) from Hid.mk (Eq.trans (q1134.out.fld (by decide)) u30.out)).out)).out, (show Hid (w1177 275 80 = w 275 80) from Hid.mk (Eq.trans (q1179 275 80 (mRf_fld (by decide))) (show Hid (w1132 275 80 = w 275 80) from Hid.mk (Eq.trans (q1134.out.fld (by decide)) u31.out)).out)).out, (show Hid (w1177 275 81 = w 275 81) from Hid.mk (Eq.trans (q1179 275 81 (mRf_fld (by decide))) (show Hid (w1132 275 81 = w 275 81) from Hid.mk (Eq.trans (q1134.out.fld (by decide)) u32.out)).out)).out, (show Hid (w1177 275 82 = w 275 82) from Hid.mk (Eq.trans (q1179 275 82 (mRf_fld (by decide))) (show Hid (w1132 275 82 = w 275 82) from Hid.mk (Eq.trans (q1134.out.fld (by decide)) u33.out)).out)).out, (show Hid (w1177 275 83 = w 275 83) from Hid.mk (Eq.trans (q1179 275 83 (mRf_fld (by decide))) (show Hid (w1132 275 83 = w 275 83) from Hid.mk (Eq.trans (q1134.out.fld (by decide)) u34.out)).out)).out, (show Hid (w1177 275 86 = w24 275 86) from Hid.mk (Eq.trans (q1179 275 86 (mRf_fld (by decide))) (show Hid (w1132 275 86 = w24 275 86) from Hid.mk (q1134.out.fld (by decide))).out)).out, (show Hid (w1177 275 94 = w 275 94) from Hid.mk (Eq.trans (q1179 275 94 (mRf_fld (by decide))) (show Hid (w1132 275 94 = w 275 94) from Hid.mk (Eq.trans (q1134.out.fld (by decide)) u36.out)).out)).out]; omega), (fun z => absurd z (by omega))⟩
    · refine e_Ok.sw (tg := 254) rfl (by rw [h44]; rfl) ?_
      refine e_Ok.run (t' := (255, [(2, (0, w 275 78 + 1)), (0, (1, 275)), (1, (0, key))], [(1, 275)], w24)) 1 rfl ?_
      refine e_Ok.callV rfl (Nat.le_trans (by decide) hdq) rfl rfl rfl rfl (c_exp (o := w 275 83) (Nat.le_trans (by decide) hdq) (by omega) w24 N (w 275 79) (w 275 81) (0) (enc P (w 275 78 + 1) (w 275 94)) c37 hNr (by rw [u35.out] <;> omega) u34.out u32.out (by rw [u29.out, u36.out] <;> omega) (by rw [u29.out, u36.out] <;> exact GS.wf (GA.gs (g41.out (by omega)))) (by omega)) (fun r1193 w1194 h1195 => ?_)
      obtain ⟨rfl, q1196F, q1196c, q1196l, q1196w⟩ := h1195
      unfold cLn at q1196l
      rw [u29.out, u34.out, u36.out] at q1196l
      rw [u29.out, u36.out] at q1196F
      obtain ⟨q11961, q11962, q11963, q11964, q11965, q11966, q11967, q11968, q11969⟩ := q1196l
      replace q1196w := (show Hid _ from q1196w)
      have u1197 : Hid (w1194 275 79 = w 275 79) := Hid.mk (Eq.trans (q1196F 275 79 (mEx_fld (by decide))) u30.out)
      have u1198 : Hid (w1194 275 80 = w 275 80) := Hid.mk (Eq.trans (q1196F 275 80 (mEx_fld (by decide))) u31.out)
      have u1199 : Hid (w1194 275 81 = w 275 81) := Hid.mk (Eq.trans (q1196F 275 81 (mEx_fld (by decide))) u32.out)
      have u1200 : Hid (w1194 275 82 = w 275 82) := Hid.mk (Eq.trans (q1196F 275 82 (mEx_fld (by decide))) u33.out)
      have t1201 := tkS.lin q1196c.2.2.2.1
      have t1202 := e_Has.get q1196c.2.1 (c := 275) (k := 88) (lo := 0) (hi := 7) rfl (by decide)
      have f1203 : e_fr (mStm (w 275 78) (w 275 79) (w 275 80) (w 275 94)) w w1194 := e_fr.trans f40 (e_fr.mono q1196F (fun c k g => mEx_St (by omega) (by omega) g))
      have q1196x : Hid (w1194 275 88 = 0 → GS w1194 N (w1194 275 78) (w1194 275 94) (w 275 79) (w 275 80) P (w 275 81) OW O (0 + 1) ∧ (∀ p, w 275 78 + 1 ≤ p → p < w1194 275 78 → w1194 330 (p + 40000) = w 275 81) ∧ dp w1194 (w 275 78 + 1) = 0 ∧ ((0 : Int) ≠ 0 + 1 → w 275 78 + 1 < w1194 275 78)) := Hid.mk (fun z => GS.ex (GA.gs (g41.out (by omega))) q1196F (by omega) (by omega) (q1196w.out z))
      show e_Ok 20 elay ecode eI (d + 1) 349 (258, [(2, (0, w 275 78 + 1)), (0, (1, 275)), (1, (0, key))], [], w1194) _
      refine e_Ok.ps3 (x := (0, 44)) (y := (1, 275)) (z := (1, 275)) (q := 262) 3 rfl ?_
      refine e_Ok.callV rfl (Nat.le_trans (by decide) hdq) rfl rfl rfl rfl (c_331 q1196c.1 (N := N) q1196c.2.2.2.1) (fun r1207 w1208 h1209 => ?_)
      obtain ⟨z1210, rfl, rfl, q1211⟩ := h1209
      obtain ⟨rfl, q1211, q1211b⟩ | ⟨rfl, q1211n⟩ := q1211
      · refine e_Ok.nrm (q := 265) (st' := [(0, 1), (1, 275)]) rfl rfl ?_
        refine e_Ok.callV rfl (Nat.le_trans (by decide) hdq) rfl rfl rfl rfl (c_334 (Nat.le_trans (by decide) hdq) q1196c.1 q1196c.2.1 q1196c.2.2.1 hNr q1196c.2.2.2.1 (by decide)) (fun r1212 w1213 h1214 => ?_)
        obtain ⟨rfl, q1215⟩ := h1214
        obtain ⟨rfl, q1215z⟩ | ⟨q1215z, q1215b, q1215, q1215s, q1215t⟩ | ⟨q1215z, q1215b, q1215, q1215T, q1215H, q1215r⟩ := q1215
        · refine e_Ok.nrm (q := 268) (st' := []) rfl rfl ?_
          clear q11963
          clear q11969
          refine e_Ok.run (t' := (274, [(2, (0, w 275 78 + 1)), (0, (1, 275)), (1, (0, key))], [(0, 0), (0, 44), (1, 275), (0, 3), (1, 275)], w1194)) 5 rfl ?_
          refine e_Ok.callV rfl (Nat.le_trans (by decide) hdq) rfl rfl rfl rfl (c_336 q1196c.1 (n := w1194 275 78) rfl (by omega) (s := w 275 81) u1199.out (by omega)) (fun r1216 w1217 h1218 => ?_)
          obtain ⟨rfl, q1219⟩ := h1218
          replace q1219 := (show Hid (EM w1194 w1217 (w1194 275 78) 44 (0) (w 275 81)) from q1219)
          have u1220 : Hid (w1217 275 78 = w1194 275 78 + 1) := Hid.mk (Eq.trans q1219.out.2.2.2.2 (by omega))
          have u1230 : Hid (w1217 275 88 = w1194 275 88) := Hid.mk (q1219.out.fld (by decide))
          have f1232 : e_fr (mStm (w 275 78) (w 275 79) (w 275 80) (w 275 94)) w w1217 := e_fr.trans f1203 (q1219.out.st (by omega))
          have c1233 := cSt.em q1196c q1219.out (by decide) (by omega) (by omega)
          refine e_Ok.nrm (q := 277) (st' := [(0, w1194 275 78), (0, 3), (1, 275)]) rfl rfl ?_
          refine e_Ok.callV rfl (Nat.le_trans (by decide) hdq) rfl rfl rfl rfl (c_338 (Nat.le_trans (by decide) hdq) c1233.1 c1233.2.1 c1233.2.2.1 hNr c1233.2.2.2.1 (mm := w1194 275 94) (show Hid (w1217 275 94 = w1194 275 94) from Hid.mk (q1219.out.fld (by decide))).out (by omega) (by decide) (by omega)) (fun r1234 w1235 h1236 => ?_)
          obtain ⟨rfl, q1237⟩ := h1236
          obtain ⟨rfl, q1237z⟩ | ⟨q1237z, q1237k, q1237, q1237T, q1237H, q1237r⟩ | ⟨q1237z, q1237k, w1238, q1237F, q1237T, q1237H, q1237v, q1237o, q1237, q1237s, q1237t⟩ := q1237
          · refine e_Ok.nrm (q := 280) (st' := []) rfl rfl ?_
            rw [u1230.out] at q1237z
            refine e_Ok.run (t' := (399, [(2, (0, w 275 78 + 1)), (0, (1, 275)), (1, (0, key))], [(0, 59), (1, 275), (1, 275)], w1217)) 4 rfl ?_
            refine e_Ok.callV rfl (Nat.le_trans (by decide) hdq) rfl rfl rfl rfl (c_331 c1233.1 (N := N) c1233.2.2.2.1) (fun r1239 w1240 h1241 => ?_)
            obtain ⟨z1242, rfl, rfl, q1243⟩ := h1241
            obtain ⟨rfl, q1243, q1243b⟩ | ⟨rfl, q1243n⟩ := q1243
            · refine e_Ok.nrm (q := 402) (st' := [(0, 1), (1, 275)]) rfl rfl ?_
              rw [(show Hid (w1217 275 84 = w1194 275 84) from Hid.mk (q1219.out.fld (by decide))).out] at q1243
              rw [(show Hid (w1217 275 85 = w1194 275 85) from Hid.mk (q1219.out.fld (by decide))).out] at q1243b
              refine e_Ok.callV rfl (Nat.le_trans (by decide) hdq) rfl rfl rfl rfl (c_334 (Nat.le_trans (by decide) hdq) c1233.1 c1233.2.1 c1233.2.2.1 hNr c1233.2.2.2.1 (by decide)) (fun r1244 w1245 h1246 => ?_)
              obtain ⟨rfl, q1247⟩ := h1246
              obtain ⟨rfl, q1247z⟩ | ⟨q1247z, q1247b, q1247, q1247s, q1247t⟩ | ⟨q1247z, q1247b, q1247, q1247T, q1247H, q1247r⟩ := q1247
              · show e_Ok 20 elay ecode eI (d + 1) 349 (405, [(2, (0, w 275 78 + 1)), (0, (1, 275)), (1, (0, key))], [], w1217) _
                rw [u1230.out] at q1247z
                refine e_Ok.rets rfl rfl ?_
                exact ⟨rfl, f1232, c1233, (by unfold stL; rw [u1220.out, (show Hid (w1217 275 79 = w 275 79) from Hid.mk (Eq.trans (q1219.out.fld (by decide)) u1197.out)).out, (show Hid (w1217 275 80 = w 275 80) from Hid.mk (Eq.trans (q1219.out.fld (by decide)) u1198.out)).out, (show Hid (w1217 275 81 = w 275 81) from Hid.mk (Eq.trans (q1219.out.fld (by decide)) u1199.out)).out, (show Hid (w1217 275 82 = w 275 82) from Hid.mk (Eq.trans (q1219.out.fld (by decide)) u1200.out)).out, (show Hid (w1217 275 83 = w1194 275 83) from Hid.mk (q1219.out.fld (by decide))).out, (show Hid (w1217 275 86 = w1194 275 86) from Hid.mk (q1219.out.fld (by decide))).out, u1230.out, (show Hid (w1217 275 94 = w1194 275 94) from Hid.mk (q1219.out.fld (by decide))).out]; omega), (fun z => by rw [u1230.out] at z; exact absurd z (by omega))⟩
              · rw [u1230.out] at q1247z; exact absurd q1247z (by omega)
              · rw [u1230.out] at q1247z; exact absurd q1247z (by omega)
            · refine e_Ok.nrm (q := 402) (st' := [(0, 0), (1, 275)]) rfl rfl ?_
              clear q1243n
              refine e_Ok.callV rfl (Nat.le_trans (by decide) hdq) rfl rfl rfl rfl (c_334 (Nat.le_trans (by decide) hdq) c1233.1 c1233.2.1 c1233.2.2.1 hNr c1233.2.2.2.1 (by decide)) (fun r1248 w1249 h1250 => ?_)
              obtain ⟨rfl, q1251⟩ := h1250
              obtain ⟨rfl, q1251z⟩ | ⟨q1251z, q1251b, q1251, q1251s, q1251t⟩ | ⟨q1251z, q1251b, q1251, q1251T, q1251H, q1251r⟩ := q1251
              · refine e_Ok.nrm (q := 405) (st' := []) rfl rfl ?_
                rw [u1230.out] at q1251z
                refine e_Ok.rets rfl rfl ?_
                exact ⟨rfl, f1232, c1233, (by unfold stL; rw [u1220.out, (show Hid (w1217 275 79 = w 275 79) from Hid.mk (Eq.trans (q1219.out.fld (by decide)) u1197.out)).out, (show Hid (w1217 275 80 = w 275 80) from Hid.mk (Eq.trans (q1219.out.fld (by decide)) u1198.out)).out, (show Hid (w1217 275 81 = w 275 81) from Hid.mk (Eq.trans (q1219.out.fld (by decide)) u1199.out)).out, (show Hid (w1217 275 82 = w 275 82) from Hid.mk (Eq.trans (q1219.out.fld (by decide)) u1200.out)).out, (show Hid (w1217 275 83 = w1194 275 83) from Hid.mk (q1219.out.fld (by decide))).out, (show Hid (w1217 275 86 = w1194 275 86) from Hid.mk (q1219.out.fld (by decide))).out, u1230.out, (show Hid (w1217 275 94 = w1194 275 94) from Hid.mk (q1219.out.fld (by decide))).out]; omega), (fun z => by rw [u1230.out] at z; exact absurd z (by omega))⟩
              · rw [u1230.out] at q1251z; exact absurd q1251z (by omega)
              · rw [u1230.out] at q1251z; exact absurd q1251z (by omega)
          · rw [u1230.out] at q1237z; exact absurd q1237z (by omega)
          · rw [u1230.out] at q1237z; exact absurd q1237z (by omega)
        · refine e_Ok.nrm (q := 268) (st' := []) rfl rfl ?_
          replace q11963 := q11963 (by omega)
          replace q11969 := q11969 (by omega)
          have p1252 := tkS.pos q1196c.2.2.2.1 (by omega)
          have c1261 := cSt.tk q1196c q1215 q1215s
          have t1262 := tkS.lin c1261.2.2.2.1
          refine e_Ok.run (t' := (274, [(2, (0, w 275 78 + 1)), (0, (1, 275)), (1, (0, key))], [(0, 0), (0, 44), (1, 275), (0, 3), (1, 275)], w1213)) 5 rfl ?_
          refine e_Ok.callV rfl (Nat.le_trans (by decide) hdq) rfl rfl rfl rfl (c_336 c1261.1 (n := w1194 275 78) (show Hid (w1213 275 78 = w1194 275 78) from Hid.mk (q1215 275 78 (mTq_fld (by decide)))).out (by omega) (s := w 275 81) (show Hid (w1213 275 81 = w 275 81) from Hid.mk (Eq.trans (q1215 275 81 (mTq_fld (by decide))) u1199.out)).out (by omega)) (fun r1267 w1268 h1269 => ?_)
          obtain ⟨rfl, q1270⟩ := h1269
          replace q1270 := (show Hid (EM w1213 w1268 (w1194 275 78) 44 (0) (w 275 81)) from q1270)
          have u1271 : Hid (w1268 275 78 = w1194 275 78 + 1) := Hid.mk (Eq.trans q1270.out.2.2.2.2 (by omega))
          have u1279 : Hid (w1268 275 86 = w1213 275 86) := Hid.mk (q1270.out.fld (by decide))
          have u1281 : Hid (w1268 275 88 = w1194 275 88) := Hid.mk (Eq.trans (q1270.out.fld (by decide)) (show Hid (w1213 275 88 = w1194 275 88) from Hid.mk (q1215 275 88 (mTq_fld (by decide)))).out)
          have f1283 : e_fr (mStm (w 275 78) (w 275 79) (w 275 80) (w 275 94)) w w1268 := e_fr.trans (show e_fr (mStm (w 275 78) (w 275 79) (w 275 80) (w 275 94)) w w1213 from e_fr.trans f1203 (e_fr.mono q1215 (fun c k g => mTq_St g))) (q1270.out.st (by omega))
          have c1284 := cSt.em c1261 q1270.out (by decide) (by omega) (by omega)
          refine e_Ok.nrm (q := 277) (st' := [(0, w1194 275 78), (0, 3), (1, 275)]) rfl rfl ?_
          refine e_Ok.callV rfl (Nat.le_trans (by decide) hdq) rfl rfl rfl rfl (c_338 (Nat.le_trans (by decide) hdq) c1284.1 c1284.2.1 c1284.2.2.1 hNr c1284.2.2.2.1 (mm := w1194 275 94) (show Hid (w1268 275 94 = w1194 275 94) from Hid.mk (Eq.trans (q1270.out.fld (by decide)) (show Hid (w1213 275 94 = w1194 275 94) from Hid.mk (q1215 275 94 (mTq_fld (by decide)))).out)).out (by omega) (by decide) (by omega)) (fun r1287 w1288 h1289 => ?_)
          obtain ⟨rfl, q1290⟩ := h1289
          obtain ⟨rfl, q1290z⟩ | ⟨q1290z, q1290k, q1290, q1290T, q1290H, q1290r⟩ | ⟨q1290z, q1290k, w1291, q1290F, q1290T, q1290H, q1290v, q1290o, q1290, q1290s, q1290t⟩ := q1290
          · rw [u1281.out] at q1290z; exact absurd q1290z (by omega)
          · refine e_Ok.nrm (q := 280) (st' := []) rfl rfl ?_
            rw [u1281.out] at q1290z
            clear q1290k
            have c1303 := cSt.rf c1284 q1290 q1290T q1290H
            have f1304 : e_fr (mStm (w 275 78) (w 275 79) (w 275 80) (w 275 94)) w w1288 := e_fr.trans f1283 (e_fr.mono q1290 (fun c k g => mRf_St g))
            refine e_Ok.run (t' := (399, [(2, (0, w 275 78 + 1)), (0, (1, 275)), (1, (0, key))], [(0, 59), (1, 275), (1, 275)], w1288)) 4 rfl ?_
            refine e_Ok.callV rfl (Nat.le_trans (by decide) hdq) rfl rfl rfl rfl (c_331 c1303.1 (N := N) c1303.2.2.2.1) (fun r1305 w1306 h1307 => ?_)
            obtain ⟨z1308, rfl, rfl, q1309⟩ := h1307
            obtain ⟨rfl, q1309, q1309b⟩ | ⟨rfl, q1309n⟩ := q1309
            · refine e_Ok.nrm (q := 402) (st' := [(0, 1), (1, 275)]) rfl rfl ?_
              rw [(show Hid (w1288 275 84 = w1213 275 84) from Hid.mk (Eq.trans (q1290 275 84 (mRf_fld (by decide))) (show Hid (w1268 275 84 = w1213 275 84) from Hid.mk (q1270.out.fld (by decide))).out)).out] at q1309
              rw [(show Hid (w1288 275 85 = w1213 275 85) from Hid.mk (Eq.trans (q1290 275 85 (mRf_fld (by decide))) (show Hid (w1268 275 85 = w1213 275 85) from Hid.mk (q1270.out.fld (by decide))).out)).out] at q1309b
              refine e_Ok.callV rfl (Nat.le_trans (by decide) hdq) rfl rfl rfl rfl (c_334 (Nat.le_trans (by decide) hdq) c1303.1 c1303.2.1 c1303.2.2.1 hNr c1303.2.2.2.1 (by decide)) (fun r1310 w1311 h1312 => ?_)
              obtain ⟨rfl, q1313⟩ := h1312
              obtain ⟨rfl, q1313z⟩ | ⟨q1313z, q1313b, q1313, q1313s, q1313t⟩ | ⟨q1313z, q1313b, q1313, q1313T, q1313H, q1313r⟩ := q1313
              · show e_Ok 20 elay ecode eI (d + 1) 349 (405, [(2, (0, w 275 78 + 1)), (0, (1, 275)), (1, (0, key))], [], w1288) _
                refine e_Ok.rets rfl rfl ?_
                exact ⟨rfl, f1304, c1303, (by unfold stL; rw [(show Hid (w1288 275 78 = w1194 275 78 + 1) from Hid.mk (Eq.trans (q1290 275 78 (mRf_fld (by decide))) u1271.out)).out, (show Hid (w1288 275 79 = w 275 79) from Hid.mk (Eq.trans (q1290 275 79 (mRf_fld (by decide))) (show Hid (w1268 275 79 = w 275 79) from Hid.mk (Eq.trans (q1270.out.fld (by decide)) (show Hid (w1213 275 79 = w 275 79) from Hid.mk (Eq.trans (q1215 275 79 (mTq_fld (by decide))) u1197.out)).out)).out)).out, (show Hid (w1288 275 80 = w 275 80) from Hid.mk (Eq.trans (q1290 275 80 (mRf_fld (by decide))) (show Hid (w1268 275 80 = w 275 80) from Hid.mk (Eq.trans (q1270.out.fld (by decide)) (show Hid (w1213 275 80 = w 275 80) from Hid.mk (Eq.trans (q1215 275 80 (mTq_fld (by decide))) u1198.out)).out)).out)).out, (show Hid (w1288 275 81 = w 275 81) from Hid.mk (Eq.trans (q1290 275 81 (mRf_fld (by decide))) (show Hid (w1268 275 81 = w 275 81) from Hid.mk (Eq.trans (q1270.out.fld (by decide)) (show Hid (w1213 275 81 = w 275 81) from Hid.mk (Eq.trans (q1215 275 81 (mTq_fld (by decide))) u1199.out)).out)).out)).out, (show Hid (w1288 275 82 = w 275 82) from Hid.mk (Eq.trans (q1290 275 82 (mRf_fld (by decide))) (show Hid (w1268 275 82 = w 275 82) from Hid.mk (Eq.trans (q1270.out.fld (by decide)) (show Hid (w1213 275 82 = w 275 82) from Hid.mk (Eq.trans (q1215 275 82 (mTq_fld (by decide))) u1200.out)).out)).out)).out, (show Hid (w1288 275 83 = w1194 275 83) from Hid.mk (Eq.trans (q1290 275 83 (mRf_fld (by decide))) (show Hid (w1268 275 83 = w1194 275 83) from Hid.mk (Eq.trans (q1270.out.fld (by decide)) (show Hid (w1213 275 83 = w1194 275 83) from Hid.mk (q1215 275 83 (mTq_fld (by decide)))).out)).out)).out, (show Hid (w1288 275 86 = w1213 275 86) from Hid.mk (Eq.trans (q1290 275 86 (mRf_fld (by decide))) u1279.out)).out, (show Hid (w1288 275 94 = w1194 275 94) from Hid.mk (Eq.trans (q1290 275 94 (mRf_fld (by decide))) (show Hid (w1268 275 94 = w1194 275 94) from Hid.mk (Eq.trans (q1270.out.fld (by decide)) (show Hid (w1213 275 94 = w1194 275 94) from Hid.mk (q1215 275 94 (mTq_fld (by decide)))).out)).out)).out]; omega), (fun z => absurd z (by omega))⟩
              · exact absurd q1313z (by omega)
              · exact absurd q1313z (by omega)
            · refine e_Ok.nrm (q := 402) (st' := [(0, 0), (1, 275)]) rfl rfl ?_
              clear q1309n
              refine e_Ok.callV rfl (Nat.le_trans (by decide) hdq) rfl rfl rfl rfl (c_334 (Nat.le_trans (by decide) hdq) c1303.1 c1303.2.1 c1303.2.2.1 hNr c1303.2.2.2.1 (by decide)) (fun r1314 w1315 h1316 => ?_)
              obtain ⟨rfl, q1317⟩ := h1316
              obtain ⟨rfl, q1317z⟩ | ⟨q1317z, q1317b, q1317, q1317s, q1317t⟩ | ⟨q1317z, q1317b, q1317, q1317T, q1317H, q1317r⟩ := q1317
              · refine e_Ok.nrm (q := 405) (st' := []) rfl rfl ?_
                refine e_Ok.rets rfl rfl ?_
                exact ⟨rfl, f1304, c1303, (by unfold stL; rw [(show Hid (w1288 275 78 = w1194 275 78 + 1) from Hid.mk (Eq.trans (q1290 275 78 (mRf_fld (by decide))) u1271.out)).out, (show Hid (w1288 275 79 = w 275 79) from Hid.mk (Eq.trans (q1290 275 79 (mRf_fld (by decide))) (show Hid (w1268 275 79 = w 275 79) from Hid.mk (Eq.trans (q1270.out.fld (by decide)) (show Hid (w1213 275 79 = w 275 79) from Hid.mk (Eq.trans (q1215 275 79 (mTq_fld (by decide))) u1197.out)).out)).out)).out, (show Hid (w1288 275 80 = w 275 80) from Hid.mk (Eq.trans (q1290 275 80 (mRf_fld (by decide))) (show Hid (w1268 275 80 = w 275 80) from Hid.mk (Eq.trans (q1270.out.fld (by decide)) (show Hid (w1213 275 80 = w 275 80) from Hid.mk (Eq.trans (q1215 275 80 (mTq_fld (by decide))) u1198.out)).out)).out)).out, (show Hid (w1288 275 81 = w 275 81) from Hid.mk (Eq.trans (q1290 275 81 (mRf_fld (by decide))) (show Hid (w1268 275 81 = w 275 81) from Hid.mk (Eq.trans (q1270.out.fld (by decide)) (show Hid (w1213 275 81 = w 275 81) from Hid.mk (Eq.trans (q1215 275 81 (mTq_fld (by decide))) u1199.out)).out)).out)).out, (show Hid (w1288 275 82 = w 275 82) from Hid.mk (Eq.trans (q1290 275 82 (mRf_fld (by decide))) (show Hid (w1268 275 82 = w 275 82) from Hid.mk (Eq.trans (q1270.out.fld (by decide)) (show Hid (w1213 275 82 = w 275 82) from Hid.mk (Eq.trans (q1215 275 82 (mTq_fld (by decide))) u1200.out)).out)).out)).out, (show Hid (w1288 275 83 = w1194 275 83) from Hid.mk (Eq.trans (q1290 275 83 (mRf_fld (by decide))) (show Hid (w1268 275 83 = w1194 275 83) from Hid.mk (Eq.trans (q1270.out.fld (by decide)) (show Hid (w1213 275 83 = w1194 275 83) from Hid.mk (q1215 275 83 (mTq_fld (by decide)))).out)).out)).out, (show Hid (w1288 275 86 = w1213 275 86) from Hid.mk (Eq.trans (q1290 275 86 (mRf_fld (by decide))) u1279.out)).out, (show Hid (w1288 275 94 = w1194 275 94) from Hid.mk (Eq.trans (q1290 275 94 (mRf_fld (by decide))) (show Hid (w1268 275 94 = w1194 275 94) from Hid.mk (Eq.trans (q1270.out.fld (by decide)) (show Hid (w1213 275 94 = w1194 275 94) from Hid.mk (q1215 275 94 (mTq_fld (by decide)))).out)).out)).out]; omega), (fun z => absurd z (by omega))⟩
              · exact absurd q1317z (by omega)
              · exact absurd q1317z (by omega)
          · refine e_Ok.nrm (q := 280) (st' := []) rfl rfl ?_
            rw [u1281.out] at q1290z
            rw [(show Hid (w1268 275 84 = w1213 275 84) from Hid.mk (q1270.out.fld (by decide))).out] at q1290k
            rw [(show Hid (w1268 275 87 = w1213 275 87) from Hid.mk (q1270.out.fld (by decide))).out] at q1290t
            have p1318 := tkS.pos c1284.2.2.2.1 (by rw [(show Hid (w1268 275 84 = w1213 275 84) from Hid.mk (q1270.out.fld (by decide))).out] <;> omega)
            rw [u1279.out, (show Hid (w1268 275 87 = w1213 275 87) from Hid.mk (q1270.out.fld (by decide))).out] at p1318
            obtain ⟨q1290v1, q1290v2, q1290v3, q1290v4, q1290v5⟩ := q1290v
            rw [u1279.out] at q1290v2
            rw [u1279.out, (show Hid (w1268 275 87 = w1213 275 87) from Hid.mk (q1270.out.fld (by decide))).out] at q1290v3
            replace q1290v1 := (show Hid _ from q1290v1)
            replace q1290v2 := (show Hid _ from q1290v2)
            replace q1290v3 := (show Hid _ from q1290v3)
            replace q1290v4 := (show Hid _ from q1290v4)
            replace q1290v5 := (show Hid _ from q1290v5)
            replace q1290o := (show Hid _ from q1290o)
            have u1340 : Hid (w1288 275 88 = w1194 275 88) := Hid.mk (Eq.trans (q1290 275 88 (mTq_fld (by decide))) (show Hid (w1291 275 88 = w1194 275 88) from Hid.mk (Eq.trans (q1290F 275 88 (mNm_fld (by decide))) u1281.out)).out)
            have c1342 := cSt.tk (cSt.nm c1284 q1290F) q1290 q1290s
            have t1343 := tkS.lin c1342.2.2.2.1
            have f1344 : e_fr (mStm (w 275 78) (w 275 79) (w 275 80) (w 275 94)) w w1288 := e_fr.trans (show e_fr (mStm (w 275 78) (w 275 79) (w 275 80) (w 275 94)) w w1291 from e_fr.trans f1283 (fun c k g => q1290o.out c k (fun g2 => g (by unfold mStm; omega)))) (e_fr.mono q1290 (fun c k g => mTq_St g))
            refine e_Ok.run (t' := (399, [(2, (0, w 275 78 + 1)), (0, (1, 275)), (1, (0, key))], [(0, 59), (1, 275), (1, 275)], w1288)) 4 rfl ?_
            refine e_Ok.callV rfl (Nat.le_trans (by decide) hdq) rfl rfl rfl rfl (c_331 c1342.1 (N := N) c1342.2.2.2.1) (fun r1346 w1347 h1348 => ?_)
            obtain ⟨z1349, rfl, rfl, q1350⟩ := h1348
            obtain ⟨rfl, q1350, q1350b⟩ | ⟨rfl, q1350n⟩ := q1350
            · refine e_Ok.nrm (q := 402) (st' := [(0, 1), (1, 275)]) rfl rfl ?_
              refine e_Ok.callV rfl (Nat.le_trans (by decide) hdq) rfl rfl rfl rfl (c_334 (Nat.le_trans (by decide) hdq) c1342.1 c1342.2.1 c1342.2.2.1 hNr c1342.2.2.2.1 (by decide)) (fun r1351 w1352 h1353 => ?_)
              obtain ⟨rfl, q1354⟩ := h1353
              obtain ⟨rfl, q1354z⟩ | ⟨q1354z, q1354b, q1354, q1354s, q1354t⟩ | ⟨q1354z, q1354b, q1354, q1354T, q1354H, q1354r⟩ := q1354
              · rw [u1340.out] at q1354z; exact absurd q1354z (by omega)
              · refine e_Ok.nrm (q := 405) (st' := []) rfl rfl ?_
                rw [u1340.out] at q1354z
                have p1355 := tkS.pos c1342.2.2.2.1 (by omega)
                have c1364 := cSt.tk c1342 q1354 q1354s
                have t1365 := tkS.lin c1364.2.2.2.1
                refine e_Ok.rets rfl rfl ?_
                exact ⟨rfl, (show e_fr (mStm (w 275 78) (w 275 79) (w 275 80) (w 275 94)) w w1352 from e_fr.trans f1344 (e_fr.mono q1354 (fun c k g => mTq_St g))), c1364, (by unfold stL; rw [(show Hid (w1352 275 78 = w1194 275 78 + 1) from Hid.mk (Eq.trans (q1354 275 78 (mTq_fld (by decide))) (show Hid (w1288 275 78 = w1194 275 78 + 1) from Hid.mk (Eq.trans (q1290 275 78 (mTq_fld (by decide))) (show Hid (w1291 275 78 = w1194 275 78 + 1) from Hid.mk (Eq.trans (q1290F 275 78 (mNm_fld (by decide))) u1271.out)).out)).out)).out, (show Hid (w1352 275 79 = w 275 79) from Hid.mk (Eq.trans (q1354 275 79 (mTq_fld (by decide))) (show Hid (w1288 275 79 = w 275 79) from Hid.mk (Eq.trans (q1290 275 79 (mTq_fld (by decide))) (show Hid (w1291 275 79 = w 275 79) from Hid.mk (Eq.trans (q1290F 275 79 (mNm_fld (by decide))) (show Hid (w1268 275 79 = w 275 79) from Hid.mk (Eq.trans (q1270.out.fld (by decide)) (show Hid (w1213 275 79 = w 275 79) from Hid.mk (Eq.trans (q1215 275 79 (mTq_fld (by decide))) u1197.out)).out)).out)).out)).out)).out, (show Hid (w1352 275 80 = w 275 80) from Hid.mk (Eq.trans (q1354 275 80 (mTq_fld (by decide))) (show Hid (w1288 275 80 = w 275 80) from Hid.mk (Eq.trans (q1290 275 80 (mTq_fld (by decide))) (show Hid (w1291 275 80 = w 275 80) from Hid.mk (Eq.trans (q1290F 275 80 (mNm_fld (by decide))) (show Hid (w1268 275 80 = w 275 80) from Hid.mk (Eq.trans (q1270.out.fld (by decide)) (show Hid (w1213 275 80 = w 275 80) from Hid.mk (Eq.trans (q1215 275 80 (mTq_fld (by decide))) u1198.out)).out)).out)).out)).out)).out, (show Hid (w1352 275 81 = w 275 81) from Hid.mk (Eq.trans (q1354 275 81 (mTq_fld (by decide))) (show Hid (w1288 275 81 = w 275 81) from Hid.mk (Eq.trans (q1290 275 81 (mTq_fld (by decide))) (show Hid (w1291 275 81 = w 275 81) from Hid.mk (Eq.trans (q1290F 275 81 (mNm_fld (by decide))) (show Hid (w1268 275 81 = w 275 81) from Hid.mk (Eq.trans (q1270.out.fld (by decide)) (show Hid (w1213 275 81 = w 275 81) from Hid.mk (Eq.trans (q1215 275 81 (mTq_fld (by decide))) u1199.out)).out)).out)).out)).out)).out, (show Hid (w1352 275 82 = w 275 82) from Hid.mk (Eq.trans (q1354 275 82 (mTq_fld (by decide))) (show Hid (w1288 275 82 = w 275 82) from Hid.mk (Eq.trans (q1290 275 82 (mTq_fld (by decide))) (show Hid (w1291 275 82 = w 275 82) from Hid.mk (Eq.trans (q1290F 275 82 (mNm_fld (by decide))) (show Hid (w1268 275 82 = w 275 82) from Hid.mk (Eq.trans (q1270.out.fld (by decide)) (show Hid (w1213 275 82 = w 275 82) from Hid.mk (Eq.trans (q1215 275 82 (mTq_fld (by decide))) u1200.out)).out)).out)).out)).out)).out, (show Hid (w1352 275 83 = w1194 275 83) from Hid.mk (Eq.trans (q1354 275 83 (mTq_fld (by decide))) (show Hid (w1288 275 83 = w1194 275 83) from Hid.mk (Eq.trans (q1290 275 83 (mTq_fld (by decide))) (show Hid (w1291 275 83 = w1194 275 83) from Hid.mk (Eq.trans (q1290F 275 83 (mNm_fld (by decide))) (show Hid (w1268 275 83 = w1194 275 83) from Hid.mk (Eq.trans (q1270.out.fld (by decide)) (show Hid (w1213 275 83 = w1194 275 83) from Hid.mk (q1215 275 83 (mTq_fld (by decide)))).out)).out)).out)).out)).out, (show Hid (w1352 275 88 = w1194 275 88) from Hid.mk (Eq.trans (q1354 275 88 (mTq_fld (by decide))) u1340.out)).out, (show Hid (w1352 275 94 = w1194 275 94 + 1) from Hid.mk (Eq.trans (q1354 275 94 (mTq_fld (by decide))) (show Hid (w1288 275 94 = w1194 275 94 + 1) from Hid.mk (Eq.trans (q1290 275 94 (mTq_fld (by decide))) (show Hid (w1291 275 94 = w1194 275 94 + 1) from Hid.mk (Eq.trans q1290v5.out (by omega))).out)).out)).out]; omega), (fun z => by rw [(show Hid (w1352 275 88 = w1194 275 88) from Hid.mk (Eq.trans (q1354 275 88 (mTq_fld (by decide))) u1340.out)).out] at z; rw [(show Hid (w1352 275 78 = w1194 275 78 + 1) from Hid.mk (Eq.trans (q1354 275 78 (mTq_fld (by decide))) (show Hid (w1288 275 78 = w1194 275 78 + 1) from Hid.mk (Eq.trans (q1290 275 78 (mTq_fld (by decide))) (show Hid (w1291 275 78 = w1194 275 78 + 1) from Hid.mk (Eq.trans (q1290F 275 78 (mNm_fld (by decide))) u1271.out)).out)).out)).out, (show Hid (w1352 275 94 = w1194 275 94 + 1) from Hid.mk (Eq.trans (q1354 275 94 (mTq_fld (by decide))) (show Hid (w1288 275 94 = w1194 275 94 + 1) from Hid.mk (Eq.trans (q1290 275 94 (mTq_fld (by decide))) (show Hid (w1291 275 94 = w1194 275 94 + 1) from Hid.mk (Eq.trans q1290v5.out (by omega))).out)).out)).out, (show Hid (w1352 275 79 = w 275 79) from Hid.mk (Eq.trans (q1354 275 79 (mTq_fld (by decide))) (show Hid (w1288 275 79 = w 275 79) from Hid.mk (Eq.trans (q1290 275 79 (mTq_fld (by decide))) (show Hid (w1291 275 79 = w 275 79) from Hid.mk (Eq.trans (q1290F 275 79 (mNm_fld (by decide))) (show Hid (w1268 275 79 = w 275 79) from Hid.mk (Eq.trans (q1270.out.fld (by decide)) (show Hid (w1213 275 79 = w 275 79) from Hid.mk (Eq.trans (q1215 275 79 (mTq_fld (by decide))) u1197.out)).out)).out)).out)).out)).out, (show Hid (w1352 275 80 = w 275 80) from Hid.mk (Eq.trans (q1354 275 80 (mTq_fld (by decide))) (show Hid (w1288 275 80 = w 275 80) from Hid.mk (Eq.trans (q1290 275 80 (mTq_fld (by decide))) (show Hid (w1291 275 80 = w 275 80) from Hid.mk (Eq.trans (q1290F 275 80 (mNm_fld (by decide))) (show Hid (w1268 275 80 = w 275 80) from Hid.mk (Eq.trans (q1270.out.fld (by decide)) (show Hid (w1213 275 80 = w 275 80) from Hid.mk (Eq.trans (q1215 275 80 (mTq_fld (by decide))) u1198.out)).out)).out)).out)).out)).out, (show Hid (w1352 275 81 = w 275 81) from Hid.mk (Eq.trans (q1354 275 81 (mTq_fld (by decide))) (show Hid (w1288 275 81 = w 275 81) from Hid.mk (Eq.trans (q1290 275 81 (mTq_fld (by decide))) (show Hid (w1291 275 81 = w 275 81) from Hid.mk (Eq.trans (q1290F 275 81 (mNm_fld (by decide))) (show Hid (w1268 275 81 = w 275 81) from Hid.mk (Eq.trans (q1270.out.fld (by decide)) (show Hid (w1213 275 81 = w 275 81) from Hid.mk (Eq.trans (q1215 275 81 (mTq_fld (by decide))) u1199.out)).out)).out)).out)).out)).out]; exact ((show Hid (w1194 275 88 = 0 → GB w1352 N (w1194 275 78 + 1) (w1194 275 94 + 1) (w 275 79) (w 275 80) P (w 275 81) OW O) from Hid.mk (fun z => GB.pr ((show Hid (w1194 275 88 = 0 → GB w1288 N (w1194 275 78 + 1) (w1194 275 94 + 1) (w 275 79) (w 275 80) P (w 275 81) OW O) from Hid.mk (fun z => GB.pr ((show Hid (w1194 275 88 = 0 → GB w1291 N (w1194 275 78 + 1) (w1194 275 94 + 1) (w 275 79) (w 275 80) P (w 275 81) OW O) from Hid.mk (fun z => (GS.call (ta := w1213 275 86) (te := w1213 275 87) (GS.re ((show Hid (w1194 275 88 = 0 → GS w1213 N (w1194 275 78) (w1194 275 94) (w 275 79) (w 275 80) P (w 275 81) OW O (0 + 1)) from Hid.mk (fun z => GS.pr ((show Hid (w1194 275 88 = 0 → GS w1194 N (w1194 275 78) (w1194 275 94) (w 275 79) (w 275 80) P (w 275 81) OW O (0 + 1)) from Hid.mk (fun z => (q1196x.out z).1)).out z) (prE.tk q1215))).out (by omega)) rfl rfl rfl rfl rfl (show _ = 1 from by omega)) q1270.out (by omega) (by unfold iOw; omega) ⟨q1290v1.out, q1290v2.out, q1290v3.out, Eq.trans q1290v4.out (show _ = w1194 275 78 from by omega)⟩ q1290o.out (by omega) hNr.2))).out z) (prE.tk q1290))).out z) (prE.tk q1354))).out (by omega)))⟩
              · exact absurd q1354b (by decide)
            · refine e_Ok.nrm (q := 402) (st' := [(0, 0), (1, 275)]) rfl rfl ?_
              clear q1350n
              refine e_Ok.callV rfl (Nat.le_trans (by decide) hdq) rfl rfl rfl rfl (c_334 (Nat.le_trans (by decide) hdq) c1342.1 c1342.2.1 c1342.2.2.1 hNr c1342.2.2.2.1 (by decide)) (fun r1368 w1369 h1370 => ?_)
              obtain ⟨rfl, q1371⟩ := h1370
              obtain ⟨rfl, q1371z⟩ | ⟨q1371z, q1371b, q1371, q1371s, q1371t⟩ | ⟨q1371z, q1371b, q1371, q1371T, q1371H, q1371r⟩ := q1371
              · rw [u1340.out] at q1371z; exact absurd q1371z (by omega)
              · exact absurd q1371b (by decide)
              · refine e_Ok.nrm (q := 405) (st' := []) rfl rfl ?_
                rw [u1340.out] at q1371z
                refine e_Ok.rets rfl rfl ?_
                exact ⟨rfl, (show e_fr (mStm (w 275 78) (w 275 79) (w 275 80) (w 275 94)) w w1369 from e_fr.trans f1344 (e_fr.mono q1371 (fun c k g => mRf_St g))), (cSt.rf c1342 q1371 q1371T q1371H), (by unfold stL; rw [(show Hid (w1369 275 78 = w1194 275 78 + 1) from Hid.mk (Eq.trans (q1371 275 78 (mRf_fld (by decide))) (show Hid (w1288 275 78 = w1194 275 78 + 1) from Hid.mk (Eq.trans (q1290 275 78 (mTq_fld (by decide))) (show Hid (w1291 275 78 = w1194 275 78 + 1) from Hid.mk (Eq.trans (q1290F 275 78 (mNm_fld (by decide))) u1271.out)).out)).out)).out, (show Hid (w1369 275 79 = w 275 79) from Hid.mk (Eq.trans (q1371 275 79 (mRf_fld (by decide))) (show Hid (w1288 275 79 = w 275 79) from Hid.mk (Eq.trans (q1290 275 79 (mTq_fld (by decide))) (show Hid (w1291 275 79 = w 275 79) from Hid.mk (Eq.trans (q1290F 275 79 (mNm_fld (by decide))) (show Hid (w1268 275 79 = w 275 79) from Hid.mk (Eq.trans (q1270.out.fld (by decide)) (show Hid (w1213 275 79 = w 275 79) from Hid.mk (Eq.trans (q1215 275 79 (mTq_fld (by decide))) u1197.out)).out)).out)).out)).out)).out, (show Hid (w1369 275 80 = w 275 80) from Hid.mk (Eq.trans (q1371 275 80 (mRf_fld (by decide))) (show Hid (w1288 275 80 = w 275 80) from Hid.mk (Eq.trans (q1290 275 80 (mTq_fld (by decide))) (show Hid (w1291 275 80 = w 275 80) from Hid.mk (Eq.trans (q1290F 275 80 (mNm_fld (by decide))) (show Hid (w1268 275 80 = w 275 80) from Hid.mk (Eq.trans (q1270.out.fld (by decide)) (show Hid (w1213 275 80 = w 275 80) from Hid.mk (Eq.trans (q1215 275 80 (mTq_fld (by decide))) u1198.out)).out)).out)).out)).out)).out, (show Hid (w1369 275 81 = w 275 81) from Hid.mk (Eq.trans (q1371 275 81 (mRf_fld (by decide))) (show Hid (w1288 275 81 = w 275 81) from Hid.mk (Eq.trans (q1290 275 81 (mTq_fld (by decide))) (show Hid (w1291 275 81 = w 275 81) from Hid.mk (Eq.trans (q1290F 275 81 (mNm_fld (by decide))) (show Hid (w1268 275 81 = w 275 81) from Hid.mk (Eq.trans (q1270.out.fld (by decide)) (show Hid (w1213 275 81 = w 275 81) from Hid.mk (Eq.trans (q1215 275 81 (mTq_fld (by decide))) u1199.out)).out)).out)).out)).out)).out, (show Hid (w1369 275 82 = w 275 82) from Hid.mk (Eq.trans (q1371 275 82 (mRf_fld (by decide))) (show Hid (w1288 275 82 = w 275 82) from Hid.mk (Eq.trans (q1290 275 82 (mTq_fld (by decide))) (show Hid (w1291 275 82 = w 275 82) from Hid.mk (Eq.trans (q1290F 275 82 (mNm_fld (by decide))) (show Hid (w1268 275 82 = w 275 82) from Hid.mk (Eq.trans (q1270.out.fld (by decide)) (show Hid (w1213 275 82 = w 275 82) from Hid.mk (Eq.trans (q1215 275 82 (mTq_fld (by decide))) u1200.out)).out)).out)).out)).out)).out, (show Hid (w1369 275 83 = w1194 275 83) from Hid.mk (Eq.trans (q1371 275 83 (mRf_fld (by decide))) (show Hid (w1288 275 83 = w1194 275 83) from Hid.mk (Eq.trans (q1290 275 83 (mTq_fld (by decide))) (show Hid (w1291 275 83 = w1194 275 83) from Hid.mk (Eq.trans (q1290F 275 83 (mNm_fld (by decide))) (show Hid (w1268 275 83 = w1194 275 83) from Hid.mk (Eq.trans (q1270.out.fld (by decide)) (show Hid (w1213 275 83 = w1194 275 83) from Hid.mk (q1215 275 83 (mTq_fld (by decide)))).out)).out)).out)).out)).out, (show Hid (w1369 275 86 = w1288 275 86) from Hid.mk (q1371 275 86 (mRf_fld (by decide)))).out, (show Hid (w1369 275 94 = w1194 275 94 + 1) from Hid.mk (Eq.trans (q1371 275 94 (mRf_fld (by decide))) (show Hid (w1288 275 94 = w1194 275 94 + 1) from Hid.mk (Eq.trans (q1290 275 94 (mTq_fld (by decide))) (show Hid (w1291 275 94 = w1194 275 94 + 1) from Hid.mk (Eq.trans q1290v5.out (by omega))).out)).out)).out]; omega), (fun z => absurd z (by omega))⟩
        · exact absurd q1215b (by decide)
      · refine e_Ok.nrm (q := 265) (st' := [(0, 0), (1, 275)]) rfl rfl ?_
        clear q1211n
        refine e_Ok.callV rfl (Nat.le_trans (by decide) hdq) rfl rfl rfl rfl (c_334 (Nat.le_trans (by decide) hdq) q1196c.1 q1196c.2.1 q1196c.2.2.1 hNr q1196c.2.2.2.1 (by decide)) (fun r1385 w1386 h1387 => ?_)
        obtain ⟨rfl, q1388⟩ := h1387
        obtain ⟨rfl, q1388z⟩ | ⟨q1388z, q1388b, q1388, q1388s, q1388t⟩ | ⟨q1388z, q1388b, q1388, q1388T, q1388H, q1388r⟩ := q1388
        · refine e_Ok.nrm (q := 268) (st' := []) rfl rfl ?_
          clear q11963
          clear q11969
          refine e_Ok.run (t' := (274, [(2, (0, w 275 78 + 1)), (0, (1, 275)), (1, (0, key))], [(0, 0), (0, 44), (1, 275), (0, 3), (1, 275)], w1194)) 5 rfl ?_
          refine e_Ok.callV rfl (Nat.le_trans (by decide) hdq) rfl rfl rfl rfl (c_336 q1196c.1 (n := w1194 275 78) rfl (by omega) (s := w 275 81) u1199.out (by omega)) (fun r1389 w1390 h1391 => ?_)
          obtain ⟨rfl, q1392⟩ := h1391
          replace q1392 := (show Hid (EM w1194 w1390 (w1194 275 78) 44 (0) (w 275 81)) from q1392)
          have u1393 : Hid (w1390 275 78 = w1194 275 78 + 1) := Hid.mk (Eq.trans q1392.out.2.2.2.2 (by omega))
          have u1403 : Hid (w1390 275 88 = w1194 275 88) := Hid.mk (q1392.out.fld (by decide))
          have f1405 : e_fr (mStm (w 275 78) (w 275 79) (w 275 80) (w 275 94)) w w1390 := e_fr.trans f1203 (q1392.out.st (by omega))
          have c1406 := cSt.em q1196c q1392.out (by decide) (by omega) (by omega)
          refine e_Ok.nrm (q := 277) (st' := [(0, w1194 275 78), (0, 3), (1, 275)]) rfl rfl ?_
          refine e_Ok.callV rfl (Nat.le_trans (by decide) hdq) rfl rfl rfl rfl (c_338 (Nat.le_trans (by decide) hdq) c1406.1 c1406.2.1 c1406.2.2.1 hNr c1406.2.2.2.1 (mm := w1194 275 94) (show Hid (w1390 275 94 = w1194 275 94) from Hid.mk (q1392.out.fld (by decide))).out (by omega) (by decide) (by omega)) (fun r1407 w1408 h1409 => ?_)
          obtain ⟨rfl, q1410⟩ := h1409
          obtain ⟨rfl, q1410z⟩ | ⟨q1410z, q1410k, q1410, q1410T, q1410H, q1410r⟩ | ⟨q1410z, q1410k, w1411, q1410F, q1410T, q1410H, q1410v, q1410o, q1410, q1410s, q1410t⟩ := q1410
          · refine e_Ok.nrm (q := 280) (st' := []) rfl rfl ?_
            rw [u1403.out] at q1410z
            refine e_Ok.run (t' := (399, [(2, (0, w 275 78 + 1)), (0, (1, 275)), (1, (0, key))], [(0, 59), (1, 275), (1, 275)], w1390)) 4 rfl ?_
            refine e_Ok.callV rfl (Nat.le_trans (by decide) hdq) rfl rfl rfl rfl (c_331 c1406.1 (N := N) c1406.2.2.2.1) (fun r1412 w1413 h1414 => ?_)
            obtain ⟨z1415, rfl, rfl, q1416⟩ := h1414
            obtain ⟨rfl, q1416, q1416b⟩ | ⟨rfl, q1416n⟩ := q1416
            · refine e_Ok.nrm (q := 402) (st' := [(0, 1), (1, 275)]) rfl rfl ?_
              rw [(show Hid (w1390 275 84 = w1194 275 84) from Hid.mk (q1392.out.fld (by decide))).out] at q1416
              rw [(show Hid (w1390 275 85 = w1194 275 85) from Hid.mk (q1392.out.fld (by decide))).out] at q1416b
              refine e_Ok.callV rfl (Nat.le_trans (by decide) hdq) rfl rfl rfl rfl (c_334 (Nat.le_trans (by decide) hdq) c1406.1 c1406.2.1 c1406.2.2.1 hNr c1406.2.2.2.1 (by decide)) (fun r1417 w1418 h1419 => ?_)
              obtain ⟨rfl, q1420⟩ := h1419
              obtain ⟨rfl, q1420z⟩ | ⟨q1420z, q1420b, q1420, q1420s, q1420t⟩ | ⟨q1420z, q1420b, q1420, q1420T, q1420H, q1420r⟩ := q1420
              · show e_Ok 20 elay ecode eI (d + 1) 349 (405, [(2, (0, w 275 78 + 1)), (0, (1, 275)), (1, (0, key))], [], w1390) _
                rw [u1403.out] at q1420z
                refine e_Ok.rets rfl rfl ?_
                exact ⟨rfl, f1405, c1406, (by unfold stL; rw [u1393.out, (show Hid (w1390 275 79 = w 275 79) from Hid.mk (Eq.trans (q1392.out.fld (by decide)) u1197.out)).out, (show Hid (w1390 275 80 = w 275 80) from Hid.mk (Eq.trans (q1392.out.fld (by decide)) u1198.out)).out, (show Hid (w1390 275 81 = w 275 81) from Hid.mk (Eq.trans (q1392.out.fld (by decide)) u1199.out)).out, (show Hid (w1390 275 82 = w 275 82) from Hid.mk (Eq.trans (q1392.out.fld (by decide)) u1200.out)).out, (show Hid (w1390 275 83 = w1194 275 83) from Hid.mk (q1392.out.fld (by decide))).out, (show Hid (w1390 275 86 = w1194 275 86) from Hid.mk (q1392.out.fld (by decide))).out, u1403.out, (show Hid (w1390 275 94 = w1194 275 94) from Hid.mk (q1392.out.fld (by decide))).out]; omega), (fun z => by rw [u1403.out] at z; exact absurd z (by omega))⟩
              · rw [u1403.out] at q1420z; exact absurd q1420z (by omega)
              · rw [u1403.out] at q1420z; exact absurd q1420z (by omega)
            · refine e_Ok.nrm (q := 402) (st' := [(0, 0), (1, 275)]) rfl rfl ?_
              clear q1416n
              refine e_Ok.callV rfl (Nat.le_trans (by decide) hdq) rfl rfl rfl rfl (c_334 (Nat.le_trans (by decide) hdq) c1406.1 c1406.2.1 c1406.2.2.1 hNr c1406.2.2.2.1 (by decide)) (fun r1421 w1422 h1423 => ?_)
              obtain ⟨rfl, q1424⟩ := h1423
              obtain ⟨rfl, q1424z⟩ | ⟨q1424z, q1424b, q1424, q1424s, q1424t⟩ | ⟨q1424z, q1424b, q1424, q1424T, q1424H, q1424r⟩ := q1424
              · refine e_Ok.nrm (q := 405) (st' := []) rfl rfl ?_
                rw [u1403.out] at q1424z
                refine e_Ok.rets rfl rfl ?_
                exact ⟨rfl, f1405, c1406, (by unfold stL; rw [u1393.out, (show Hid (w1390 275 79 = w 275 79) from Hid.mk (Eq.trans (q1392.out.fld (by decide)) u1197.out)).out, (show Hid (w1390 275 80 = w 275 80) from Hid.mk (Eq.trans (q1392.out.fld (by decide)) u1198.out)).out, (show Hid (w1390 275 81 = w 275 81) from Hid.mk (Eq.trans (q1392.out.fld (by decide)) u1199.out)).out, (show Hid (w1390 275 82 = w 275 82) from Hid.mk (Eq.trans (q1392.out.fld (by decide)) u1200.out)).out, (show Hid (w1390 275 83 = w1194 275 83) from Hid.mk (q1392.out.fld (by decide))).out, (show Hid (w1390 275 86 = w1194 275 86) from Hid.mk (q1392.out.fld (by decide))).out, u1403.out, (show Hid (w1390 275 94 = w1194 275 94) from Hid.mk (q1392.out.fld (by decide))).out]; omega), (fun z => by rw [u1403.out] at z; exact absurd z (by omega))⟩
              · rw [u1403.out] at q1424z; exact absurd q1424z (by omega)
              · rw [u1403.out] at q1424z; exact absurd q1424z (by omega)
          · rw [u1403.out] at q1410z; exact absurd q1410z (by omega)
          · rw [u1403.out] at q1410z; exact absurd q1410z (by omega)
        · exact absurd q1388b (by decide)
        · refine e_Ok.nrm (q := 268) (st' := []) rfl rfl ?_
          replace q11963 := q11963 (by omega)
          replace q11969 := q11969 (by omega)
          have c1436 := cSt.rf q1196c q1388 q1388T q1388H
          refine e_Ok.run (t' := (274, [(2, (0, w 275 78 + 1)), (0, (1, 275)), (1, (0, key))], [(0, 0), (0, 44), (1, 275), (0, 3), (1, 275)], w1386)) 5 rfl ?_
          refine e_Ok.callV rfl (Nat.le_trans (by decide) hdq) rfl rfl rfl rfl (c_336 c1436.1 (n := w1194 275 78) (show Hid (w1386 275 78 = w1194 275 78) from Hid.mk (q1388 275 78 (mRf_fld (by decide)))).out (by omega) (s := w 275 81) (show Hid (w1386 275 81 = w 275 81) from Hid.mk (Eq.trans (q1388 275 81 (mRf_fld (by decide))) u1199.out)).out (by omega)) (fun r1438 w1439 h1440 => ?_)
          obtain ⟨rfl, q1441⟩ := h1440
          replace q1441 := (show Hid (EM w1386 w1439 (w1194 275 78) 44 (0) (w 275 81)) from q1441)
          have u1442 : Hid (w1439 275 78 = w1194 275 78 + 1) := Hid.mk (Eq.trans q1441.out.2.2.2.2 (by omega))
          have u1452 : Hid (w1439 275 88 = w1386 275 88) := Hid.mk (q1441.out.fld (by decide))
          have f1454 : e_fr (mStm (w 275 78) (w 275 79) (w 275 80) (w 275 94)) w w1439 := e_fr.trans (show e_fr (mStm (w 275 78) (w 275 79) (w 275 80) (w 275 94)) w w1386 from e_fr.trans f1203 (e_fr.mono q1388 (fun c k g => mRf_St g))) (q1441.out.st (by omega))
          have c1455 := cSt.em c1436 q1441.out (by decide) (by omega) (by omega)
          refine e_Ok.nrm (q := 277) (st' := [(0, w1194 275 78), (0, 3), (1, 275)]) rfl rfl ?_
          refine e_Ok.callV rfl (Nat.le_trans (by decide) hdq) rfl rfl rfl rfl (c_338 (Nat.le_trans (by decide) hdq) c1455.1 c1455.2.1 c1455.2.2.1 hNr c1455.2.2.2.1 (mm := w1194 275 94) (show Hid (w1439 275 94 = w1194 275 94) from Hid.mk (Eq.trans (q1441.out.fld (by decide)) (show Hid (w1386 275 94 = w1194 275 94) from Hid.mk (q1388 275 94 (mRf_fld (by decide)))).out)).out (by omega) (by decide) (by omega)) (fun r1456 w1457 h1458 => ?_)
          obtain ⟨rfl, q1459⟩ := h1458
          obtain ⟨rfl, q1459z⟩ | ⟨q1459z, q1459k, q1459, q1459T, q1459H, q1459r⟩ | ⟨q1459z, q1459k, w1460, q1459F, q1459T, q1459H, q1459v, q1459o, q1459, q1459s, q1459t⟩ := q1459
          · refine e_Ok.nrm (q := 280) (st' := []) rfl rfl ?_
            rw [u1452.out] at q1459z
            refine e_Ok.run (t' := (399, [(2, (0, w 275 78 + 1)), (0, (1, 275)), (1, (0, key))], [(0, 59), (1, 275), (1, 275)], w1439)) 4 rfl ?_
            refine e_Ok.callV rfl (Nat.le_trans (by decide) hdq) rfl rfl rfl rfl (c_331 c1455.1 (N := N) c1455.2.2.2.1) (fun r1461 w1462 h1463 => ?_)
            obtain ⟨z1464, rfl, rfl, q1465⟩ := h1463
            obtain ⟨rfl, q1465, q1465b⟩ | ⟨rfl, q1465n⟩ := q1465
            · refine e_Ok.nrm (q := 402) (st' := [(0, 1), (1, 275)]) rfl rfl ?_
              rw [(show Hid (w1439 275 84 = w1194 275 84) from Hid.mk (Eq.trans (q1441.out.fld (by decide)) (show Hid (w1386 275 84 = w1194 275 84) from Hid.mk (q1388 275 84 (mRf_fld (by decide)))).out)).out] at q1465
              rw [(show Hid (w1439 275 85 = w1194 275 85) from Hid.mk (Eq.trans (q1441.out.fld (by decide)) (show Hid (w1386 275 85 = w1194 275 85) from Hid.mk (q1388 275 85 (mRf_fld (by decide)))).out)).out] at q1465b
              refine e_Ok.callV rfl (Nat.le_trans (by decide) hdq) rfl rfl rfl rfl (c_334 (Nat.le_trans (by decide) hdq) c1455.1 c1455.2.1 c1455.2.2.1 hNr c1455.2.2.2.1 (by decide)) (fun r1466 w1467 h1468 => ?_)
              obtain ⟨rfl, q1469⟩ := h1468
              obtain ⟨rfl, q1469z⟩ | ⟨q1469z, q1469b, q1469, q1469s, q1469t⟩ | ⟨q1469z, q1469b, q1469, q1469T, q1469H, q1469r⟩ := q1469
              · show e_Ok 20 elay ecode eI (d + 1) 349 (405, [(2, (0, w 275 78 + 1)), (0, (1, 275)), (1, (0, key))], [], w1439) _
                rw [u1452.out] at q1469z
                refine e_Ok.rets rfl rfl ?_
                exact ⟨rfl, f1454, c1455, (by unfold stL; rw [u1442.out, (show Hid (w1439 275 79 = w 275 79) from Hid.mk (Eq.trans (q1441.out.fld (by decide)) (show Hid (w1386 275 79 = w 275 79) from Hid.mk (Eq.trans (q1388 275 79 (mRf_fld (by decide))) u1197.out)).out)).out, (show Hid (w1439 275 80 = w 275 80) from Hid.mk (Eq.trans (q1441.out.fld (by decide)) (show Hid (w1386 275 80 = w 275 80) from Hid.mk (Eq.trans (q1388 275 80 (mRf_fld (by decide))) u1198.out)).out)).out, (show Hid (w1439 275 81 = w 275 81) from Hid.mk (Eq.trans (q1441.out.fld (by decide)) (show Hid (w1386 275 81 = w 275 81) from Hid.mk (Eq.trans (q1388 275 81 (mRf_fld (by decide))) u1199.out)).out)).out, (show Hid (w1439 275 82 = w 275 82) from Hid.mk (Eq.trans (q1441.out.fld (by decide)) (show Hid (w1386 275 82 = w 275 82) from Hid.mk (Eq.trans (q1388 275 82 (mRf_fld (by decide))) u1200.out)).out)).out, (show Hid (w1439 275 83 = w1194 275 83) from Hid.mk (Eq.trans (q1441.out.fld (by decide)) (show Hid (w1386 275 83 = w1194 275 83) from Hid.mk (q1388 275 83 (mRf_fld (by decide)))).out)).out, (show Hid (w1439 275 86 = w1194 275 86) from Hid.mk (Eq.trans (q1441.out.fld (by decide)) (show Hid (w1386 275 86 = w1194 275 86) from Hid.mk (q1388 275 86 (mRf_fld (by decide)))).out)).out, u1452.out, (show Hid (w1439 275 94 = w1194 275 94) from Hid.mk (Eq.trans (q1441.out.fld (by decide)) (show Hid (w1386 275 94 = w1194 275 94) from Hid.mk (q1388 275 94 (mRf_fld (by decide)))).out)).out]; omega), (fun z => by rw [u1452.out] at z; exact absurd z (by omega))⟩
              · rw [u1452.out] at q1469z; exact absurd q1469z (by omega)
              · rw [u1452.out] at q1469z; exact absurd q1469z (by omega)
            · refine e_Ok.nrm (q := 402) (st' := [(0, 0), (1, 275)]) rfl rfl ?_
              clear q1465n
              refine e_Ok.callV rfl (Nat.le_trans (by decide) hdq) rfl rfl rfl rfl (c_334 (Nat.le_trans (by decide) hdq) c1455.1 c1455.2.1 c1455.2.2.1 hNr c1455.2.2.2.1 (by decide)) (fun r1470 w1471 h1472 => ?_)
              obtain ⟨rfl, q1473⟩ := h1472
              obtain ⟨rfl, q1473z⟩ | ⟨q1473z, q1473b, q1473, q1473s, q1473t⟩ | ⟨q1473z, q1473b, q1473, q1473T, q1473H, q1473r⟩ := q1473
              · refine e_Ok.nrm (q := 405) (st' := []) rfl rfl ?_
                rw [u1452.out] at q1473z
                refine e_Ok.rets rfl rfl ?_
                exact ⟨rfl, f1454, c1455, (by unfold stL; rw [u1442.out, (show Hid (w1439 275 79 = w 275 79) from Hid.mk (Eq.trans (q1441.out.fld (by decide)) (show Hid (w1386 275 79 = w 275 79) from Hid.mk (Eq.trans (q1388 275 79 (mRf_fld (by decide))) u1197.out)).out)).out, (show Hid (w1439 275 80 = w 275 80) from Hid.mk (Eq.trans (q1441.out.fld (by decide)) (show Hid (w1386 275 80 = w 275 80) from Hid.mk (Eq.trans (q1388 275 80 (mRf_fld (by decide))) u1198.out)).out)).out, (show Hid (w1439 275 81 = w 275 81) from Hid.mk (Eq.trans (q1441.out.fld (by decide)) (show Hid (w1386 275 81 = w 275 81) from Hid.mk (Eq.trans (q1388 275 81 (mRf_fld (by decide))) u1199.out)).out)).out, (show Hid (w1439 275 82 = w 275 82) from Hid.mk (Eq.trans (q1441.out.fld (by decide)) (show Hid (w1386 275 82 = w 275 82) from Hid.mk (Eq.trans (q1388 275 82 (mRf_fld (by decide))) u1200.out)).out)).out, (show Hid (w1439 275 83 = w1194 275 83) from Hid.mk (Eq.trans (q1441.out.fld (by decide)) (show Hid (w1386 275 83 = w1194 275 83) from Hid.mk (q1388 275 83 (mRf_fld (by decide)))).out)).out, (show Hid (w1439 275 86 = w1194 275 86) from Hid.mk (Eq.trans (q1441.out.fld (by decide)) (show Hid (w1386 275 86 = w1194 275 86) from Hid.mk (q1388 275 86 (mRf_fld (by decide)))).out)).out, u1452.out, (show Hid (w1439 275 94 = w1194 275 94) from Hid.mk (Eq.trans (q1441.out.fld (by decide)) (show Hid (w1386 275 94 = w1194 275 94) from Hid.mk (q1388 275 94 (mRf_fld (by decide)))).out)).out]; omega), (fun z => by rw [u1452.out] at z; exact absurd z (by omega))⟩
              · rw [u1452.out] at q1473z; exact absurd q1473z (by omega)
              · rw [u1452.out] at q1473z; exact absurd q1473z (by omega)
          · rw [u1452.out] at q1459z; exact absurd q1459z (by omega)
          · rw [u1452.out] at q1459z; exact absurd q1459z (by omega)
    · refine e_Ok.sw (tg := 305) rfl (by rw [h44]; rfl) ?_
      refine e_Ok.run (t' := (309, [(2, (0, w 275 78 + 1)), (0, (1, 275)), (1, (0, key))], [(0, 0), (0, 45), (1, 275)], w24)) 3 rfl ?_
      refine e_Ok.callV rfl (Nat.le_trans (by decide) hdq) rfl rfl rfl rfl (c_336 c37.1 (n := w 275 78 + 1) u29.out (by omega) (s := w 275 81) u32.out (by omega)) (fun r1474 w1475 h1476 => ?_)
      obtain ⟨rfl, q1477⟩ := h1476
      replace q1477 := (show Hid (EM w24 w1475 (w 275 78 + 1) 45 (0) (w 275 81)) from q1477)
      have u1478 : Hid (w1475 275 78 = w 275 78 + 2) := Hid.mk (Eq.trans q1477.out.2.2.2.2 (by omega))
      have u1488 : Hid (w1475 275 88 = w 275 88) := Hid.mk (Eq.trans (q1477.out.fld (by decide)) u35.out)
      have f1490 : e_fr (mStm (w 275 78) (w 275 79) (w 275 80) (w 275 94)) w w1475 := e_fr.trans f40 (q1477.out.st (by omega))
      have c1491 := cSt.em c37 q1477.out (by decide) (by omega) (by omega)
      refine e_Ok.nrm (q := 312) (st' := [(0, w 275 78 + 1)]) rfl rfl ?_
      refine e_Ok.run (t' := (399, [(2, (0, w 275 78 + 1)), (0, (1, 275)), (1, (0, key))], [(0, 59), (1, 275), (1, 275)], w1475)) 5 rfl ?_
      refine e_Ok.callV rfl (Nat.le_trans (by decide) hdq) rfl rfl rfl rfl (c_331 c1491.1 (N := N) c1491.2.2.2.1) (fun r1495 w1496 h1497 => ?_)
      obtain ⟨z1498, rfl, rfl, q1499⟩ := h1497
      obtain ⟨rfl, q1499, q1499b⟩ | ⟨rfl, q1499n⟩ := q1499
      · refine e_Ok.nrm (q := 402) (st' := [(0, 1), (1, 275)]) rfl rfl ?_
        rw [(show Hid (w1475 275 84 = w24 275 84) from Hid.mk (q1477.out.fld (by decide))).out] at q1499
        rw [(show Hid (w1475 275 85 = w24 275 85) from Hid.mk (q1477.out.fld (by decide))).out] at q1499b
        refine e_Ok.callV rfl (Nat.le_trans (by decide) hdq) rfl rfl rfl rfl (c_334 (Nat.le_trans (by decide) hdq) c1491.1 c1491.2.1 c1491.2.2.1 hNr c1491.2.2.2.1 (by decide)) (fun r1500 w1501 h1502 => ?_)
        obtain ⟨rfl, q1503⟩ := h1502
        obtain ⟨rfl, q1503z⟩ | ⟨q1503z, q1503b, q1503, q1503s, q1503t⟩ | ⟨q1503z, q1503b, q1503, q1503T, q1503H, q1503r⟩ := q1503
        · rw [u1488.out] at q1503z; exact absurd q1503z (by omega)
        · show e_Ok 20 elay ecode eI (d + 1) 349 (405, [(2, (0, w 275 78 + 1)), (0, (1, 275)), (1, (0, key))], [], w1501) _
          rw [u1488.out] at q1503z
          rw [(show Hid (w1475 275 87 = w24 275 87) from Hid.mk (q1477.out.fld (by decide))).out] at q1503t
          have p1504 := tkS.pos c1491.2.2.2.1 (by rw [(show Hid (w1475 275 84 = w24 275 84) from Hid.mk (q1477.out.fld (by decide))).out] <;> omega)
          rw [(show Hid (w1475 275 86 = w24 275 86) from Hid.mk (q1477.out.fld (by decide))).out, (show Hid (w1475 275 87 = w24 275 87) from Hid.mk (q1477.out.fld (by decide))).out] at p1504
          have c1513 := cSt.tk c1491 q1503 q1503s
          have t1514 := tkS.lin c1513.2.2.2.1
          refine e_Ok.rets rfl rfl ?_
          exact ⟨rfl, (show e_fr (mStm (w 275 78) (w 275 79) (w 275 80) (w 275 94)) w w1501 from e_fr.trans f1490 (e_fr.mono q1503 (fun c k g => mTq_St g))), c1513, (by unfold stL; rw [(show Hid (w1501 275 78 = w 275 78 + 2) from Hid.mk (Eq.trans (q1503 275 78 (mTq_fld (by decide))) u1478.out)).out, (show Hid (w1501 275 79 = w 275 79) from Hid.mk (Eq.trans (q1503 275 79 (mTq_fld (by decide))) (show Hid (w1475 275 79 = w 275 79) from Hid.mk (Eq.trans (q1477.out.fld (by decide)) u30.out)).out)).out, (show Hid (w1501 275 80 = w 275 80) from Hid.mk (Eq.trans (q1503 275 80 (mTq_fld (by decide))) (show Hid (w1475 275 80 = w 275 80) from Hid.mk (Eq.trans (q1477.out.fld (by decide)) u31.out)).out)).out, (show Hid (w1501 275 81 = w 275 81) from Hid.mk (Eq.trans (q1503 275 81 (mTq_fld (by decide))) (show Hid (w1475 275 81 = w 275 81) from Hid.mk (Eq.trans (q1477.out.fld (by decide)) u32.out)).out)).out, (show Hid (w1501 275 82 = w 275 82) from Hid.mk (Eq.trans (q1503 275 82 (mTq_fld (by decide))) (show Hid (w1475 275 82 = w 275 82) from Hid.mk (Eq.trans (q1477.out.fld (by decide)) u33.out)).out)).out, (show Hid (w1501 275 83 = w 275 83) from Hid.mk (Eq.trans (q1503 275 83 (mTq_fld (by decide))) (show Hid (w1475 275 83 = w 275 83) from Hid.mk (Eq.trans (q1477.out.fld (by decide)) u34.out)).out)).out, (show Hid (w1501 275 88 = w 275 88) from Hid.mk (Eq.trans (q1503 275 88 (mTq_fld (by decide))) u1488.out)).out, (show Hid (w1501 275 94 = w 275 94) from Hid.mk (Eq.trans (q1503 275 94 (mTq_fld (by decide))) (show Hid (w1475 275 94 = w 275 94) from Hid.mk (Eq.trans (q1477.out.fld (by decide)) u36.out)).out)).out]; omega), (fun z => by rw [(show Hid (w1501 275 88 = w 275 88) from Hid.mk (Eq.trans (q1503 275 88 (mTq_fld (by decide))) u1488.out)).out] at z; rw [(show Hid (w1501 275 78 = w 275 78 + 2) from Hid.mk (Eq.trans (q1503 275 78 (mTq_fld (by decide))) u1478.out)).out, (show Hid (w1501 275 94 = w 275 94) from Hid.mk (Eq.trans (q1503 275 94 (mTq_fld (by decide))) (show Hid (w1475 275 94 = w 275 94) from Hid.mk (Eq.trans (q1477.out.fld (by decide)) u36.out)).out)).out, (show Hid (w1501 275 79 = w 275 79) from Hid.mk (Eq.trans (q1503 275 79 (mTq_fld (by decide))) (show Hid (w1475 275 79 = w 275 79) from Hid.mk (Eq.trans (q1477.out.fld (by decide)) u30.out)).out)).out, (show Hid (w1501 275 80 = w 275 80) from Hid.mk (Eq.trans (q1503 275 80 (mTq_fld (by decide))) (show Hid (w1475 275 80 = w 275 80) from Hid.mk (Eq.trans (q1477.out.fld (by decide)) u31.out)).out)).out, (show Hid (w1501 275 81 = w 275 81) from Hid.mk (Eq.trans (q1503 275 81 (mTq_fld (by decide))) (show Hid (w1475 275 81 = w 275 81) from Hid.mk (Eq.trans (q1477.out.fld (by decide)) u32.out)).out)).out]; exact (GZ.gb ((show Hid (w 275 88 = 0 → GZ w1501 N (w 275 78 + 2) (w 275 94) (w 275 79) (w 275 80) P (w 275 81) OW O) from Hid.mk (fun z => GZ.pr ((show Hid (w 275 88 = 0 → GZ w1475 N (w 275 78 + 2) (w 275 94) (w 275 79) (w 275 80) P (w 275 81) OW O) from Hid.mk (fun z => (GZ.re (GI.zz (g41.out (by omega)).1 ((g41.out (by omega)).2.2 45) (g41.out (by omega)).2.1 q1477.out (by omega) (fun y => absurd y (by decide)) (fun y => absurd y (by decide))) (show _ = w 275 78 + 2 from by omega) rfl rfl rfl rfl))).out z) (prE.tk q1503))).out (by omega))))⟩
        · exact absurd q1503b (by decide)
      · refine e_Ok.nrm (q := 402) (st' := [(0, 0), (1, 275)]) rfl rfl ?_
        clear q1499n
        refine e_Ok.callV rfl (Nat.le_trans (by decide) hdq) rfl rfl rfl rfl (c_334 (Nat.le_trans (by decide) hdq) c1491.1 c1491.2.1 c1491.2.2.1 hNr c1491.2.2.2.1 (by decide)) (fun r1519 w1520 h1521 => ?_)
        obtain ⟨rfl, q1522⟩ := h1521
        obtain ⟨rfl, q1522z⟩ | ⟨q1522z, q1522b, q1522, q1522s, q1522t⟩ | ⟨q1522z, q1522b, q1522, q1522T, q1522H, q1522r⟩ := q1522
        · rw [u1488.out] at q1522z; exact absurd q1522z (by omega)
        · exact absurd q1522b (by decide)
        · refine e_Ok.nrm (q := 405) (st' := []) rfl rfl ?_
          rw [u1488.out] at q1522z
          refine e_Ok.rets rfl rfl ?_
          exact ⟨rfl, (show e_fr (mStm (w 275 78) (w 275 79) (w 275 80) (w 275 94)) w w1520 from e_fr.trans f1490 (e_fr.mono q1522 (fun c k g => mRf_St g))), (cSt.rf c1491 q1522 q1522T q1522H), (by unfold stL; rw [(show Hid (w1520 275 78 = w 275 78 + 2) from Hid.mk (Eq.trans (q1522 275 78 (mRf_fld (by decide))) u1478.out)).out, (show Hid (w1520 275 79 = w 275 79) from Hid.mk (Eq.trans (q1522 275 79 (mRf_fld (by decide))) (show Hid (w1475 275 79 = w 275 79) from Hid.mk (Eq.trans (q1477.out.fld (by decide)) u30.out)).out)).out, (show Hid (w1520 275 80 = w 275 80) from Hid.mk (Eq.trans (q1522 275 80 (mRf_fld (by decide))) (show Hid (w1475 275 80 = w 275 80) from Hid.mk (Eq.trans (q1477.out.fld (by decide)) u31.out)).out)).out, (show Hid (w1520 275 81 = w 275 81) from Hid.mk (Eq.trans (q1522 275 81 (mRf_fld (by decide))) (show Hid (w1475 275 81 = w 275 81) from Hid.mk (Eq.trans (q1477.out.fld (by decide)) u32.out)).out)).out, (show Hid (w1520 275 82 = w 275 82) from Hid.mk (Eq.trans (q1522 275 82 (mRf_fld (by decide))) (show Hid (w1475 275 82 = w 275 82) from Hid.mk (Eq.trans (q1477.out.fld (by decide)) u33.out)).out)).out, (show Hid (w1520 275 83 = w 275 83) from Hid.mk (Eq.trans (q1522 275 83 (mRf_fld (by decide))) (show Hid (w1475 275 83 = w 275 83) from Hid.mk (Eq.trans (q1477.out.fld (by decide)) u34.out)).out)).out, (show Hid (w1520 275 86 = w24 275 86) from Hid.mk (Eq.trans (q1522 275 86 (mRf_fld (by decide))) (show Hid (w1475 275 86 = w24 275 86) from Hid.mk (q1477.out.fld (by decide))).out)).out, (show Hid (w1520 275 94 = w 275 94) from Hid.mk (Eq.trans (q1522 275 94 (mRf_fld (by decide))) (show Hid (w1475 275 94 = w 275 94) from Hid.mk (Eq.trans (q1477.out.fld (by decide)) u36.out)).out)).out]; omega), (fun z => absurd z (by omega))⟩
  · replace h22 : (key : Int) = 17 := Classical.not_not.mp (show ¬ ((key : Int) ≠ 17) from h22)
    refine e_Ok.ps1 (x := (1, 275)) (q := 20) 1 rfl ?_
    refine e_Ok.getf (z := w 275 82) rfl (el_o rfl) rfl (ef_o rfl) u9.out (by omega) ?_
    refine e_Ok.if1 rfl (fun h1536 => ?_) (fun h1536 => ?_)
    · replace h1536 : (w 275 82 : Int) ≥ 0 := h1536
      refine e_Ok.ps1 (x := (1, 275)) (q := 70) 1 rfl ?_
      refine e_Ok.callV rfl (Nat.le_trans (by decide) hdq) rfl rfl rfl rfl (c_327 (Nat.le_trans (by decide) hdq) c18.1 c18.2.1 c18.2.2.1 hNr (t := w 275 87) u14.out (by omega)) (fun r1537 w1538 h1539 => ?_)
      have p1541 := tkS.pos c18.2.2.2.1 (by rw [u11.out] <;> omega)
      rw [u13.out, u14.out] at p1541
      have p1542 := tkS.key c18.2.2.2.1 (by rw [u11.out] <;> omega)
      rw [u13.out, u14.out, (show Hid (w2 275 85 = w 275 85) from Hid.mk (q4.out.fld (by decide))).out] at p1542
      obtain ⟨rfl, q1540, q1540s, q1540t⟩ := h1539
      have c1551 := cSt.tk c18 q1540 q1540s
      have t1552 := tkS.lin c1551.2.2.2.1
      show e_Ok 20 elay ecode eI (d + 1) 349 (73, [(2, (0, w 275 78 + 1)), (0, (1, 275)), (1, (0, key))], [], w1538) _
      refine e_Ok.ps1 (x := (0, key)) (q := 74) 1 rfl ?_
      have hs1558 : ∀ x : Int, 17 ≤ x ∧ x ≤ 17 → (x = 17) := fun x h => by omega
      obtain h1557 := hs1558 (key) (by omega)
      · refine e_Ok.sw (tg := 316) rfl (by rw [h1557]; rfl) ?_
        refine e_Ok.run (t' := (320, [(2, (0, w 275 78 + 1)), (0, (1, 275)), (1, (0, key))], [(1, 275), (0, 46), (1, 275)], w1538)) 3 rfl ?_
        refine e_Ok.getf (z := w 275 82) rfl (el_o rfl) rfl (ef_o rfl) (show Hid (w1538 275 82 = w 275 82) from Hid.mk (Eq.trans (q1540 275 82 (mTq_fld (by decide))) u9.out)).out (by omega) ?_
        refine e_Ok.callV rfl (Nat.le_trans (by decide) hdq) rfl rfl rfl rfl (c_336 c1551.1 (n := w 275 78 + 1) (show Hid (w1538 275 78 = w 275 78 + 1) from Hid.mk (Eq.trans (q1540 275 78 (mTq_fld (by decide))) u5.out)).out (by omega) (s := w 275 81) (show Hid (w1538 275 81 = w 275 81) from Hid.mk (Eq.trans (q1540 275 81 (mTq_fld (by decide))) (show Hid (w2 275 81 = w 275 81) from Hid.mk (q4.out.fld (by decide))).out)).out (by omega)) (fun r1559 w1560 h1561 => ?_)
        obtain ⟨rfl, q1562⟩ := h1561
        replace q1562 := (show Hid (EM w1538 w1560 (w 275 78 + 1) 46 (w 275 82) (w 275 81)) from q1562)
        have u1563 : Hid (w1560 275 78 = w 275 78 + 2) := Hid.mk (Eq.trans q1562.out.2.2.2.2 (by omega))
        have u1573 : Hid (w1560 275 88 = w 275 88) := Hid.mk (Eq.trans (q1562.out.fld (by decide)) (show Hid (w1538 275 88 = w 275 88) from Hid.mk (Eq.trans (q1540 275 88 (mTq_fld (by decide))) (show Hid (w2 275 88 = w 275 88) from Hid.mk (q4.out.fld (by decide))).out)).out)
        have f1575 : e_fr (mStm (w 275 78) (w 275 79) (w 275 80) (w 275 94)) w w1560 := e_fr.trans (show e_fr (mStm (w 275 78) (w 275 79) (w 275 80) (w 275 94)) w w1538 from e_fr.trans f17 (e_fr.mono q1540 (fun c k g => mTq_St g))) (q1562.out.st (by omega))
        have c1576 := cSt.em c1551 q1562.out (by decide) (by omega) (by omega)
        refine e_Ok.nrm (q := 326) (st' := [(0, w 275 78 + 1)]) rfl rfl ?_
        refine e_Ok.run (t' := (399, [(2, (0, w 275 78 + 1)), (0, (1, 275)), (1, (0, key))], [(0, 59), (1, 275), (1, 275)], w1560)) 5 rfl ?_
        refine e_Ok.callV rfl (Nat.le_trans (by decide) hdq) rfl rfl rfl rfl (c_331 c1576.1 (N := N) c1576.2.2.2.1) (fun r1580 w1581 h1582 => ?_)
        obtain ⟨z1583, rfl, rfl, q1584⟩ := h1582
        obtain ⟨rfl, q1584, q1584b⟩ | ⟨rfl, q1584n⟩ := q1584
        · refine e_Ok.nrm (q := 402) (st' := [(0, 1), (1, 275)]) rfl rfl ?_
          rw [(show Hid (w1560 275 84 = w1538 275 84) from Hid.mk (q1562.out.fld (by decide))).out] at q1584
          rw [(show Hid (w1560 275 85 = w1538 275 85) from Hid.mk (q1562.out.fld (by decide))).out] at q1584b
          refine e_Ok.callV rfl (Nat.le_trans (by decide) hdq) rfl rfl rfl rfl (c_334 (Nat.le_trans (by decide) hdq) c1576.1 c1576.2.1 c1576.2.2.1 hNr c1576.2.2.2.1 (by decide)) (fun r1585 w1586 h1587 => ?_)
          obtain ⟨rfl, q1588⟩ := h1587
          obtain ⟨rfl, q1588z⟩ | ⟨q1588z, q1588b, q1588, q1588s, q1588t⟩ | ⟨q1588z, q1588b, q1588, q1588T, q1588H, q1588r⟩ := q1588
          · rw [u1573.out] at q1588z; exact absurd q1588z (by omega)
          · show e_Ok 20 elay ecode eI (d + 1) 349 (405, [(2, (0, w 275 78 + 1)), (0, (1, 275)), (1, (0, key))], [], w1586) _
            rw [u1573.out] at q1588z
            rw [(show Hid (w1560 275 87 = w1538 275 87) from Hid.mk (q1562.out.fld (by decide))).out] at q1588t
            have p1589 := tkS.pos c1576.2.2.2.1 (by rw [(show Hid (w1560 275 84 = w1538 275 84) from Hid.mk (q1562.out.fld (by decide))).out] <;> omega)
            rw [(show Hid (w1560 275 86 = w1538 275 86) from Hid.mk (q1562.out.fld (by decide))).out, (show Hid (w1560 275 87 = w1538 275 87) from Hid.mk (q1562.out.fld (by decide))).out] at p1589
            have c1598 := cSt.tk c1576 q1588 q1588s
            have t1599 := tkS.lin c1598.2.2.2.1
            refine e_Ok.rets rfl rfl ?_
            exact ⟨rfl, (show e_fr (mStm (w 275 78) (w 275 79) (w 275 80) (w 275 94)) w w1586 from e_fr.trans f1575 (e_fr.mono q1588 (fun c k g => mTq_St g))), c1598, (by unfold stL; rw [(show Hid (w1586 275 78 = w 275 78 + 2) from Hid.mk (Eq.trans (q1588 275 78 (mTq_fld (by decide))) u1563.out)).out, (show Hid (w1586 275 79 = w 275 79) from Hid.mk (Eq.trans (q1588 275 79 (mTq_fld (by decide))) (show Hid (w1560 275 79 = w 275 79) from Hid.mk (Eq.trans (q1562.out.fld (by decide)) (show Hid (w1538 275 79 = w 275 79) from Hid.mk (Eq.trans (q1540 275 79 (mTq_fld (by decide))) (show Hid (w2 275 79 = w 275 79) from Hid.mk (q4.out.fld (by decide))).out)).out)).out)).out, (show Hid (w1586 275 80 = w 275 80) from Hid.mk (Eq.trans (q1588 275 80 (mTq_fld (by decide))) (show Hid (w1560 275 80 = w 275 80) from Hid.mk (Eq.trans (q1562.out.fld (by decide)) (show Hid (w1538 275 80 = w 275 80) from Hid.mk (Eq.trans (q1540 275 80 (mTq_fld (by decide))) (show Hid (w2 275 80 = w 275 80) from Hid.mk (q4.out.fld (by decide))).out)).out)).out)).out, (show Hid (w1586 275 81 = w 275 81) from Hid.mk (Eq.trans (q1588 275 81 (mTq_fld (by decide))) (show Hid (w1560 275 81 = w 275 81) from Hid.mk (Eq.trans (q1562.out.fld (by decide)) (show Hid (w1538 275 81 = w 275 81) from Hid.mk (Eq.trans (q1540 275 81 (mTq_fld (by decide))) (show Hid (w2 275 81 = w 275 81) from Hid.mk (q4.out.fld (by decide))).out)).out)).out)).out, (show Hid (w1586 275 82 = w 275 82) from Hid.mk (Eq.trans (q1588 275 82 (mTq_fld (by decide))) (show Hid (w1560 275 82 = w 275 82) from Hid.mk (Eq.trans (q1562.out.fld (by decide)) (show Hid (w1538 275 82 = w 275 82) from Hid.mk (Eq.trans (q1540 275 82 (mTq_fld (by decide))) u9.out)).out)).out)).out, (show Hid (w1586 275 83 = w 275 83) from Hid.mk (Eq.trans (q1588 275 83 (mTq_fld (by decide))) (show Hid (w1560 275 83 = w 275 83) from Hid.mk (Eq.trans (q1562.out.fld (by decide)) (show Hid (w1538 275 83 = w 275 83) from Hid.mk (Eq.trans (q1540 275 83 (mTq_fld (by decide))) (show Hid (w2 275 83 = w 275 83) from Hid.mk (q4.out.fld (by decide))).out)).out)).out)).out, (show Hid (w1586 275 88 = w 275 88) from Hid.mk (Eq.trans (q1588 275 88 (mTq_fld (by decide))) u1573.out)).out, (show Hid (w1586 275 94 = w 275 94) from Hid.mk (Eq.trans (q1588 275 94 (mTq_fld (by decide))) (show Hid (w1560 275 94 = w 275 94) from Hid.mk (Eq.trans (q1562.out.fld (by decide)) (show Hid (w1538 275 94 = w 275 94) from Hid.mk (Eq.trans (q1540 275 94 (mTq_fld (by decide))) u16.out)).out)).out)).out]; omega), (fun z => by rw [(show Hid (w1586 275 88 = w 275 88) from Hid.mk (Eq.trans (q1588 275 88 (mTq_fld (by decide))) u1573.out)).out] at z; rw [(show Hid (w1586 275 78 = w 275 78 + 2) from Hid.mk (Eq.trans (q1588 275 78 (mTq_fld (by decide))) u1563.out)).out, (show Hid (w1586 275 94 = w 275 94) from Hid.mk (Eq.trans (q1588 275 94 (mTq_fld (by decide))) (show Hid (w1560 275 94 = w 275 94) from Hid.mk (Eq.trans (q1562.out.fld (by decide)) (show Hid (w1538 275 94 = w 275 94) from Hid.mk (Eq.trans (q1540 275 94 (mTq_fld (by decide))) u16.out)).out)).out)).out, (show Hid (w1586 275 79 = w 275 79) from Hid.mk (Eq.trans (q1588 275 79 (mTq_fld (by decide))) (show Hid (w1560 275 79 = w 275 79) from Hid.mk (Eq.trans (q1562.out.fld (by decide)) (show Hid (w1538 275 79 = w 275 79) from Hid.mk (Eq.trans (q1540 275 79 (mTq_fld (by decide))) (show Hid (w2 275 79 = w 275 79) from Hid.mk (q4.out.fld (by decide))).out)).out)).out)).out, (show Hid (w1586 275 80 = w 275 80) from Hid.mk (Eq.trans (q1588 275 80 (mTq_fld (by decide))) (show Hid (w1560 275 80 = w 275 80) from Hid.mk (Eq.trans (q1562.out.fld (by decide)) (show Hid (w1538 275 80 = w 275 80) from Hid.mk (Eq.trans (q1540 275 80 (mTq_fld (by decide))) (show Hid (w2 275 80 = w 275 80) from Hid.mk (q4.out.fld (by decide))).out)).out)).out)).out, (show Hid (w1586 275 81 = w 275 81) from Hid.mk (Eq.trans (q1588 275 81 (mTq_fld (by decide))) (show Hid (w1560 275 81 = w 275 81) from Hid.mk (Eq.trans (q1562.out.fld (by decide)) (show Hid (w1538 275 81 = w 275 81) from Hid.mk (Eq.trans (q1540 275 81 (mTq_fld (by decide))) (show Hid (w2 275 81 = w 275 81) from Hid.mk (q4.out.fld (by decide))).out)).out)).out)).out]; exact (GZ.gb ((show Hid (w 275 88 = 0 → GZ w1586 N (w 275 78 + 2) (w 275 94) (w 275 79) (w 275 80) P (w 275 81) OW O) from Hid.mk (fun z => GZ.pr ((show Hid (w 275 88 = 0 → GZ w1560 N (w 275 78 + 2) (w 275 94) (w 275 79) (w 275 80) P (w 275 81) OW O) from Hid.mk (fun z => (GZ.re (GI.zz ((show Hid (w 275 88 = 0 → GA w1538 N (w 275 78 + 1) (w 275 94) (w 275 79) (w 275 80) P (w 275 81) OW O) from Hid.mk (fun z => GA.pr (g19.out z) (prE.tk q1540))).out (by omega)).1 (((show Hid (w 275 88 = 0 → GA w1538 N (w 275 78 + 1) (w 275 94) (w 275 79) (w 275 80) P (w 275 81) OW O) from Hid.mk (fun z => GA.pr (g19.out z) (prE.tk q1540))).out (by omega)).2.2 46) ((show Hid (w 275 88 = 0 → GA w1538 N (w 275 78 + 1) (w 275 94) (w 275 79) (w 275 80) P (w 275 81) OW O) from Hid.mk (fun z => GA.pr (g19.out z) (prE.tk q1540))).out (by omega)).2.1 q1562.out (by omega) (fun _ => Or.inr (hv.out.resolve_left (by omega))) (fun y => absurd y (by decide))) (show _ = w 275 78 + 2 from by omega) rfl rfl rfl rfl))).out z) (prE.tk q1588))).out (by omega))))⟩
          · exact absurd q1588b (by decide)
        · refine e_Ok.nrm (q := 402) (st' := [(0, 0), (1, 275)]) rfl rfl ?_
          clear q1584n
          refine e_Ok.callV rfl (Nat.le_trans (by decide) hdq) rfl rfl rfl rfl (c_334 (Nat.le_trans (by decide) hdq) c1576.1 c1576.2.1 c1576.2.2.1 hNr c1576.2.2.2.1 (by decide)) (fun r1604 w1605 h1606 => ?_)
          obtain ⟨rfl, q1607⟩ := h1606
          obtain ⟨rfl, q1607z⟩ | ⟨q1607z, q1607b, q1607, q1607s, q1607t⟩ | ⟨q1607z, q1607b, q1607, q1607T, q1607H, q1607r⟩ := q1607
          · rw [u1573.out] at q1607z; exact absurd q1607z (by omega)
          · exact absurd q1607b (by decide)
          · refine e_Ok.nrm (q := 405) (st' := []) rfl rfl ?_
            rw [u1573.out] at q1607z
            refine e_Ok.rets rfl rfl ?_
            exact ⟨rfl, (show e_fr (mStm (w 275 78) (w 275 79) (w 275 80) (w 275 94)) w w1605 from e_fr.trans f1575 (e_fr.mono q1607 (fun c k g => mRf_St g))), (cSt.rf c1576 q1607 q1607T q1607H), (by unfold stL; rw [(show Hid (w1605 275 78 = w 275 78 + 2) from Hid.mk (Eq.trans (q1607 275 78 (mRf_fld (by decide))) u1563.out)).out, (show Hid (w1605 275 79 = w 275 79) from Hid.mk (Eq.trans (q1607 275 79 (mRf_fld (by decide))) (show Hid (w1560 275 79 = w 275 79) from Hid.mk (Eq.trans (q1562.out.fld (by decide)) (show Hid (w1538 275 79 = w 275 79) from Hid.mk (Eq.trans (q1540 275 79 (mTq_fld (by decide))) (show Hid (w2 275 79 = w 275 79) from Hid.mk (q4.out.fld (by decide))).out)).out)).out)).out, (show Hid (w1605 275 80 = w 275 80) from Hid.mk (Eq.trans (q1607 275 80 (mRf_fld (by decide))) (show Hid (w1560 275 80 = w 275 80) from Hid.mk (Eq.trans (q1562.out.fld (by decide)) (show Hid (w1538 275 80 = w 275 80) from Hid.mk (Eq.trans (q1540 275 80 (mTq_fld (by decide))) (show Hid (w2 275 80 = w 275 80) from Hid.mk (q4.out.fld (by decide))).out)).out)).out)).out, (show Hid (w1605 275 81 = w 275 81) from Hid.mk (Eq.trans (q1607 275 81 (mRf_fld (by decide))) (show Hid (w1560 275 81 = w 275 81) from Hid.mk (Eq.trans (q1562.out.fld (by decide)) (show Hid (w1538 275 81 = w 275 81) from Hid.mk (Eq.trans (q1540 275 81 (mTq_fld (by decide))) (show Hid (w2 275 81 = w 275 81) from Hid.mk (q4.out.fld (by decide))).out)).out)).out)).out, (show Hid (w1605 275 82 = w 275 82) from Hid.mk (Eq.trans (q1607 275 82 (mRf_fld (by decide))) (show Hid (w1560 275 82 = w 275 82) from Hid.mk (Eq.trans (q1562.out.fld (by decide)) (show Hid (w1538 275 82 = w 275 82) from Hid.mk (Eq.trans (q1540 275 82 (mTq_fld (by decide))) u9.out)).out)).out)).out, (show Hid (w1605 275 83 = w 275 83) from Hid.mk (Eq.trans (q1607 275 83 (mRf_fld (by decide))) (show Hid (w1560 275 83 = w 275 83) from Hid.mk (Eq.trans (q1562.out.fld (by decide)) (show Hid (w1538 275 83 = w 275 83) from Hid.mk (Eq.trans (q1540 275 83 (mTq_fld (by decide))) (show Hid (w2 275 83 = w 275 83) from Hid.mk (q4.out.fld (by decide))).out)).out)).out)).out, (show Hid (w1605 275 86 = w1538 275 86) from Hid.mk (Eq.trans (q1607 275 86 (mRf_fld (by decide))) (show Hid (w1560 275 86 = w1538 275 86) from Hid.mk (q1562.out.fld (by decide))).out)).out, (show Hid (w1605 275 94 = w 275 94) from Hid.mk (Eq.trans (q1607 275 94 (mRf_fld (by decide))) (show Hid (w1560 275 94 = w 275 94) from Hid.mk (Eq.trans (q1562.out.fld (by decide)) (show Hid (w1538 275 94 = w 275 94) from Hid.mk (Eq.trans (q1540 275 94 (mTq_fld (by decide))) u16.out)).out)).out)).out]; omega), (fun z => absurd z (by omega))⟩
    · replace h1536 : (w 275 82 : Int) < 0 := Int.not_le.mp (show ¬ ((w 275 82 : Int) ≥ 0) from h1536)
      refine e_Ok.ps1 (x := (1, 275)) (q := 27) 1 rfl ?_
      refine e_Ok.getr (z := 341) rfl (el_o rfl) rfl (ef_o rfl) ((f17 275 90 (by first | exact no_bd_0 | (unfold mStm; omega))).trans (e_Has.eq hc.1 rfl)) ⟨by decide, by decide⟩ ?_
      refine e_Ok.ps1 (x := (1, 275)) (q := 31) 1 rfl ?_
      refine e_Ok.getf (z := w 275 94) rfl (el_o rfl) rfl (ef_o rfl) u16.out (by omega) ?_
      refine e_Ok.ps1 (x := (0, 4)) (q := 35) 1 rfl ?_
      refine e_Ok.ast rfl (el_o rfl) rfl rfl (by omega) ?_
      generalize hw1621 : e_up w2 341 (w 275 94) 4 = w1621
      have f1622 : e_fr (mStm (w 275 78) (w 275 79) (w 275 80) (w 275 94)) w w1621 := e_fr.up f17 hw1621 (by first | exact Or.inr (Or.inr (Or.inr (Or.inl ⟨⟨(by decide), (by decide)⟩, (by omega)⟩))) | (unfold mStm; omega))
      refine e_Ok.ps1 (x := (1, 275)) (q := 37) 1 rfl ?_
      refine e_Ok.getr (z := 342) rfl (el_o rfl) rfl (ef_o rfl) ((f1622 275 91 (by first | exact no_bd_1 | (unfold mStm; omega))).trans (e_Has.eq hc.1 rfl)) ⟨by decide, by decide⟩ ?_
      refine e_Ok.ps1 (x := (1, 275)) (q := 41) 1 rfl ?_
      refine e_Ok.getf (z := w 275 94) rfl (el_o rfl) rfl (ef_o rfl) (Hid.upn hw1621 (Or.inl (by decide)) u16).out (by omega) ?_
      refine e_Ok.ps1 (x := (1, 275)) (q := 45) 1 rfl ?_
      refine e_Ok.getf (z := w 275 86) rfl (el_o rfl) rfl (ef_o rfl) (Hid.upn hw1621 (Or.inl (by decide)) u13).out (by omega) ?_
      refine e_Ok.ast rfl (el_o rfl) rfl rfl (by omega) ?_
      generalize hw1639 : e_up w1621 342 (w 275 94) (w 275 86) = w1639
      have f1640 : e_fr (mStm (w 275 78) (w 275 79) (w 275 80) (w 275 94)) w w1639 := e_fr.up f1622 hw1639 (by first | exact Or.inr (Or.inr (Or.inr (Or.inl ⟨⟨(by decide), (by decide)⟩, (by omega)⟩))) | (unfold mStm; omega))
      refine e_Ok.ps1 (x := (1, 275)) (q := 50) 1 rfl ?_
      refine e_Ok.getr (z := 343) rfl (el_o rfl) rfl (ef_o rfl) ((f1640 275 92 (by first | exact no_bd_2 | (unfold mStm; omega))).trans (e_Has.eq hc.1 rfl)) ⟨by decide, by decide⟩ ?_
      refine e_Ok.ps1 (x := (1, 275)) (q := 54) 1 rfl ?_
      refine e_Ok.getf (z := w 275 94) rfl (el_o rfl) rfl (ef_o rfl) (Hid.upn hw1639 (Or.inl (by decide)) (Hid.upn hw1621 (Or.inl (by decide)) u16)).out (by omega) ?_
      refine e_Ok.ps1 (x := (0, 5)) (q := 58) 1 rfl ?_
      refine e_Ok.ast rfl (el_o rfl) rfl rfl (by omega) ?_
      generalize hw1658 : e_up w1639 343 (w 275 94) 5 = w1658
      refine e_Ok.ps2 (x := (1, 275)) (y := (1, 275)) (q := 61) 2 rfl ?_
      refine e_Ok.getf (z := w 275 94) rfl (el_o rfl) rfl (ef_o rfl) (Hid.upn hw1658 (Or.inl (by decide)) (Hid.upn hw1639 (Or.inl (by decide)) (Hid.upn hw1621 (Or.inl (by decide)) u16))).out (by omega) ?_
      refine e_Ok.ps1 (x := (0, 1)) (q := 65) 1 rfl ?_
      refine e_Ok.add (z := w 275 94 + 1) rfl rfl (by omega) ?_
      refine e_Ok.putf rfl (el_o rfl) rfl (ef_o rfl) ?_
      generalize hw1678 : e_up w1658 275 94 (w 275 94 + 1) = w1678
      have c1692 := cSt.wr (cSt.wr (cSt.wr (cSt.wr c18 hw1621 (Or.inr rfl) (by omega) rfl (fun y => absurd y (by decide))) hw1639 (Or.inr rfl) (by omega) rfl (fun y => absurd y (by decide))) hw1658 (Or.inr rfl) (by omega) rfl (fun y => absurd y (by decide))) hw1678 (Or.inr rfl) (by omega) rfl (fun _ => ⟨⟨by decide, by decide⟩, fun y => absurd y (by decide)⟩)
      refine e_Ok.ps1 (x := (1, 275)) (q := 70) 1 rfl ?_
      refine e_Ok.callV rfl (Nat.le_trans (by decide) hdq) rfl rfl rfl rfl (c_327 (Nat.le_trans (by decide) hdq) c1692.1 c1692.2.1 c1692.2.2.1 hNr (t := w 275 87) (Hid.upn hw1678 (Or.inr (by decide)) (Hid.upn hw1658 (Or.inl (by decide)) (Hid.upn hw1639 (Or.inl (by decide)) (Hid.upn hw1621 (Or.inl (by decide)) u14)))).out (by omega)) (fun r1699 w1700 h1701 => ?_)
      have p1703 := tkS.pos c1692.2.2.2.1 (by rw [(Hid.upn hw1678 (Or.inr (by decide)) (Hid.upn hw1658 (Or.inl (by decide)) (Hid.upn hw1639 (Or.inl (by decide)) (Hid.upn hw1621 (Or.inl (by decide)) u11)))).out] <;> omega)
      rw [(Hid.upn hw1678 (Or.inr (by decide)) (Hid.upn hw1658 (Or.inl (by decide)) (Hid.upn hw1639 (Or.inl (by decide)) (Hid.upn hw1621 (Or.inl (by decide)) u13)))).out, (Hid.upn hw1678 (Or.inr (by decide)) (Hid.upn hw1658 (Or.inl (by decide)) (Hid.upn hw1639 (Or.inl (by decide)) (Hid.upn hw1621 (Or.inl (by decide)) u14)))).out] at p1703
      have p1704 := tkS.key c1692.2.2.2.1 (by rw [(Hid.upn hw1678 (Or.inr (by decide)) (Hid.upn hw1658 (Or.inl (by decide)) (Hid.upn hw1639 (Or.inl (by decide)) (Hid.upn hw1621 (Or.inl (by decide)) u11)))).out] <;> omega)
      rw [(Hid.upn hw1678 (Or.inr (by decide)) (Hid.upn hw1658 (Or.inl (by decide)) (Hid.upn hw1639 (Or.inl (by decide)) (Hid.upn hw1621 (Or.inl (by decide)) u13)))).out, (Hid.upn hw1678 (Or.inr (by decide)) (Hid.upn hw1658 (Or.inl (by decide)) (Hid.upn hw1639 (Or.inl (by decide)) (Hid.upn hw1621 (Or.inl (by decide)) u14)))).out, (Hid.upn hw1678 (Or.inr (by decide)) (Hid.upn hw1658 (Or.inl (by decide)) (Hid.upn hw1639 (Or.inl (by decide)) (Hid.upn hw1621 (Or.inl (by decide)) (show Hid (w2 275 85 = w 275 85) from Hid.mk (q4.out.fld (by decide))))))).out] at p1704
      obtain ⟨rfl, q1702, q1702s, q1702t⟩ := h1701
      have c1713 := cSt.tk c1692 q1702 q1702s
      have t1714 := tkS.lin c1713.2.2.2.1
      have g1716 : Hid (w 275 88 = 0 → GA w1700 N (w 275 78 + 1) (w 275 94 + 1) (w 275 79) (w 275 80) P (w 275 81) OW O) := Hid.mk (fun z => GA.pr ((show Hid (w 275 88 = 0 → GA w1678 N (w 275 78 + 1) (w 275 94 + 1) (w 275 79) (w 275 80) P (w 275 81) OW O) from Hid.mk (fun z => (GA.note4 (g19.out (by omega)) (fun c k g => Eq.trans (show w1678 c k = w1658 c k from by rw [← hw1678]; exact e_up_ne _ _ (by omega)) (Eq.trans (show w1658 c k = w1639 c k from by rw [← hw1658]; exact e_up_ne _ _ (by omega)) (Eq.trans (show w1639 c k = w1621 c k from by rw [← hw1639]; exact e_up_ne _ _ (by omega)) ((show w1621 c k = w2 c k from by rw [← hw1621]; exact e_up_ne _ _ (by omega)))))) (by unfold nmO; rw [(Hid.upn hw1678 (Or.inl (by decide)) (Hid.upn hw1658 (Or.inl (by decide)) (Hid.upn hw1639 (Or.inl (by decide)) (Hid.upe hw1621)))).out, (Hid.upn hw1678 (Or.inl (by decide)) (Hid.upn hw1658 (Or.inl (by decide)) (Hid.upe hw1639))).out]; exact ⟨by omega, by omega, fun y => absurd rfl y⟩) (Hid.upn hw1678 (Or.inl (by decide)) (Hid.upn hw1658 (Or.inl (by decide)) (Hid.upn hw1639 (Or.inl (by decide)) (Hid.upe hw1621)))).out))).out z) (prE.tk q1702))
      show e_Ok 20 elay ecode eI (d + 1) 349 (73, [(2, (0, w 275 78 + 1)), (0, (1, 275)), (1, (0, key))], [], w1700) _
      refine e_Ok.ps1 (x := (0, key)) (q := 74) 1 rfl ?_
      have hs1719 : ∀ x : Int, 17 ≤ x ∧ x ≤ 17 → (x = 17) := fun x h => by omega
      obtain h1718 := hs1719 (key) (by omega)
      · refine e_Ok.sw (tg := 316) rfl (by rw [h1718]; rfl) ?_
        refine e_Ok.run (t' := (320, [(2, (0, w 275 78 + 1)), (0, (1, 275)), (1, (0, key))], [(1, 275), (0, 46), (1, 275)], w1700)) 3 rfl ?_
        refine e_Ok.getf (z := w 275 82) rfl (el_o rfl) rfl (ef_o rfl) (show Hid (w1700 275 82 = w 275 82) from Hid.mk (Eq.trans (q1702 275 82 (mTq_fld (by decide))) (Hid.upn hw1678 (Or.inr (by decide)) (Hid.upn hw1658 (Or.inl (by decide)) (Hid.upn hw1639 (Or.inl (by decide)) (Hid.upn hw1621 (Or.inl (by decide)) u9)))).out)).out (by omega) ?_
        refine e_Ok.callV rfl (Nat.le_trans (by decide) hdq) rfl rfl rfl rfl (c_336 c1713.1 (n := w 275 78 + 1) (show Hid (w1700 275 78 = w 275 78 + 1) from Hid.mk (Eq.trans (q1702 275 78 (mTq_fld (by decide))) (Hid.upn hw1678 (Or.inr (by decide)) (Hid.upn hw1658 (Or.inl (by decide)) (Hid.upn hw1639 (Or.inl (by decide)) (Hid.upn hw1621 (Or.inl (by decide)) u5)))).out)).out (by omega) (s := w 275 81) (show Hid (w1700 275 81 = w 275 81) from Hid.mk (Eq.trans (q1702 275 81 (mTq_fld (by decide))) (Hid.upn hw1678 (Or.inr (by decide)) (Hid.upn hw1658 (Or.inl (by decide)) (Hid.upn hw1639 (Or.inl (by decide)) (Hid.upn hw1621 (Or.inl (by decide)) (show Hid (w2 275 81 = w 275 81) from Hid.mk (q4.out.fld (by decide))))))).out)).out (by omega)) (fun r1720 w1721 h1722 => ?_)
        obtain ⟨rfl, q1723⟩ := h1722
        replace q1723 := (show Hid (EM w1700 w1721 (w 275 78 + 1) 46 (w 275 82) (w 275 81)) from q1723)
        have u1724 : Hid (w1721 275 78 = w 275 78 + 2) := Hid.mk (Eq.trans q1723.out.2.2.2.2 (by omega))
        have u1734 : Hid (w1721 275 88 = w 275 88) := Hid.mk (Eq.trans (q1723.out.fld (by decide)) (show Hid (w1700 275 88 = w 275 88) from Hid.mk (Eq.trans (q1702 275 88 (mTq_fld (by decide))) (Hid.upn hw1678 (Or.inr (by decide)) (Hid.upn hw1658 (Or.inl (by decide)) (Hid.upn hw1639 (Or.inl (by decide)) (Hid.upn hw1621 (Or.inl (by decide)) (show Hid (w2 275 88 = w 275 88) from Hid.mk (q4.out.fld (by decide))))))).out)).out)
        have f1736 : e_fr (mStm (w 275 78) (w 275 79) (w 275 80) (w 275 94)) w w1721 := e_fr.trans (show e_fr (mStm (w 275 78) (w 275 79) (w 275 80) (w 275 94)) w w1700 from e_fr.trans (show e_fr (mStm (w 275 78) (w 275 79) (w 275 80) (w 275 94)) w w1678 from e_fr.up (show e_fr (mStm (w 275 78) (w 275 79) (w 275 80) (w 275 94)) w w1658 from e_fr.up f1640 hw1658 (by first | exact Or.inr (Or.inr (Or.inr (Or.inl ⟨⟨(by decide), (by decide)⟩, (by omega)⟩))) | (unfold mStm; omega))) hw1678 (by first | exact Or.inr (Or.inr (Or.inr (Or.inr ⟨rfl, Or.inr rfl⟩))) | (unfold mStm; omega))) (e_fr.mono q1702 (fun c k g => mTq_St g))) (q1723.out.st (by omega))
        have c1737 := cSt.em c1713 q1723.out (by decide) (by omega) (by omega)
        refine e_Ok.nrm (q := 326) (st' := [(0, w 275 78 + 1)]) rfl rfl ?_
        refine e_Ok.run (t' := (399, [(2, (0, w 275 78 + 1)), (0, (1, 275)), (1, (0, key))], [(0, 59), (1, 275), (1, 275)], w1721)) 5 rfl ?_
        refine e_Ok.callV rfl (Nat.le_trans (by decide) hdq) rfl rfl rfl rfl (c_331 c1737.1 (N := N) c1737.2.2.2.1) (fun r1740 w1741 h1742 => ?_)
        obtain ⟨z1743, rfl, rfl, q1744⟩ := h1742
        obtain ⟨rfl, q1744, q1744b⟩ | ⟨rfl, q1744n⟩ := q1744
        · refine e_Ok.nrm (q := 402) (st' := [(0, 1), (1, 275)]) rfl rfl ?_
          rw [(show Hid (w1721 275 84 = w1700 275 84) from Hid.mk (q1723.out.fld (by decide))).out] at q1744
          rw [(show Hid (w1721 275 85 = w1700 275 85) from Hid.mk (q1723.out.fld (by decide))).out] at q1744b
          refine e_Ok.callV rfl (Nat.le_trans (by decide) hdq) rfl rfl rfl rfl (c_334 (Nat.le_trans (by decide) hdq) c1737.1 c1737.2.1 c1737.2.2.1 hNr c1737.2.2.2.1 (by decide)) (fun r1745 w1746 h1747 => ?_)
          obtain ⟨rfl, q1748⟩ := h1747
          obtain ⟨rfl, q1748z⟩ | ⟨q1748z, q1748b, q1748, q1748s, q1748t⟩ | ⟨q1748z, q1748b, q1748, q1748T, q1748H, q1748r⟩ := q1748
          · rw [u1734.out] at q1748z; exact absurd q1748z (by omega)
          · show e_Ok 20 elay ecode eI (d + 1) 349 (405, [(2, (0, w 275 78 + 1)), (0, (1, 275)), (1, (0, key))], [], w1746) _
            rw [u1734.out] at q1748z
            rw [(show Hid (w1721 275 87 = w1700 275 87) from Hid.mk (q1723.out.fld (by decide))).out] at q1748t
            have p1749 := tkS.pos c1737.2.2.2.1 (by rw [(show Hid (w1721 275 84 = w1700 275 84) from Hid.mk (q1723.out.fld (by decide))).out] <;> omega)
            rw [(show Hid (w1721 275 86 = w1700 275 86) from Hid.mk (q1723.out.fld (by decide))).out, (show Hid (w1721 275 87 = w1700 275 87) from Hid.mk (q1723.out.fld (by decide))).out] at p1749
            have c1758 := cSt.tk c1737 q1748 q1748s
            have t1759 := tkS.lin c1758.2.2.2.1
            refine e_Ok.rets rfl rfl ?_
            exact ⟨rfl, (show e_fr (mStm (w 275 78) (w 275 79) (w 275 80) (w 275 94)) w w1746 from e_fr.trans f1736 (e_fr.mono q1748 (fun c k g => mTq_St g))), c1758, (by unfold stL; rw [(show Hid (w1746 275 78 = w 275 78 + 2) from Hid.mk (Eq.trans (q1748 275 78 (mTq_fld (by decide))) u1724.out)).out, (show Hid (w1746 275 79 = w 275 79) from Hid.mk (Eq.trans (q1748 275 79 (mTq_fld (by decide))) (show Hid (w1721 275 79 = w 275 79) from Hid.mk (Eq.trans (q1723.out.fld (by decide)) (show Hid (w1700 275 79 = w 275 79) from Hid.mk (Eq.trans (q1702 275 79 (mTq_fld (by decide))) (Hid.upn hw1678 (Or.inr (by decide)) (Hid.upn hw1658 (Or.inl (by decide)) (Hid.upn hw1639 (Or.inl (by decide)) (Hid.upn hw1621 (Or.inl (by decide)) (show Hid (w2 275 79 = w 275 79) from Hid.mk (q4.out.fld (by decide))))))).out)).out)).out)).out, (show Hid (w1746 275 80 = w 275 80) from Hid.mk (Eq.trans (q1748 275 80 (mTq_fld (by decide))) (show Hid (w1721 275 80 = w 275 80) from Hid.mk (Eq.trans (q1723.out.fld (by decide)) (show Hid (w1700 275 80 = w 275 80) from Hid.mk (Eq.trans (q1702 275 80 (mTq_fld (by decide))) (Hid.upn hw1678 (Or.inr (by decide)) (Hid.upn hw1658 (Or.inl (by decide)) (Hid.upn hw1639 (Or.inl (by decide)) (Hid.upn hw1621 (Or.inl (by decide)) (show Hid (w2 275 80 = w 275 80) from Hid.mk (q4.out.fld (by decide))))))).out)).out)).out)).out, (show Hid (w1746 275 81 = w 275 81) from Hid.mk (Eq.trans (q1748 275 81 (mTq_fld (by decide))) (show Hid (w1721 275 81 = w 275 81) from Hid.mk (Eq.trans (q1723.out.fld (by decide)) (show Hid (w1700 275 81 = w 275 81) from Hid.mk (Eq.trans (q1702 275 81 (mTq_fld (by decide))) (Hid.upn hw1678 (Or.inr (by decide)) (Hid.upn hw1658 (Or.inl (by decide)) (Hid.upn hw1639 (Or.inl (by decide)) (Hid.upn hw1621 (Or.inl (by decide)) (show Hid (w2 275 81 = w 275 81) from Hid.mk (q4.out.fld (by decide))))))).out)).out)).out)).out, (show Hid (w1746 275 82 = w 275 82) from Hid.mk (Eq.trans (q1748 275 82 (mTq_fld (by decide))) (show Hid (w1721 275 82 = w 275 82) from Hid.mk (Eq.trans (q1723.out.fld (by decide)) (show Hid (w1700 275 82 = w 275 82) from Hid.mk (Eq.trans (q1702 275 82 (mTq_fld (by decide))) (Hid.upn hw1678 (Or.inr (by decide)) (Hid.upn hw1658 (Or.inl (by decide)) (Hid.upn hw1639 (Or.inl (by decide)) (Hid.upn hw1621 (Or.inl (by decide)) u9)))).out)).out)).out)).out, (show Hid (w1746 275 83 = w 275 83) from Hid.mk (Eq.trans (q1748 275 83 (mTq_fld (by decide))) (show Hid (w1721 275 83 = w 275 83) from Hid.mk (Eq.trans (q1723.out.fld (by decide)) (show Hid (w1700 275 83 = w 275 83) from Hid.mk (Eq.trans (q1702 275 83 (mTq_fld (by decide))) (Hid.upn hw1678 (Or.inr (by decide)) (Hid.upn hw1658 (Or.inl (by decide)) (Hid.upn hw1639 (Or.inl (by decide)) (Hid.upn hw1621 (Or.inl (by decide)) (show Hid (w2 275 83 = w 275 83) from Hid.mk (q4.out.fld (by decide))))))).out)).out)).out)).out, (show Hid (w1746 275 88 = w 275 88) from Hid.mk (Eq.trans (q1748 275 88 (mTq_fld (by decide))) u1734.out)).out, (show Hid (w1746 275 94 = w 275 94 + 1) from Hid.mk (Eq.trans (q1748 275 94 (mTq_fld (by decide))) (show Hid (w1721 275 94 = w 275 94 + 1) from Hid.mk (Eq.trans (q1723.out.fld (by decide)) (show Hid (w1700 275 94 = w 275 94 + 1) from Hid.mk (Eq.trans (q1702 275 94 (mTq_fld (by decide))) (Hid.upe hw1678).out)).out)).out)).out]; omega), (fun z => by rw [(show Hid (w1746 275 88 = w 275 88) from Hid.mk (Eq.trans (q1748 275 88 (mTq_fld (by decide))) u1734.out)).out] at z; rw [(show Hid (w1746 275 78 = w 275 78 + 2) from Hid.mk (Eq.trans (q1748 275 78 (mTq_fld (by decide))) u1724.out)).out, (show Hid (w1746 275 94 = w 275 94 + 1) from Hid.mk (Eq.trans (q1748 275 94 (mTq_fld (by decide))) (show Hid (w1721 275 94 = w 275 94 + 1) from Hid.mk (Eq.trans (q1723.out.fld (by decide)) (show Hid (w1700 275 94 = w 275 94 + 1) from Hid.mk (Eq.trans (q1702 275 94 (mTq_fld (by decide))) (Hid.upe hw1678).out)).out)).out)).out, (show Hid (w1746 275 79 = w 275 79) from Hid.mk (Eq.trans (q1748 275 79 (mTq_fld (by decide))) (show Hid (w1721 275 79 = w 275 79) from Hid.mk (Eq.trans (q1723.out.fld (by decide)) (show Hid (w1700 275 79 = w 275 79) from Hid.mk (Eq.trans (q1702 275 79 (mTq_fld (by decide))) (Hid.upn hw1678 (Or.inr (by decide)) (Hid.upn hw1658 (Or.inl (by decide)) (Hid.upn hw1639 (Or.inl (by decide)) (Hid.upn hw1621 (Or.inl (by decide)) (show Hid (w2 275 79 = w 275 79) from Hid.mk (q4.out.fld (by decide))))))).out)).out)).out)).out, (show Hid (w1746 275 80 = w 275 80) from Hid.mk (Eq.trans (q1748 275 80 (mTq_fld (by decide))) (show Hid (w1721 275 80 = w 275 80) from Hid.mk (Eq.trans (q1723.out.fld (by decide)) (show Hid (w1700 275 80 = w 275 80) from Hid.mk (Eq.trans (q1702 275 80 (mTq_fld (by decide))) (Hid.upn hw1678 (Or.inr (by decide)) (Hid.upn hw1658 (Or.inl (by decide)) (Hid.upn hw1639 (Or.inl (by decide)) (Hid.upn hw1621 (Or.inl (by decide)) (show Hid (w2 275 80 = w 275 80) from Hid.mk (q4.out.fld (by decide))))))).out)).out)).out)).out, (show Hid (w1746 275 81 = w 275 81) from Hid.mk (Eq.trans (q1748 275 81 (mTq_fld (by decide))) (show Hid (w1721 275 81 = w 275 81) from Hid.mk (Eq.trans (q1723.out.fld (by decide)) (show Hid (w1700 275 81 = w 275 81) from Hid.mk (Eq.trans (q1702 275 81 (mTq_fld (by decide))) (Hid.upn hw1678 (Or.inr (by decide)) (Hid.upn hw1658 (Or.inl (by decide)) (Hid.upn hw1639 (Or.inl (by decide)) (Hid.upn hw1621 (Or.inl (by decide)) (show Hid (w2 275 81 = w 275 81) from Hid.mk (q4.out.fld (by decide))))))).out)).out)).out)).out]; exact (GZ.gb ((show Hid (w 275 88 = 0 → GZ w1746 N (w 275 78 + 2) (w 275 94 + 1) (w 275 79) (w 275 80) P (w 275 81) OW O) from Hid.mk (fun z => GZ.pr ((show Hid (w 275 88 = 0 → GZ w1721 N (w 275 78 + 2) (w 275 94 + 1) (w 275 79) (w 275 80) P (w 275 81) OW O) from Hid.mk (fun z => (GZ.re (GI.zz (g1716.out (by omega)).1 ((g1716.out (by omega)).2.2 46) (g1716.out (by omega)).2.1 q1723.out (by omega) (fun _ => Or.inl ⟨by omega, w 275 94, by omega, by omega, (show Hid (w1700 341 (w 275 94) = 4) from Hid.mk (Eq.trans (q1702 341 (w 275 94) (mTq_not (by decide))) (Hid.upn hw1678 (Or.inl (by decide)) (Hid.upn hw1658 (Or.inl (by decide)) (Hid.upn hw1639 (Or.inl (by decide)) (Hid.upe hw1621)))).out)).out⟩) (fun y => absurd y (by decide))) (show _ = w 275 78 + 2 from by omega) rfl rfl rfl rfl))).out z) (prE.tk q1748))).out (by omega))))⟩
          · exact absurd q1748b (by decide)
        · refine e_Ok.nrm (q := 402) (st' := [(0, 0), (1, 275)]) rfl rfl ?_
          clear q1744n
          refine e_Ok.callV rfl (Nat.le_trans (by decide) hdq) rfl rfl rfl rfl (c_334 (Nat.le_trans (by decide) hdq) c1737.1 c1737.2.1 c1737.2.2.1 hNr c1737.2.2.2.1 (by decide)) (fun r1763 w1764 h1765 => ?_)
          obtain ⟨rfl, q1766⟩ := h1765
          obtain ⟨rfl, q1766z⟩ | ⟨q1766z, q1766b, q1766, q1766s, q1766t⟩ | ⟨q1766z, q1766b, q1766, q1766T, q1766H, q1766r⟩ := q1766
          · rw [u1734.out] at q1766z; exact absurd q1766z (by omega)
          · exact absurd q1766b (by decide)
          · refine e_Ok.nrm (q := 405) (st' := []) rfl rfl ?_
            rw [u1734.out] at q1766z
            refine e_Ok.rets rfl rfl ?_
            exact ⟨rfl, (show e_fr (mStm (w 275 78) (w 275 79) (w 275 80) (w 275 94)) w w1764 from e_fr.trans f1736 (e_fr.mono q1766 (fun c k g => mRf_St g))), (cSt.rf c1737 q1766 q1766T q1766H), (by unfold stL; rw [(show Hid (w1764 275 78 = w 275 78 + 2) from Hid.mk (Eq.trans (q1766 275 78 (mRf_fld (by decide))) u1724.out)).out, (show Hid (w1764 275 79 = w 275 79) from Hid.mk (Eq.trans (q1766 275 79 (mRf_fld (by decide))) (show Hid (w1721 275 79 = w 275 79) from Hid.mk (Eq.trans (q1723.out.fld (by decide)) (show Hid (w1700 275 79 = w 275 79) from Hid.mk (Eq.trans (q1702 275 79 (mTq_fld (by decide))) (Hid.upn hw1678 (Or.inr (by decide)) (Hid.upn hw1658 (Or.inl (by decide)) (Hid.upn hw1639 (Or.inl (by decide)) (Hid.upn hw1621 (Or.inl (by decide)) (show Hid (w2 275 79 = w 275 79) from Hid.mk (q4.out.fld (by decide))))))).out)).out)).out)).out, (show Hid (w1764 275 80 = w 275 80) from Hid.mk (Eq.trans (q1766 275 80 (mRf_fld (by decide))) (show Hid (w1721 275 80 = w 275 80) from Hid.mk (Eq.trans (q1723.out.fld (by decide)) (show Hid (w1700 275 80 = w 275 80) from Hid.mk (Eq.trans (q1702 275 80 (mTq_fld (by decide))) (Hid.upn hw1678 (Or.inr (by decide)) (Hid.upn hw1658 (Or.inl (by decide)) (Hid.upn hw1639 (Or.inl (by decide)) (Hid.upn hw1621 (Or.inl (by decide)) (show Hid (w2 275 80 = w 275 80) from Hid.mk (q4.out.fld (by decide))))))).out)).out)).out)).out, (show Hid (w1764 275 81 = w 275 81) from Hid.mk (Eq.trans (q1766 275 81 (mRf_fld (by decide))) (show Hid (w1721 275 81 = w 275 81) from Hid.mk (Eq.trans (q1723.out.fld (by decide)) (show Hid (w1700 275 81 = w 275 81) from Hid.mk (Eq.trans (q1702 275 81 (mTq_fld (by decide))) (Hid.upn hw1678 (Or.inr (by decide)) (Hid.upn hw1658 (Or.inl (by decide)) (Hid.upn hw1639 (Or.inl (by decide)) (Hid.upn hw1621 (Or.inl (by decide)) (show Hid (w2 275 81 = w 275 81) from Hid.mk (q4.out.fld (by decide))))))).out)).out)).out)).out, (show Hid (w1764 275 82 = w 275 82) from Hid.mk (Eq.trans (q1766 275 82 (mRf_fld (by decide))) (show Hid (w1721 275 82 = w 275 82) from Hid.mk (Eq.trans (q1723.out.fld (by decide)) (show Hid (w1700 275 82 = w 275 82) from Hid.mk (Eq.trans (q1702 275 82 (mTq_fld (by decide))) (Hid.upn hw1678 (Or.inr (by decide)) (Hid.upn hw1658 (Or.inl (by decide)) (Hid.upn hw1639 (Or.inl (by decide)) (Hid.upn hw1621 (Or.inl (by decide)) u9)))).out)).out)).out)).out, (show Hid (w1764 275 83 = w 275 83) from Hid.mk (Eq.trans (q1766 275 83 (mRf_fld (by decide))) (show Hid (w1721 275 83 = w 275 83) from Hid.mk (Eq.trans (q1723.out.fld (by decide)) (show Hid (w1700 275 83 = w 275 83) from Hid.mk (Eq.trans (q1702 275 83 (mTq_fld (by decide))) (Hid.upn hw1678 (Or.inr (by decide)) (Hid.upn hw1658 (Or.inl (by decide)) (Hid.upn hw1639 (Or.inl (by decide)) (Hid.upn hw1621 (Or.inl (by decide)) (show Hid (w2 275 83 = w 275 83) from Hid.mk (q4.out.fld (by decide))))))).out)).out)).out)).out, (show Hid (w1764 275 86 = w1700 275 86) from Hid.mk (Eq.trans (q1766 275 86 (mRf_fld (by decide))) (show Hid (w1721 275 86 = w1700 275 86) from Hid.mk (q1723.out.fld (by decide))).out)).out, (show Hid (w1764 275 94 = w 275 94 + 1) from Hid.mk (Eq.trans (q1766 275 94 (mRf_fld (by decide))) (show Hid (w1721 275 94 = w 275 94 + 1) from Hid.mk (Eq.trans (q1723.out.fld (by decide)) (show Hid (w1700 275 94 = w 275 94 + 1) from Hid.mk (Eq.trans (q1702 275 94 (mTq_fld (by decide))) (Hid.upe hw1678).out)).out)).out)).out]; omega), (fun z => absurd z (by omega))⟩
end
