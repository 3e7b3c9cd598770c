-- part be
section
noncomputable section
theorem no_be_0 {n : Int} {nt : Int} {nw : Int} {m : Int} : ¬ mStm n nt nw m 275 93 := by unfold mStm; omega
set_option maxHeartbeats 4000000 in
theorem c_348 {d : Nat} (hd : 310 ≤ d) {w : eW} {N o O F : Int} {P OW : Int → Prop} (hc : cSt w N) (hNr : 0 ≤ N ∧ N ≤ 4000) (h0 : w 275 88 = 0) (ho : w 275 83 = o) (hv : w 275 82 = -1 ∨ OW (w 275 82)) (hb : stB w N o) (hO : O ≤ o) (hG : GB w N (w 275 78) (w 275 94) (w 275 79) (w 275 80) P (w 275 81) OW O) (hor : 0 ≤ o ∧ o ≤ 30) (hF : 300 ≤ F ∧ F ≤ 700) (hB : ∀ k, d = k + 1 → stC 350 1 o (F + 10) k) (hW : ∀ k, d = k + 1 → stC 351 1 o (F + 10) k) (hA : ∀ k, d = k + 1 → stC 352 1 o (F + 10) k) : e_Ok 20 elay ecode eI d 348 (0, [(0, (1, 275))], [], w) (fun r w' => r = [] ∧ stQ w w' N P OW O 0 (F + 10)) := by
  obtain ⟨d, rfl⟩ : ∃ e, d = e + 1 := ⟨d - 1, by omega⟩
  have hdq : 308 ≤ d := by omega
  have hct := tkS.lin hc.2.2.2.1
  have hcf := e_Has.get hc.2.1 (c := 275) (k := 88) (lo := 0) (hi := 7) rfl (by decide)
  have hsb := hc.2.2.2.2
  unfold stB at hb
  have hvr : -1 ≤ w 275 82 ∧ w 275 82 ≤ 900 := by rcases hv with g | g; omega; have := hG.1.2.2.2.2.2.2.2.1 _ g; omega
  replace hv := (show Hid _ from hv)
  have hgH : Hid (w 275 88 = 0 → GB w N (w 275 78) (w 275 94) (w 275 79) (w 275 80) P (w 275 81) OW O) := Hid.mk (fun _ => hG)
  have hL1 : ∀ (nn : Nat) (v1 : eW), e_fr (mStm (w 275 78) (w 275 79) (w 275 80) (w 275 94)) w v1 ∧ cSt v1 N ∧ stL w v1 0 (F + 10) ∧ Hid (v1 275 88 = 0 → GB v1 N (v1 275 78) (v1 275 94) (v1 275 79) (v1 275 80) P (v1 275 81) OW O) ∧ ((0 ≤ v1 275 86 ∧ v1 275 86 ≤ N ∧ 0 ≤ v1 275 88 ∧ v1 275 88 ≤ 7)) → 8 * (N - v1 275 86) + 7 - v1 275 88 < nn → e_Ok 20 elay ecode eI (d + 1) 348 (0, [(0, (1, 275))], [], v1) (fun r w' => r = [] ∧ stQ w w' N P OW O 0 (F + 10)) := by
    intro nn
    induction nn with
    | zero => intro v1 hj hm; obtain ⟨j3, j4, j5, j6, j7⟩ := hj; exfalso; omega
    | succ nn ih2 =>
      intro v1 hj hm
      obtain ⟨j3, j4, j5, j6, j7⟩ := hj
      have xl := j5
      unfold stL at xl
      obtain ⟨x1, x2, x3, x4, x5, x6, x7, x8, x9, x10, x11, x12⟩ := xl
      have xt := tkS.lin j4.2.2.2.1
      have xf := e_Has.get j4.2.1 (c := 275) (k := 88) (lo := 0) (hi := 7) rfl (by decide)
      have xr := j4.2.2.2.2
      have u8 : Hid (v1 275 81 = w 275 81) := Hid.mk (by omega)
      have u9 : Hid (v1 275 82 = w 275 82) := Hid.mk (by omega)
      have g10 : Hid (v1 275 88 = 0 → GB v1 N (v1 275 78) (v1 275 94) (v1 275 79) (v1 275 80) P (w 275 81) OW O) := Hid.mk (fun z => by have y := j6.out z; rw [u8.out] at y; exact y)
      refine e_Ok.run (t' := (1, [(0, (1, 275))], [(1, 275)], v1)) 1 rfl ?_
      refine e_Ok.callV rfl (Nat.le_trans (by decide) hdq) rfl rfl rfl rfl (c_347 (e_dq hd rfl) j4) (fun r11 w12 h13 => ?_)
      obtain ⟨z14, rfl, rfl, q15⟩ := h13
      obtain ⟨rfl, q15f, q15k⟩ | rfl := q15
      · refine e_Ok.nrm (q := 4) (st' := [(0, 1)]) rfl rfl ?_
        replace x3 := x3 (by omega)
        refine e_Ok.if1 rfl (fun h16 => ?_) (fun h16 => ?_)
        · replace h16 : (1 : Int) = 0 := h16
          exfalso; omega
        · replace h16 : (1 : Int) ≠ 0 := (show ¬ ((1 : Int) = 0) from h16)
          refine e_Ok.ps1 (x := (1, 275)) (q := 8) 1 rfl ?_
          refine e_Ok.getf (z := v1 275 84) rfl (el_o rfl) rfl (ef_o rfl) rfl (by omega) ?_
          refine e_Ok.ps1 (x := (0, 1)) (q := 12) 1 rfl ?_
          refine e_Ok.if2 rfl (fun h17 => ?_) (fun h17 => ?_)
          · replace h17 : (v1 275 84 : Int) ≠ 1 := h17
            refine e_Ok.ps1 (x := (1, 275)) (q := 75) 1 rfl ?_
            refine e_Ok.getf (z := v1 275 85) rfl (el_o rfl) rfl (ef_o rfl) rfl (by omega) ?_
            refine e_Ok.ps1 (x := (0, 18)) (q := 80) 1 rfl ?_
            refine e_Ok.if2 rfl (fun h18 => ?_) (fun h18 => ?_)
            · replace h18 : (v1 275 85 : Int) ≠ 18 := h18
              refine e_Ok.ps1 (x := (1, 275)) (q := 91) 1 rfl ?_
              refine e_Ok.getf (z := v1 275 85) rfl (el_o rfl) rfl (ef_o rfl) rfl (by omega) ?_
              refine e_Ok.ps1 (x := (0, 20)) (q := 96) 1 rfl ?_
              refine e_Ok.if2 rfl (fun h19 => ?_) (fun h19 => ?_)
              · replace h19 : (v1 275 85 : Int) ≠ 20 := h19
                refine e_Ok.ps1 (x := (1, 275)) (q := 107) 1 rfl ?_
                refine e_Ok.getf (z := v1 275 85) rfl (el_o rfl) rfl (ef_o rfl) rfl (by omega) ?_
                refine e_Ok.ps1 (x := (0, 21)) (q := 112) 1 rfl ?_
                refine e_Ok.if2 rfl (fun h20 => ?_) (fun h20 => ?_)
                · replace h20 : (v1 275 85 : Int) ≠ 21 := h20
                  refine e_Ok.ps2 (x := (1, 275)) (y := (1, 275)) (q := 124) 2 rfl ?_
                  refine e_Ok.getf (z := v1 275 85) rfl (el_o rfl) rfl (ef_o rfl) rfl (by omega) ?_
                  refine e_Ok.callV rfl (Nat.le_trans (by decide) hdq) rfl rfl rfl rfl (c_349 (O := O) (F := F) (by omega) j4 hNr (by omega) (by omega) (by rw [u9.out] <;> exact hv.out) (by unfold stB; omega) hO (by rw [u8.out] <;> exact (g10.out (by omega))) hor hF (by omega) (by omega)) (fun r21 w22 h23 => ?_)
                  obtain ⟨rfl, q24F, q24c, q24l, q24w⟩ := h23
                  unfold stL at q24l
                  obtain ⟨q241, q242, q243, q244, q245, q246, q247, q248, q249, q2410, q2411, q2412⟩ := q24l
                  replace q249 := (show Hid _ from q249)
                  replace q2410 := (show Hid _ from q2410)
                  replace q24F := (show Hid _ from q24F)
                  replace q24w := (show Hid _ from q24w)
                  have t28 := tkS.lin q24c.2.2.2.1
                  have t29 := e_Has.get q24c.2.1 (c := 275) (k := 88) (lo := 0) (hi := 7) rfl (by decide)
                  refine e_Ok.nrm (q := 130) (st' := []) rfl rfl ?_
                  refine e_Ok.ps0 (q := 0) 1 rfl ?_
                  refine e_Ok.sub eAlk (e_sub_of rfl ?_) (ih2  w22 ⟨(show e_fr (mStm (w 275 78) (w 275 79) (w 275 80) (w 275 94)) w w22 from e_fr.trans j3 (e_fr.mono (show Hid (e_fr (mStm (v1 275 78) (v1 275 79) (v1 275 80) (v1 275 94)) v1 w22) from Hid.mk (by have y := q24F.out; exact y)).out (fun c k g => mSt_St (by omega) (by omega) (by omega) (by omega) g))), q24c, (by unfold stL; rw [(show Hid (w22 275 81 = w 275 81) from Hid.mk (Eq.trans (q249.out) u8.out)).out, (show Hid (w22 275 82 = w 275 82) from Hid.mk (Eq.trans (q2410.out) u9.out)).out]; omega), (Hid.mk (fun z => by rw [(show Hid (w22 275 81 = w 275 81) from Hid.mk (Eq.trans (q249.out) u8.out)).out]; exact ((show Hid (w22 275 88 = 0 → GB w22 N (w22 275 78) (w22 275 94) (w22 275 79) (w22 275 80) P (w 275 81) OW O) from Hid.mk (fun z => by have y := q24w.out z; rw [(show Hid (w22 275 81 = w 275 81) from Hid.mk (Eq.trans (q249.out) u8.out)).out] at y; exact y)).out (by omega)))), (by omega)⟩ ((by omega)))
                  exact ⟨rfl, trivial⟩
                · replace h20 : (v1 275 85 : Int) = 21 := Classical.not_not.mp (show ¬ ((v1 275 85 : Int) ≠ 21) from h20)
                  refine e_Ok.ps1 (x := (1, 275)) (q := 116) 1 rfl ?_
                  refine e_Ok.callV rfl (Nat.le_trans (by decide) hdq) rfl rfl rfl rfl ((hA d rfl) v1 N O P OW j4 hNr (by omega) (Eq.trans rfl (show _ = o from by omega)) (by rw [u9.out] <;> exact hv.out) (by unfold stB; omega) (by omega) (by rw [u8.out] <;> exact (g10.out (by omega)))) (fun r32 w33 h34 => ?_)
                  obtain ⟨rfl, q35F, q35c, q35l, q35w⟩ := h34
                  unfold stL at q35l
                  obtain ⟨q351, q352, q353, q354, q355, q356, q357, q358, q359, q3510, q3511, q3512⟩ := q35l
                  replace q359 := (show Hid _ from q359)
                  replace q3510 := (show Hid _ from q3510)
                  replace q35F := (show Hid _ from q35F)
                  replace q35w := (show Hid _ from q35w)
                  have t40 := tkS.lin q35c.2.2.2.1
                  have t41 := e_Has.get q35c.2.1 (c := 275) (k := 88) (lo := 0) (hi := 7) rfl (by decide)
                  refine e_Ok.nrm (q := 119) (st' := []) rfl rfl ?_
                  refine e_Ok.ps0 (q := 0) 1 rfl ?_
                  refine e_Ok.sub eAlk (e_sub_of rfl ?_) (ih2  w33 ⟨(show e_fr (mStm (w 275 78) (w 275 79) (w 275 80) (w 275 94)) w w33 from e_fr.trans j3 (e_fr.mono (show Hid (e_fr (mStm (v1 275 78) (v1 275 79) (v1 275 80) (v1 275 94)) v1 w33) from Hid.mk (by have y := q35F.out; exact y)).out (fun c k g => mSt_St (by omega) (by omega) (by omega) (by omega) g))), q35c, (by unfold stL; rw [(show Hid (w33 275 81 = w 275 81) from Hid.mk (Eq.trans (q359.out) u8.out)).out, (show Hid (w33 275 82 = w 275 82) from Hid.mk (Eq.trans (q3510.out) u9.out)).out]; omega), (Hid.mk (fun z => by rw [(show Hid (w33 275 81 = w 275 81) from Hid.mk (Eq.trans (q359.out) u8.out)).out]; exact ((show Hid (w33 275 88 = 0 → GB w33 N (w33 275 78) (w33 275 94) (w33 275 79) (w33 275 80) P (w 275 81) OW O) from Hid.mk (fun z => by have y := q35w.out z; rw [(show Hid (w33 275 81 = w 275 81) from Hid.mk (Eq.trans (q359.out) u8.out)).out] at y; exact y)).out (by omega)))), (by omega)⟩ ((by omega)))
                  exact ⟨rfl, trivial⟩
              · replace h19 : (v1 275 85 : Int) = 20 := Classical.not_not.mp (show ¬ ((v1 275 85 : Int) ≠ 20) from h19)
                refine e_Ok.ps1 (x := (1, 275)) (q := 100) 1 rfl ?_
                refine e_Ok.callV rfl (Nat.le_trans (by decide) hdq) rfl rfl rfl rfl ((hW d rfl) v1 N O P OW j4 hNr (by omega) (Eq.trans rfl (show _ = o from by omega)) (by rw [u9.out] <;> exact hv.out) (by unfold stB; omega) (by omega) (by rw [u8.out] <;> exact (g10.out (by omega)))) (fun r44 w45 h46 => ?_)
                obtain ⟨rfl, q47F, q47c, q47l, q47w⟩ := h46
                unfold stL at q47l
                obtain ⟨q471, q472, q473, q474, q475, q476, q477, q478, q479, q4710, q4711, q4712⟩ := q47l
                replace q479 := (show Hid _ from q479)
                replace q4710 := (show Hid _ from q4710)
                replace q47F := (show Hid _ from q47F)
                replace q47w := (show Hid _ from q47w)
                have t51 := tkS.lin q47c.2.2.2.1
                have t52 := e_Has.get q47c.2.1 (c := 275) (k := 88) (lo := 0) (hi := 7) rfl (by decide)
                refine e_Ok.nrm (q := 103) (st' := []) rfl rfl ?_
                refine e_Ok.ps0 (q := 0) 1 rfl ?_
                refine e_Ok.sub eAlk (e_sub_of rfl ?_) (ih2  w45 ⟨(show e_fr (mStm (w 275 78) (w 275 79) (w 275 80) (w 275 94)) w w45 from e_fr.trans j3 (e_fr.mono (show Hid (e_fr (mStm (v1 275 78) (v1 275 79) (v1 275 80) (v1 275 94)) v1 w45) from Hid.mk (by have y := q47F.out; exact y)).out (fun c k g => mSt_St (by omega) (by omega) (by omega) (by omega) g))), q47c, (by unfold stL; rw [(show Hid (w45 275 81 = w 275 81) from Hid.mk (Eq.trans (q479.out) u8.out)).out, (show Hid (w45 275 82 = w 275 82) from Hid.mk (Eq.trans (q4710.out) u9.out)).out]; omega), (Hid.mk (fun z => by rw [(show Hid (w45 275 81 = w 275 81) from Hid.mk (Eq.trans (q479.out) u8.out)).out]; exact ((show Hid (w45 275 88 = 0 → GB w45 N (w45 275 78) (w45 275 94) (w45 275 79) (w45 275 80) P (w 275 81) OW O) from Hid.mk (fun z => by have y := q47w.out z; rw [(show Hid (w45 275 81 = w 275 81) from Hid.mk (Eq.trans (q479.out) u8.out)).out] at y; exact y)).out (by omega)))), (by omega)⟩ ((by omega)))
                exact ⟨rfl, trivial⟩
            · replace h18 : (v1 275 85 : Int) = 18 := Classical.not_not.mp (show ¬ ((v1 275 85 : Int) ≠ 18) from h18)
              refine e_Ok.ps1 (x := (1, 275)) (q := 84) 1 rfl ?_
              refine e_Ok.callV rfl (Nat.le_trans (by decide) hdq) rfl rfl rfl rfl ((hB d rfl) v1 N O P OW j4 hNr (by omega) (Eq.trans rfl (show _ = o from by omega)) (by rw [u9.out] <;> exact hv.out) (by unfold stB; omega) (by omega) (by rw [u8.out] <;> exact (g10.out (by omega)))) (fun r55 w56 h57 => ?_)
              obtain ⟨rfl, q58F, q58c, q58l, q58w⟩ := h57
              unfold stL at q58l
              obtain ⟨q581, q582, q583, q584, q585, q586, q587, q588, q589, q5810, q5811, q5812⟩ := q58l
              replace q589 := (show Hid _ from q589)
              replace q5810 := (show Hid _ from q5810)
              replace q58F := (show Hid _ from q58F)
              replace q58w := (show Hid _ from q58w)
              have t62 := tkS.lin q58c.2.2.2.1
              have t63 := e_Has.get q58c.2.1 (c := 275) (k := 88) (lo := 0) (hi := 7) rfl (by decide)
              refine e_Ok.nrm (q := 87) (st' := []) rfl rfl ?_
              refine e_Ok.ps0 (q := 0) 1 rfl ?_
              refine e_Ok.sub eAlk (e_sub_of rfl ?_) (ih2  w56 ⟨(show e_fr (mStm (w 275 78) (w 275 79) (w 275 80) (w 275 94)) w w56 from e_fr.trans j3 (e_fr.mono (show Hid (e_fr (mStm (v1 275 78) (v1 275 79) (v1 275 80) (v1 275 94)) v1 w56) from Hid.mk (by have y := q58F.out; exact y)).out (fun c k g => mSt_St (by omega) (by omega) (by omega) (by omega) g))), q58c, (by unfold stL; rw [(show Hid (w56 275 81 = w 275 81) from Hid.mk (Eq.trans (q589.out) u8.out)).out, (show Hid (w56 275 82 = w 275 82) from Hid.mk (Eq.trans (q5810.out) u9.out)).out]; omega), (Hid.mk (fun z => by rw [(show Hid (w56 275 81 = w 275 81) from Hid.mk (Eq.trans (q589.out) u8.out)).out]; exact ((show Hid (w56 275 88 = 0 → GB w56 N (w56 275 78) (w56 275 94) (w56 275 79) (w56 275 80) P (w 275 81) OW O) from Hid.mk (fun z => by have y := q58w.out z; rw [(show Hid (w56 275 81 = w 275 81) from Hid.mk (Eq.trans (q589.out) u8.out)).out] at y; exact y)).out (by omega)))), (by omega)⟩ ((by omega)))
              exact ⟨rfl, trivial⟩
          · replace h17 : (v1 275 84 : Int) = 1 := Classical.not_not.mp (show ¬ ((v1 275 84 : Int) ≠ 1) from h17)
            refine e_Ok.ps3 (x := (0, 0)) (y := (0, 30)) (z := (1, 275)) (q := 19) 3 rfl ?_
            refine e_Ok.callV rfl (Nat.le_trans (by decide) hdq) rfl rfl rfl rfl (c_336 j4.1 (n := v1 275 78) rfl (by omega) (s := w 275 81) u8.out (by omega)) (fun r66 w67 h68 => ?_)
            obtain ⟨rfl, q69⟩ := h68
            replace q69 := (show Hid (EM v1 w67 (v1 275 78) 30 (0) (w 275 81)) from q69)
            have c83 := cSt.em j4 q69.out (by decide) (by omega) (by omega)
            refine e_Ok.nrm (q := 22) (st' := [(0, v1 275 78)]) rfl rfl ?_
            refine e_Ok.run (t' := (24, [(0, (1, 275))], [(1, 275)], w67)) 2 rfl ?_
            refine e_Ok.getf (z := v1 275 94) rfl (el_o rfl) rfl (ef_o rfl) (show Hid (w67 275 94 = v1 275 94) from Hid.mk (q69.out.fld (by decide))).out (by omega) ?_
            refine e_Ok.run (t' := (31, [(1, (0, v1 275 94)), (0, (1, 275))], [(0, 0), (0, 2), (1, 275)], w67)) 4 rfl ?_
            refine e_Ok.callV rfl (Nat.le_trans (by decide) hdq) rfl rfl rfl rfl (c_338 (Nat.le_trans (by decide) hdq) c83.1 c83.2.1 c83.2.2.1 hNr c83.2.2.2.1 (mm := v1 275 94) (show Hid (w67 275 94 = v1 275 94) from Hid.mk (q69.out.fld (by decide))).out (by omega) (by decide) (by omega)) (fun r87 w88 h89 => ?_)
            obtain ⟨rfl, q90⟩ := h89
            obtain ⟨rfl, q90z⟩ | ⟨q90z, q90k, q90, q90T, q90H, q90r⟩ | ⟨q90z, q90k, w91, q90F, q90T, q90H, q90v, q90o, q90, q90s, q90t⟩ := q90
            · rw [(show Hid (w67 275 88 = v1 275 88) from Hid.mk (q69.out.fld (by decide))).out] at q90z; exact absurd q90z (by omega)
            · rw [(show Hid (w67 275 84 = v1 275 84) from Hid.mk (q69.out.fld (by decide))).out] at q90k; exact absurd q90k (by omega)
            · refine e_Ok.nrm (q := 34) (st' := []) rfl rfl ?_
              rw [(show Hid (w67 275 88 = v1 275 88) from Hid.mk (q69.out.fld (by decide))).out] at q90z
              rw [(show Hid (w67 275 84 = v1 275 84) from Hid.mk (q69.out.fld (by decide))).out] at q90k
              rw [(show Hid (w67 275 87 = v1 275 87) from Hid.mk (q69.out.fld (by decide))).out] at q90t
              have p92 := tkS.pos c83.2.2.2.1 (by rw [(show Hid (w67 275 84 = v1 275 84) from Hid.mk (q69.out.fld (by decide))).out] <;> omega)
              rw [(show Hid (w67 275 86 = v1 275 86) from Hid.mk (q69.out.fld (by decide))).out, (show Hid (w67 275 87 = v1 275 87) from Hid.mk (q69.out.fld (by decide))).out] at p92
              obtain ⟨q90v1, q90v2, q90v3, q90v4, q90v5⟩ := q90v
              rw [(show Hid (w67 275 86 = v1 275 86) from Hid.mk (q69.out.fld (by decide))).out] at q90v2
              rw [(show Hid (w67 275 86 = v1 275 86) from Hid.mk (q69.out.fld (by decide))).out, (show Hid (w67 275 87 = v1 275 87) from Hid.mk (q69.out.fld (by decide))).out] at q90v3
              replace q90v1 := (show Hid _ from q90v1)
              replace q90v2 := (show Hid _ from q90v2)
              replace q90v3 := (show Hid _ from q90v3)
              replace q90v4 := (show Hid _ from q90v4)
              replace q90v5 := (show Hid _ from q90v5)
              replace q90o := (show Hid _ from q90o)
              have u124 : Hid (w88 275 88 = v1 275 88) := Hid.mk (Eq.trans (q90 275 88 (mTq_fld (by decide))) (show Hid (w91 275 88 = v1 275 88) from Hid.mk (Eq.trans (q90F 275 88 (mNm_fld (by decide))) (show Hid (w67 275 88 = v1 275 88) from Hid.mk (q69.out.fld (by decide))).out)).out)
              have c126 := cSt.tk (cSt.nm c83 q90F) q90 q90s
              have t127 := tkS.lin c126.2.2.2.1
              have f128 : e_fr (mStm (w 275 78) (w 275 79) (w 275 80) (w 275 94)) w w88 := e_fr.trans (show e_fr (mStm (w 275 78) (w 275 79) (w 275 80) (w 275 94)) w w91 from e_fr.trans (show e_fr (mStm (w 275 78) (w 275 79) (w 275 80) (w 275 94)) w w67 from e_fr.trans j3 (q69.out.st (by omega))) (fun c k g => q90o.out c k (fun g2 => g (by unfold mStm; omega)))) (e_fr.mono q90 (fun c k g => mTq_St g))
              refine e_Ok.run (t' := (38, [(1, (0, v1 275 94)), (0, (1, 275))], [(0, 61), (1, 275), (1, 275)], w88)) 3 rfl ?_
              refine e_Ok.callV rfl (Nat.le_trans (by decide) hdq) rfl rfl rfl rfl (c_331 c126.1 (N := N) c126.2.2.2.1) (fun r134 w135 h136 => ?_)
              obtain ⟨z137, rfl, rfl, q138⟩ := h136
              obtain ⟨rfl, q138, q138b⟩ | ⟨rfl, q138n⟩ := q138
              · refine e_Ok.nrm (q := 41) (st' := [(0, 1), (1, 275)]) rfl rfl ?_
                refine e_Ok.callV rfl (Nat.le_trans (by decide) hdq) rfl rfl rfl rfl (c_334 (Nat.le_trans (by decide) hdq) c126.1 c126.2.1 c126.2.2.1 hNr c126.2.2.2.1 (by decide)) (fun r139 w140 h141 => ?_)
                obtain ⟨rfl, q142⟩ := h141
                obtain ⟨rfl, q142z⟩ | ⟨q142z, q142b, q142, q142s, q142t⟩ | ⟨q142z, q142b, q142, q142T, q142H, q142r⟩ := q142
                · rw [u124.out] at q142z; exact absurd q142z (by omega)
                · refine e_Ok.nrm (q := 44) (st' := []) rfl rfl ?_
                  rw [u124.out] at q142z
                  have p143 := tkS.pos c126.2.2.2.1 (by omega)
                  have u144 : Hid (w140 275 78 = v1 275 78 + 1) := Hid.mk (Eq.trans (q142 275 78 (mTq_fld (by decide))) (show Hid (w88 275 78 = v1 275 78 + 1) from Hid.mk (Eq.trans (q90 275 78 (mTq_fld (by decide))) (show Hid (w91 275 78 = v1 275 78 + 1) from Hid.mk (Eq.trans (q90F 275 78 (mNm_fld (by decide))) (show Hid (w67 275 78 = v1 275 78 + 1) from Hid.mk (Eq.trans q69.out.2.2.2.2 (by omega))).out)).out)).out)
                  have u151 : Hid (w140 275 94 = v1 275 94 + 1) := Hid.mk (Eq.trans (q142 275 94 (mTq_fld (by decide))) (show Hid (w88 275 94 = v1 275 94 + 1) from Hid.mk (Eq.trans (q90 275 94 (mTq_fld (by decide))) (show Hid (w91 275 94 = v1 275 94 + 1) from Hid.mk (Eq.trans q90v5.out (by omega))).out)).out)
                  have c152 := cSt.tk c126 q142 q142s
                  have t153 := tkS.lin c152.2.2.2.1
                  refine e_Ok.run (t' := (45, [(1, (0, v1 275 94)), (0, (1, 275))], [(1, 275)], w140)) 1 rfl ?_
                  refine e_Ok.callV rfl (Nat.le_trans (by decide) hdq) rfl rfl rfl rfl (c_exp (o := v1 275 83) (Nat.le_trans (by decide) hdq) (by omega) w140 N (v1 275 79) (w 275 81) (0) (enc (fun p => P p ∨ p = -2 - 2 * (v1 275 94)) (v1 275 78 + 1) (v1 275 94 + 1)) c152 hNr (by rw [(show Hid (w140 275 88 = v1 275 88) from Hid.mk (Eq.trans (q142 275 88 (mTq_fld (by decide))) u124.out)).out] <;> omega) (show Hid (w140 275 83 = v1 275 83) from Hid.mk (Eq.trans (q142 275 83 (mTq_fld (by decide))) (show Hid (w88 275 83 = v1 275 83) from Hid.mk (Eq.trans (q90 275 83 (mTq_fld (by decide))) (show Hid (w91 275 83 = v1 275 83) from Hid.mk (Eq.trans (q90F 275 83 (mNm_fld (by decide))) (show Hid (w67 275 83 = v1 275 83) from Hid.mk (q69.out.fld (by decide))).out)).out)).out)).out (show Hid (w140 275 81 = w 275 81) from Hid.mk (Eq.trans (q142 275 81 (mTq_fld (by decide))) (show Hid (w88 275 81 = w 275 81) from Hid.mk (Eq.trans (q90 275 81 (mTq_fld (by decide))) (show Hid (w91 275 81 = w 275 81) from Hid.mk (Eq.trans (q90F 275 81 (mNm_fld (by decide))) (show Hid (w67 275 81 = w 275 81) from Hid.mk (Eq.trans (q69.out.fld (by decide)) u8.out)).out)).out)).out)).out (by rw [u144.out, u151.out] <;> omega) (by rw [u144.out, u151.out] <;> exact GS.wf (GA.gs ((show Hid (v1 275 88 = 0 → GA w140 N (v1 275 78 + 1) (v1 275 94 + 1) (v1 275 79) (v1 275 80) (fun p => P p ∨ p = -2 - 2 * (v1 275 94)) (w 275 81) OW O) from Hid.mk (fun z => GA.pr ((show Hid (v1 275 88 = 0 → GA w88 N (v1 275 78 + 1) (v1 275 94 + 1) (v1 275 79) (v1 275 80) (fun p => P p ∨ p = -2 - 2 * (v1 275 94)) (w 275 81) OW O) from Hid.mk (fun z => GA.pr ((show Hid (v1 275 88 = 0 → GA w91 N (v1 275 78 + 1) (v1 275 94 + 1) (v1 275 79) (v1 275 80) (fun p => P p ∨ p = -2 - 2 * (v1 275 94)) (w 275 81) OW O) from Hid.mk (fun z => (GA.note ((show Hid (v1 275 88 = 0 → GA w67 N (v1 275 78 + 1) (v1 275 94) (v1 275 79) (v1 275 80) P (w 275 81) OW O) from Hid.mk (fun z => (GB.beg (g10.out (by omega)) q69.out))).out (by omega)) q90o.out (by unfold nmO; rw [q90v1.out, q90v2.out, q90v3.out, q90v4.out]; exact ⟨by omega, by omega, fun _ => by omega⟩) (by rw [q90v1.out]; decide) (by omega)))).out z) (prE.tk q90))).out z) (prE.tk q142))).out (by omega)))) (by omega)) (fun r160 w161 h162 => ?_)
                  obtain ⟨rfl, q163F, q163c, q163l, q163w⟩ := h162
                  unfold cLn at q163l
                  rw [u144.out, (show Hid (w140 275 83 = v1 275 83) from Hid.mk (Eq.trans (q142 275 83 (mTq_fld (by decide))) (show Hid (w88 275 83 = v1 275 83) from Hid.mk (Eq.trans (q90 275 83 (mTq_fld (by decide))) (show Hid (w91 275 83 = v1 275 83) from Hid.mk (Eq.trans (q90F 275 83 (mNm_fld (by decide))) (show Hid (w67 275 83 = v1 275 83) from Hid.mk (q69.out.fld (by decide))).out)).out)).out)).out, u151.out] at q163l
                  rw [u144.out, u151.out] at q163F
                  obtain ⟨q1631, q1632, q1633, q1634, q1635, q1636, q1637, q1638, q1639⟩ := q163l
                  replace q163w := (show Hid _ from q163w)
                  have u164 : Hid (w161 275 79 = v1 275 79) := Hid.mk (Eq.trans (q163F 275 79 (mEx_fld (by decide))) (show Hid (w140 275 79 = v1 275 79) from Hid.mk (Eq.trans (q142 275 79 (mTq_fld (by decide))) (show Hid (w88 275 79 = v1 275 79) from Hid.mk (Eq.trans (q90 275 79 (mTq_fld (by decide))) (show Hid (w91 275 79 = v1 275 79) from Hid.mk (Eq.trans (q90F 275 79 (mNm_fld (by decide))) (show Hid (w67 275 79 = v1 275 79) from Hid.mk (q69.out.fld (by decide))).out)).out)).out)).out)
                  have u165 : Hid (w161 275 80 = v1 275 80) := Hid.mk (Eq.trans (q163F 275 80 (mEx_fld (by decide))) (show Hid (w140 275 80 = v1 275 80) from Hid.mk (Eq.trans (q142 275 80 (mTq_fld (by decide))) (show Hid (w88 275 80 = v1 275 80) from Hid.mk (Eq.trans (q90 275 80 (mTq_fld (by decide))) (show Hid (w91 275 80 = v1 275 80) from Hid.mk (Eq.trans (q90F 275 80 (mNm_fld (by decide))) (show Hid (w67 275 80 = v1 275 80) from Hid.mk (q69.out.fld (by decide))).out)).out)).out)).out)
                  have u166 : Hid (w161 275 81 = w 275 81) := Hid.mk (Eq.trans (q163F 275 81 (mEx_fld (by decide))) (show Hid (w140 275 81 = w 275 81) from Hid.mk (Eq.trans (q142 275 81 (mTq_fld (by decide))) (show Hid (w88 275 81 = w 275 81) from Hid.mk (Eq.trans (q90 275 81 (mTq_fld (by decide))) (show Hid (w91 275 81 = w 275 81) from Hid.mk (Eq.trans (q90F 275 81 (mNm_fld (by decide))) (show Hid (w67 275 81 = w 275 81) from Hid.mk (Eq.trans (q69.out.fld (by decide)) u8.out)).out)).out)).out)).out)
                  have u167 : Hid (w161 275 82 = w 275 82) := Hid.mk (Eq.trans (q163F 275 82 (mEx_fld (by decide))) (show Hid (w140 275 82 = w 275 82) from Hid.mk (Eq.trans (q142 275 82 (mTq_fld (by decide))) (show Hid (w88 275 82 = w 275 82) from Hid.mk (Eq.trans (q90 275 82 (mTq_fld (by decide))) (show Hid (w91 275 82 = w 275 82) from Hid.mk (Eq.trans (q90F 275 82 (mNm_fld (by decide))) (show Hid (w67 275 82 = w 275 82) from Hid.mk (Eq.trans (q69.out.fld (by decide)) u9.out)).out)).out)).out)).out)
                  have t168 := tkS.lin q163c.2.2.2.1
                  have t169 := e_Has.get q163c.2.1 (c := 275) (k := 88) (lo := 0) (hi := 7) rfl (by decide)
                  have f170 : e_fr (mStm (w 275 78) (w 275 79) (w 275 80) (w 275 94)) w w161 := e_fr.trans (show e_fr (mStm (w 275 78) (w 275 79) (w 275 80) (w 275 94)) w w140 from e_fr.trans f128 (e_fr.mono q142 (fun c k g => mTq_St g))) (e_fr.mono q163F (fun c k g => mEx_St (by omega) (by omega) g))
                  have q163x : Hid (w161 275 88 = 0 → GS w161 N (w161 275 78) (w161 275 94) (v1 275 79) (v1 275 80) (fun p => P p ∨ p = -2 - 2 * (v1 275 94)) (w 275 81) OW O (0 + 1) ∧ (∀ p, v1 275 78 + 1 ≤ p → p < w161 275 78 → w161 330 (p + 40000) = w 275 81) ∧ dp w161 (v1 275 78 + 1) = 0 ∧ ((0 : Int) ≠ 0 + 1 → v1 275 78 + 1 < w161 275 78)) := Hid.mk (fun z => GS.ex (GA.gs ((show Hid (v1 275 88 = 0 → GA w140 N (v1 275 78 + 1) (v1 275 94 + 1) (v1 275 79) (v1 275 80) (fun p => P p ∨ p = -2 - 2 * (v1 275 94)) (w 275 81) OW O) from Hid.mk (fun z => GA.pr ((show Hid (v1 275 88 = 0 → GA w88 N (v1 275 78 + 1) (v1 275 94 + 1) (v1 275 79) (v1 275 80) (fun p => P p ∨ p = -2 - 2 * (v1 275 94)) (w 275 81) OW O) from Hid.mk (fun z => GA.pr ((show Hid (v1 275 88 = 0 → GA w91 N (v1 275 78 + 1) (v1 275 94 + 1) (v1 275 79) (v1 275 80) (fun p => P p ∨ p = -2 - 2 * (v1 275 94)) (w 275 81) OW O) from Hid.mk (fun z => (GA.note ((show Hid (v1 275 88 = 0 → GA w67 N (v1 275 78 + 1) (v1 275 94) (v1 275 79) (v1 275 80) P (w 275 81) OW O) from Hid.mk (fun z => (GB.beg (g10.out (by omega)) q69.out))).out (by omega)) q90o.out (by unfold nmO; rw [q90v1.out, q90v2.out, q90v3.out, q90v4.out]; exact ⟨by omega, by omega, fun _ => by omega⟩) (by rw [q90v1.out]; decide) (by omega)))).out z) (prE.tk q90))).out z) (prE.tk q142))).out (by omega))) q163F (by omega) (by omega) (q163w.out z))
                  show e_Ok 20 elay ecode eI (d + 1) 348 (48, [(1, (0, v1 275 94)), (0, (1, 275))], [], w161) _
                  refine e_Ok.ps3 (x := (0, 59)) (y := (1, 275)) (z := (1, 275)) (q := 52) 3 rfl ?_
                  refine e_Ok.callV rfl (Nat.le_trans (by decide) hdq) rfl rfl rfl rfl (c_331 q163c.1 (N := N) q163c.2.2.2.1) (fun r176 w177 h178 => ?_)
                  obtain ⟨z179, rfl, rfl, q180⟩ := h178
                  obtain ⟨rfl, q180, q180b⟩ | ⟨rfl, q180n⟩ := q180
                  · refine e_Ok.nrm (q := 55) (st' := [(0, 1), (1, 275)]) rfl rfl ?_
                    refine e_Ok.callV rfl (Nat.le_trans (by decide) hdq) rfl rfl rfl rfl (c_334 (Nat.le_trans (by decide) hdq) q163c.1 q163c.2.1 q163c.2.2.1 hNr q163c.2.2.2.1 (by decide)) (fun r181 w182 h183 => ?_)
                    obtain ⟨rfl, q184⟩ := h183
                    obtain ⟨rfl, q184z⟩ | ⟨q184z, q184b, q184, q184s, q184t⟩ | ⟨q184z, q184b, q184, q184T, q184H, q184r⟩ := q184
                    · refine e_Ok.nrm (q := 58) (st' := []) rfl rfl ?_
                      clear q1633
                      clear q1639
                      refine e_Ok.ps1 (x := (1, 275)) (q := 59) 1 rfl ?_
                      refine e_Ok.getr (z := 344) rfl (el_o rfl) rfl (ef_o rfl) ((f170 275 93 (by first | exact no_be_0 | (unfold mStm; omega))).trans (e_Has.eq hc.1 rfl)) ⟨by decide, by decide⟩ ?_
                      refine e_Ok.ps4 (x := (0, 0)) (y := (0, 31)) (z := (1, 275)) (u := (0, v1 275 94)) (q := 67) 4 rfl ?_
                      refine e_Ok.callV rfl (Nat.le_trans (by decide) hdq) rfl rfl rfl rfl (c_336 q163c.1 (n := w161 275 78) rfl (by omega) (s := w 275 81) u166.out (by omega)) (fun r185 w186 h187 => ?_)
                      obtain ⟨rfl, q188⟩ := h187
                      replace q188 := (show Hid (EM w161 w186 (w161 275 78) 31 (0) (w 275 81)) from q188)
                      refine e_Ok.nrm (q := 70) (st' := [(0, w161 275 78), (0, v1 275 94), (1, 344)]) rfl rfl ?_
                      refine e_Ok.ast rfl (el_o rfl) rfl rfl (by omega) ?_
                      generalize hw203 : e_up w186 344 (v1 275 94) (w161 275 78) = w203
                      have u215 : Hid (w203 275 88 = w161 275 88) := Hid.upn hw203 (Or.inl (by decide)) (show Hid (w186 275 88 = w161 275 88) from Hid.mk (q188.out.fld (by decide)))
                      refine e_Ok.ps0 (q := 0) 1 rfl ?_
                      refine e_Ok.sub eAlk (e_sub_of rfl ?_) (ih2  w203 ⟨(show e_fr (mStm (w 275 78) (w 275 79) (w 275 80) (w 275 94)) w w203 from e_fr.up (show e_fr (mStm (w 275 78) (w 275 79) (w 275 80) (w 275 94)) w w186 from e_fr.trans f170 (q188.out.st (by omega))) hw203 (by unfold mStm; omega)), (cSt.wr (cSt.em q163c q188.out (by decide) (by omega) (by omega)) hw203 (Or.inr rfl) (by omega) rfl (fun y => absurd y (by decide))), (by unfold stL; rw [(Hid.upn hw203 (Or.inl (by decide)) (show Hid (w186 275 78 = w161 275 78 + 1) from Hid.mk (Eq.trans q188.out.2.2.2.2 (by omega)))).out, (Hid.upn hw203 (Or.inl (by decide)) (show Hid (w186 275 79 = v1 275 79) from Hid.mk (Eq.trans (q188.out.fld (by decide)) u164.out))).out, (Hid.upn hw203 (Or.inl (by decide)) (show Hid (w186 275 80 = v1 275 80) from Hid.mk (Eq.trans (q188.out.fld (by decide)) u165.out))).out, (Hid.upn hw203 (Or.inl (by decide)) (show Hid (w186 275 81 = w 275 81) from Hid.mk (Eq.trans (q188.out.fld (by decide)) u166.out))).out, (Hid.upn hw203 (Or.inl (by decide)) (show Hid (w186 275 82 = w 275 82) from Hid.mk (Eq.trans (q188.out.fld (by decide)) u167.out))).out, (Hid.upn hw203 (Or.inl (by decide)) (show Hid (w186 275 83 = w161 275 83) from Hid.mk (q188.out.fld (by decide)))).out, (Hid.upn hw203 (Or.inl (by decide)) (show Hid (w186 275 86 = w161 275 86) from Hid.mk (q188.out.fld (by decide)))).out, u215.out, (Hid.upn hw203 (Or.inl (by decide)) (show Hid (w186 275 94 = w161 275 94) from Hid.mk (q188.out.fld (by decide)))).out]; omega), (Hid.mk (fun z => by rw [u215.out] at z; exact absurd z (by omega))), (by rw [(Hid.upn hw203 (Or.inl (by decide)) (show Hid (w186 275 86 = w161 275 86) from Hid.mk (q188.out.fld (by decide)))).out, u215.out] <;> omega)⟩ ((by rw [(Hid.upn hw203 (Or.inl (by decide)) (show Hid (w186 275 86 = w161 275 86) from Hid.mk (q188.out.fld (by decide)))).out, u215.out] <;> omega)))
                      exact ⟨rfl, trivial⟩
                    · refine e_Ok.nrm (q := 58) (st' := []) rfl rfl ?_
                      replace q1633 := q1633 (by omega)
                      replace q1639 := q1639 (by omega)
                      have p218 := tkS.pos q163c.2.2.2.1 (by omega)
                      have c227 := cSt.tk q163c q184 q184s
                      have t228 := tkS.lin c227.2.2.2.1
                      have f229 : e_fr (mStm (w 275 78) (w 275 79) (w 275 80) (w 275 94)) w w182 := e_fr.trans f170 (e_fr.mono q184 (fun c k g => mTq_St g))
                      refine e_Ok.ps1 (x := (1, 275)) (q := 59) 1 rfl ?_
                      refine e_Ok.getr (z := 344) rfl (el_o rfl) rfl (ef_o rfl) ((f229 275 93 (by first | exact no_be_0 | (unfold mStm; omega))).trans (e_Has.eq hc.1 rfl)) ⟨by decide, by decide⟩ ?_
                      refine e_Ok.ps4 (x := (0, 0)) (y := (0, 31)) (z := (1, 275)) (u := (0, v1 275 94)) (q := 67) 4 rfl ?_
                      refine e_Ok.callV rfl (Nat.le_trans (by decide) hdq) rfl rfl rfl rfl (c_336 c227.1 (n := w161 275 78) (show Hid (w182 275 78 = w161 275 78) from Hid.mk (q184 275 78 (mTq_fld (by decide)))).out (by omega) (s := w 275 81) (show Hid (w182 275 81 = w 275 81) from Hid.mk (Eq.trans (q184 275 81 (mTq_fld (by decide))) u166.out)).out (by omega)) (fun r235 w236 h237 => ?_)
                      obtain ⟨rfl, q238⟩ := h237
                      replace q238 := (show Hid (EM w182 w236 (w161 275 78) 31 (0) (w 275 81)) from q238)
                      refine e_Ok.nrm (q := 70) (st' := [(0, w161 275 78), (0, v1 275 94), (1, 344)]) rfl rfl ?_
                      refine e_Ok.ast rfl (el_o rfl) rfl rfl (by omega) ?_
                      generalize hw257 : e_up w236 344 (v1 275 94) (w161 275 78) = w257
                      have u269 : Hid (w257 275 88 = w161 275 88) := Hid.upn hw257 (Or.inl (by decide)) (show Hid (w236 275 88 = w161 275 88) from Hid.mk (Eq.trans (q238.out.fld (by decide)) (show Hid (w182 275 88 = w161 275 88) from Hid.mk (q184 275 88 (mTq_fld (by decide)))).out))
                      refine e_Ok.ps0 (q := 0) 1 rfl ?_
                      refine e_Ok.sub eAlk (e_sub_of rfl ?_) (ih2  w257 ⟨(show e_fr (mStm (w 275 78) (w 275 79) (w 275 80) (w 275 94)) w w257 from e_fr.up (show e_fr (mStm (w 275 78) (w 275 79) (w 275 80) (w 275 94)) w w236 from e_fr.trans f229 (q238.out.st (by omega))) hw257 (by unfold mStm; omega)), (cSt.wr (cSt.em c227 q238.out (by decide) (by omega) (by omega)) hw257 (Or.inr rfl) (by omega) rfl (fun y => absurd y (by decide))), (by unfold stL; rw [(Hid.upn hw257 (Or.inl (by decide)) (show Hid (w236 275 78 = w161 275 78 + 1) from Hid.mk (Eq.trans q238.out.2.2.2.2 (by omega)))).out, (Hid.upn hw257 (Or.inl (by decide)) (show Hid (w236 275 79 = v1 275 79) from Hid.mk (Eq.trans (q238.out.fld (by decide)) (show Hid (w182 275 79 = v1 275 79) from Hid.mk (Eq.trans (q184 275 79 (mTq_fld (by decide))) u164.out)).out))).out, (Hid.upn hw257 (Or.inl (by decide)) (show Hid (w236 275 80 = v1 275 80) from Hid.mk (Eq.trans (q238.out.fld (by decide)) (show Hid (w182 275 80 = v1 275 80) from Hid.mk (Eq.trans (q184 275 80 (mTq_fld (by decide))) u165.out)).out))).out, (Hid.upn hw257 (Or.inl (by decide)) (show Hid (w236 275 81 = w 275 81) from Hid.mk (Eq.trans (q238.out.fld (by decide)) (show Hid (w182 275 81 = w 275 81) from Hid.mk (Eq.trans (q184 275 81 (mTq_fld (by decide))) u166.out)).out))).out, (Hid.upn hw257 (Or.inl (by decide)) (show Hid (w236 275 82 = w 275 82) from Hid.mk (Eq.trans (q238.out.fld (by decide)) (show Hid (w182 275 82 = w 275 82) from Hid.mk (Eq.trans (q184 275 82 (mTq_fld (by decide))) u167.out)).out))).out, (Hid.upn hw257 (Or.inl (by decide)) (show Hid (w236 275 83 = w161 275 83) from Hid.mk (Eq.trans (q238.out.fld (by decide)) (show Hid (w182 275 83 = w161 275 83) from Hid.mk (q184 275 83 (mTq_fld (by decide)))).out))).out, (Hid.upn hw257 (Or.inl (by decide)) (show Hid (w236 275 86 = w182 275 86) from Hid.mk (q238.out.fld (by decide)))).out, u269.out, (Hid.upn hw257 (Or.inl (by decide)) (show Hid (w236 275 94 = w161 275 94) from Hid.mk (Eq.trans (q238.out.fld (by decide)) (show Hid (w182 275 94 = w161 275 94) from Hid.mk (q184 275 94 (mTq_fld (by decide)))).out))).out]; omega), (Hid.mk (fun z => by rw [u269.out] at z; rw [(Hid.upn hw257 (Or.inl (by decide)) (show Hid (w236 275 78 = w161 275 78 + 1) from Hid.mk (Eq.trans q238.out.2.2.2.2 (by omega)))).out, (Hid.upn hw257 (Or.inl (by decide)) (show Hid (w236 275 94 = w161 275 94) from Hid.mk (Eq.trans (q238.out.fld (by decide)) (show Hid (w182 275 94 = w161 275 94) from Hid.mk (q184 275 94 (mTq_fld (by decide)))).out))).out, (Hid.upn hw257 (Or.inl (by decide)) (show Hid (w236 275 79 = v1 275 79) from Hid.mk (Eq.trans (q238.out.fld (by decide)) (show Hid (w182 275 79 = v1 275 79) from Hid.mk (Eq.trans (q184 275 79 (mTq_fld (by decide))) u164.out)).out))).out, (Hid.upn hw257 (Or.inl (by decide)) (show Hid (w236 275 80 = v1 275 80) from Hid.mk (Eq.trans (q238.out.fld (by decide)) (show Hid (w182 275 80 = v1 275 80) from Hid.mk (Eq.trans (q184 275 80 (mTq_fld (by decide))) u165.out)).out))).out, (Hid.upn hw257 (Or.inl (by decide)) (show Hid (w236 275 81 = w 275 81) from Hid.mk (Eq.trans (q238.out.fld (by decide)) (show Hid (w182 275 81 = w 275 81) from Hid.mk (Eq.trans (q184 275 81 (mTq_fld (by decide))) u166.out)).out))).out]; exact ((show Hid (w161 275 88 = 0 → GB w257 N (w161 275 78 + 1) (w161 275 94) (v1 275 79) (v1 275 80) P (w 275 81) OW O) from Hid.mk (fun z => (GS.store (GS.re ((show Hid (w161 275 88 = 0 → GS w182 N (w161 275 78) (w161 275 94) (v1 275 79) (v1 275 80) (fun p => P p ∨ p = -2 - 2 * (v1 275 94)) (w 275 81) OW O (0 + 1)) from Hid.mk (fun z => GS.pr ((show Hid (w161 275 88 = 0 → GS w161 N (w161 275 78) (w161 275 94) (v1 275 79) (v1 275 80) (fun p => P p ∨ p = -2 - 2 * (v1 275 94)) (w 275 81) OW O (0 + 1)) from Hid.mk (fun z => (q163x.out z).1)).out z) (prE.tk q184))).out (by omega)) rfl rfl rfl rfl rfl (show _ = 1 from by omega)) q238.out hw257 (by omega) (show Hid (w182 341 (v1 275 94) = 2) from Hid.mk (Eq.trans (q184 341 (v1 275 94) (mTq_not (by decide))) (show Hid (w161 341 (v1 275 94) = 2) from Hid.mk (Eq.trans (q163F 341 (v1 275 94) (mEx_nm (by decide) (by omega))) (show Hid (w140 341 (v1 275 94) = 2) from Hid.mk (Eq.trans (q142 341 (v1 275 94) (mTq_not (by decide))) (show Hid (w88 341 (v1 275 94) = 2) from Hid.mk (Eq.trans (q90 341 (v1 275 94) (mTq_not (by decide))) (show Hid (w91 341 (v1 275 94) = 2) from Hid.mk (q90v1.out)).out)).out)).out)).out)).out (show Hid (w182 344 (v1 275 94) = 0) from Hid.mk (Eq.trans (q184 344 (v1 275 94) (mTq_not (by decide))) (show Hid (w161 344 (v1 275 94) = 0) from Hid.mk (Eq.trans (q163F 344 (v1 275 94) (mEx_nm (by decide) (by omega))) (show Hid (w140 344 (v1 275 94) = 0) from Hid.mk (Eq.trans (q142 344 (v1 275 94) (mTq_not (by decide))) (show Hid (w88 344 (v1 275 94) = 0) from Hid.mk (Eq.trans (q90 344 (v1 275 94) (mTq_not (by decide))) (show Hid (w91 344 (v1 275 94) = 0) from Hid.mk (q90v4.out)).out)).out)).out)).out)).out))).out (by omega)))), (by rw [(Hid.upn hw257 (Or.inl (by decide)) (show Hid (w236 275 86 = w182 275 86) from Hid.mk (q238.out.fld (by decide)))).out, u269.out] <;> omega)⟩ ((by rw [(Hid.upn hw257 (Or.inl (by decide)) (show Hid (w236 275 86 = w182 275 86) from Hid.mk (q238.out.fld (by decide)))).out, u269.out] <;> omega)))
                      exact ⟨rfl, trivial⟩
                    · exact absurd q184b (by decide)
                  · refine e_Ok.nrm (q := 55) (st' := [(0, 0), (1, 275)]) rfl rfl ?_
                    clear q180n
                    refine e_Ok.callV rfl (Nat.le_trans (by decide) hdq) rfl rfl rfl rfl (c_334 (Nat.le_trans (by decide) hdq) q163c.1 q163c.2.1 q163c.2.2.1 hNr q163c.2.2.2.1 (by decide)) (fun r273 w274 h275 => ?_)
                    obtain ⟨rfl, q276⟩ := h275
                    obtain ⟨rfl, q276z⟩ | ⟨q276z, q276b, q276, q276s, q276t⟩ | ⟨q276z, q276b, q276, q276T, q276H, q276r⟩ := q276
                    · refine e_Ok.nrm (q := 58) (st' := []) rfl rfl ?_
                      clear q1633
                      clear q1639
                      refine e_Ok.ps1 (x := (1, 275)) (q := 59) 1 rfl ?_
                      refine e_Ok.getr (z := 344) rfl (el_o rfl) rfl (ef_o rfl) ((f170 275 93 (by first | exact no_be_0 | (unfold mStm; omega))).trans (e_Has.eq hc.1 rfl)) ⟨by decide, by decide⟩ ?_
                      refine e_Ok.ps4 (x := (0, 0)) (y := (0, 31)) (z := (1, 275)) (u := (0, v1 275 94)) (q := 67) 4 rfl ?_
                      refine e_Ok.callV rfl (Nat.le_trans (by decide) hdq) rfl rfl rfl rfl (c_336 q163c.1 (n := w161 275 78) rfl (by omega) (s := w 275 81) u166.out (by omega)) (fun r277 w278 h279 => ?_)
                      obtain ⟨rfl, q280⟩ := h279
                      replace q280 := (show Hid (EM w161 w278 (w161 275 78) 31 (0) (w 275 81)) from q280)
                      refine e_Ok.nrm (q := 70) (st' := [(0, w161 275 78), (0, v1 275 94), (1, 344)]) rfl rfl ?_
                      refine e_Ok.ast rfl (el_o rfl) rfl rfl (by omega) ?_
                      generalize hw295 : e_up w278 344 (v1 275 94) (w161 275 78) = w295
                      have u307 : Hid (w295 275 88 = w161 275 88) := Hid.upn hw295 (Or.inl (by decide)) (show Hid (w278 275 88 = w161 275 88) from Hid.mk (q280.out.fld (by decide)))
                      refine e_Ok.ps0 (q := 0) 1 rfl ?_
                      refine e_Ok.sub eAlk (e_sub_of rfl ?_) (ih2  w295 ⟨(show e_fr (mStm (w 275 78) (w 275 79) (w 275 80) (w 275 94)) w w295 from e_fr.up (show e_fr (mStm (w 275 78) (w 275 79) (w 275 80) (w 275 94)) w w278 from e_fr.trans f170 (q280.out.st (by omega))) hw295 (by unfold mStm; omega)), (cSt.wr (cSt.em q163c q280.out (by decide) (by omega) (by omega)) hw295 (Or.inr rfl) (by omega) rfl (fun y => absurd y (by decide))), (by unfold stL; rw [(Hid.upn hw295 (Or.inl (by decide)) (show Hid (w278 275 78 = w161 275 78 + 1) from Hid.mk (Eq.trans q280.out.2.2.2.2 (by omega)))).out, (Hid.upn hw295 (Or.inl (by decide)) (show Hid (w278 275 79 = v1 275 79) from Hid.mk (Eq.trans (q280.out.fld (by decide)) u164.out))).out, (Hid.upn hw295 (Or.inl (by decide)) (show Hid (w278 275 80 = v1 275 80) from Hid.mk (Eq.trans (q280.out.fld (by decide)) u165.out))).out, (Hid.upn hw295 (Or.inl (by decide)) (show Hid (w278 275 81 = w 275 81) from Hid.mk (Eq.trans (q280.out.fld (by decide)) u166.out))).out, (Hid.upn hw295 (Or.inl (by decide)) (show Hid (w278 275 82 = w 275 82) from Hid.mk (Eq.trans (q280.out.fld (by decide)) u167.out))).out, (Hid.upn hw295 (Or.inl (by decide)) (show Hid (w278 275 83 = w161 275 83) from Hid.mk (q280.out.fld (by decide)))).out, (Hid.upn hw295 (Or.inl (by decide)) (show Hid (w278 275 86 = w161 275 86) from Hid.mk (q280.out.fld (by decide)))).out, u307.out, (Hid.upn hw295 (Or.inl (by decide)) (show Hid (w278 275 94 = w161 275 94) from Hid.mk (q280.out.fld (by decide)))).out]; omega), (Hid.mk (fun z => by rw [u307.out] at z; exact absurd z (by omega))), (by rw [(Hid.upn hw295 (Or.inl (by decide)) (show Hid (w278 275 86 = w161 275 86) from Hid.mk (q280.out.fld (by decide)))).out, u307.out] <;> omega)⟩ ((by rw [(Hid.upn hw295 (Or.inl (by decide)) (show Hid (w278 275 86 = w161 275 86) from Hid.mk (q280.out.fld (by decide)))).out, u307.out] <;> omega)))
                      exact ⟨rfl, trivial⟩
                    · exact absurd q276b (by decide)
                    · refine e_Ok.nrm (q := 58) (st' := []) rfl rfl ?_
                      replace q1633 := q1633 (by omega)
                      replace q1639 := q1639 (by omega)
                      have c321 := cSt.rf q163c q276 q276T q276H
                      have f322 : e_fr (mStm (w 275 78) (w 275 79) (w 275 80) (w 275 94)) w w274 := e_fr.trans f170 (e_fr.mono q276 (fun c k g => mRf_St g))
                      refine e_Ok.ps1 (x := (1, 275)) (q := 59) 1 rfl ?_
                      refine e_Ok.getr (z := 344) rfl (el_o rfl) rfl (ef_o rfl) ((f322 275 93 (by first | exact no_be_0 | (unfold mStm; omega))).trans (e_Has.eq hc.1 rfl)) ⟨by decide, by decide⟩ ?_
                      refine e_Ok.ps4 (x := (0, 0)) (y := (0, 31)) (z := (1, 275)) (u := (0, v1 275 94)) (q := 67) 4 rfl ?_
                      refine e_Ok.callV rfl (Nat.le_trans (by decide) hdq) rfl rfl rfl rfl (c_336 c321.1 (n := w161 275 78) (show Hid (w274 275 78 = w161 275 78) from Hid.mk (q276 275 78 (mRf_fld (by decide)))).out (by omega) (s := w 275 81) (show Hid (w274 275 81 = w 275 81) from Hid.mk (Eq.trans (q276 275 81 (mRf_fld (by decide))) u166.out)).out (by omega)) (fun r323 w324 h325 => ?_)
                      obtain ⟨rfl, q326⟩ := h325
                      replace q326 := (show Hid (EM w274 w324 (w161 275 78) 31 (0) (w 275 81)) from q326)
                      refine e_Ok.nrm (q := 70) (st' := [(0, w161 275 78), (0, v1 275 94), (1, 344)]) rfl rfl ?_
                      refine e_Ok.ast rfl (el_o rfl) rfl rfl (by omega) ?_
                      generalize hw344 : e_up w324 344 (v1 275 94) (w161 275 78) = w344
                      have u356 : Hid (w344 275 88 = w274 275 88) := Hid.upn hw344 (Or.inl (by decide)) (show Hid (w324 275 88 = w274 275 88) from Hid.mk (q326.out.fld (by decide)))
                      refine e_Ok.ps0 (q := 0) 1 rfl ?_
                      refine e_Ok.sub eAlk (e_sub_of rfl ?_) (ih2  w344 ⟨(show e_fr (mStm (w 275 78) (w 275 79) (w 275 80) (w 275 94)) w w344 from e_fr.up (show e_fr (mStm (w 275 78) (w 275 79) (w 275 80) (w 275 94)) w w324 from e_fr.trans f322 (q326.out.st (by omega))) hw344 (by unfold mStm; omega)), (cSt.wr (cSt.em c321 q326.out (by decide) (by omega) (by omega)) hw344 (Or.inr rfl) (by omega) rfl (fun y => absurd y (by decide))), (by unfold stL; rw [(Hid.upn hw344 (Or.inl (by decide)) (show Hid (w324 275 78 = w161 275 78 + 1) from Hid.mk (Eq.trans q326.out.2.2.2.2 (by omega)))).out, (Hid.upn hw344 (Or.inl (by decide)) (show Hid (w324 275 79 = v1 275 79) from Hid.mk (Eq.trans (q326.out.fld (by decide)) (show Hid (w274 275 79 = v1 275 79) from Hid.mk (Eq.trans (q276 275 79 (mRf_fld (by decide))) u164.out)).out))).out, (Hid.upn hw344 (Or.inl (by decide)) (show Hid (w324 275 80 = v1 275 80) from Hid.mk (Eq.trans (q326.out.fld (by decide)) (show Hid (w274 275 80 = v1 275 80) from Hid.mk (Eq.trans (q276 275 80 (mRf_fld (by decide))) u165.out)).out))).out, (Hid.upn hw344 (Or.inl (by decide)) (show Hid (w324 275 81 = w 275 81) from Hid.mk (Eq.trans (q326.out.fld (by decide)) (show Hid (w274 275 81 = w 275 81) from Hid.mk (Eq.trans (q276 275 81 (mRf_fld (by decide))) u166.out)).out))).out, (Hid.upn hw344 (Or.inl (by decide)) (show Hid (w324 275 82 = w 275 82) from Hid.mk (Eq.trans (q326.out.fld (by decide)) (show Hid (w274 275 82 = w 275 82) from Hid.mk (Eq.trans (q276 275 82 (mRf_fld (by decide))) u167.out)).out))).out, (Hid.upn hw344 (Or.inl (by decide)) (show Hid (w324 275 83 = w161 275 83) from Hid.mk (Eq.trans (q326.out.fld (by decide)) (show Hid (w274 275 83 = w161 275 83) from Hid.mk (q276 275 83 (mRf_fld (by decide)))).out))).out, (Hid.upn hw344 (Or.inl (by decide)) (show Hid (w324 275 86 = w161 275 86) from Hid.mk (Eq.trans (q326.out.fld (by decide)) (show Hid (w274 275 86 = w161 275 86) from Hid.mk (q276 275 86 (mRf_fld (by decide)))).out))).out, u356.out, (Hid.upn hw344 (Or.inl (by decide)) (show Hid (w324 275 94 = w161 275 94) from Hid.mk (Eq.trans (q326.out.fld (by decide)) (show Hid (w274 275 94 = w161 275 94) from Hid.mk (q276 275 94 (mRf_fld (by decide)))).out))).out]; omega), (Hid.mk (fun z => by rw [u356.out] at z; exact absurd z (by omega))), (by rw [(Hid.upn hw344 (Or.inl (by decide)) (show Hid (w324 275 86 = w161 275 86) from Hid.mk (Eq.trans (q326.out.fld (by decide)) (show Hid (w274 275 86 = w161 275 86) from Hid.mk (q276 275 86 (mRf_fld (by decide)))).out))).out, u356.out] <;> omega)⟩ ((by rw [(Hid.upn hw344 (Or.inl (by decide)) (show Hid (w324 275 86 = w161 275 86) from Hid.mk (Eq.trans (q326.out.fld (by decide)) (show Hid (w274 275 86 = w161 275 86) from Hid.mk (q276 275 86 (mRf_fld (by decide)))).out))).out, u356.out] <;> omega)))
                      exact ⟨rfl, trivial⟩
                · exact absurd q142b (by decide)
              · refine e_Ok.nrm (q := 41) (st' := [(0, 0), (1, 275)]) rfl rfl ?_
                clear q138n
                refine e_Ok.callV rfl (Nat.le_trans (by decide) hdq) rfl rfl rfl rfl (c_334 (Nat.le_trans (by decide) hdq) c126.1 c126.2.1 c126.2.2.1 hNr c126.2.2.2.1 (by decide)) (fun r359 w360 h361 => ?_)
                obtain ⟨rfl, q362⟩ := h361
                obtain ⟨rfl, q362z⟩ | ⟨q362z, q362b, q362, q362s, q362t⟩ | ⟨q362z, q362b, q362, q362T, q362H, q362r⟩ := q362
                · rw [u124.out] at q362z; exact absurd q362z (by omega)
                · exact absurd q362b (by decide)
                · refine e_Ok.nrm (q := 44) (st' := []) rfl rfl ?_
                  rw [u124.out] at q362z
                  have u366 : Hid (w360 275 81 = w 275 81) := Hid.mk (Eq.trans (q362 275 81 (mRf_fld (by decide))) (show Hid (w88 275 81 = w 275 81) from Hid.mk (Eq.trans (q90 275 81 (mTq_fld (by decide))) (show Hid (w91 275 81 = w 275 81) from Hid.mk (Eq.trans (q90F 275 81 (mNm_fld (by decide))) (show Hid (w67 275 81 = w 275 81) from Hid.mk (Eq.trans (q69.out.fld (by decide)) u8.out)).out)).out)).out)
                  have c374 := cSt.rf c126 q362 q362T q362H
                  have f375 : e_fr (mStm (w 275 78) (w 275 79) (w 275 80) (w 275 94)) w w360 := e_fr.trans f128 (e_fr.mono q362 (fun c k g => mRf_St g))
                  refine e_Ok.run (t' := (45, [(1, (0, v1 275 94)), (0, (1, 275))], [(1, 275)], w360)) 1 rfl ?_
                  refine e_Ok.callV rfl (Nat.le_trans (by decide) hdq) rfl rfl rfl rfl (c_339_0 (Nat.le_trans (by decide) hdq) c374 (by omega)) (fun r376 w377 h378 => ?_)
                  obtain ⟨rfl, rfl⟩ := h378
                  refine e_Ok.nrm (q := 48) (st' := []) rfl rfl ?_
                  refine e_Ok.ps3 (x := (0, 59)) (y := (1, 275)) (z := (1, 275)) (q := 52) 3 rfl ?_
                  refine e_Ok.callV rfl (Nat.le_trans (by decide) hdq) rfl rfl rfl rfl (c_331 c374.1 (N := N) c374.2.2.2.1) (fun r379 w380 h381 => ?_)
                  obtain ⟨z382, rfl, rfl, q383⟩ := h381
                  obtain ⟨rfl, q383, q383b⟩ | ⟨rfl, q383n⟩ := q383
                  · refine e_Ok.nrm (q := 55) (st' := [(0, 1), (1, 275)]) rfl rfl ?_
                    rw [(show Hid (w360 275 84 = w88 275 84) from Hid.mk (q362 275 84 (mRf_fld (by decide)))).out] at q383
                    rw [(show Hid (w360 275 85 = w88 275 85) from Hid.mk (q362 275 85 (mRf_fld (by decide)))).out] at q383b
                    refine e_Ok.callV rfl (Nat.le_trans (by decide) hdq) rfl rfl rfl rfl (c_334 (Nat.le_trans (by decide) hdq) c374.1 c374.2.1 c374.2.2.1 hNr c374.2.2.2.1 (by decide)) (fun r384 w385 h386 => ?_)
                    obtain ⟨rfl, q387⟩ := h386
                    obtain ⟨rfl, q387z⟩ | ⟨q387z, q387b, q387, q387s, q387t⟩ | ⟨q387z, q387b, q387, q387T, q387H, q387r⟩ := q387
                    · show e_Ok 20 elay ecode eI (d + 1) 348 (58, [(1, (0, v1 275 94)), (0, (1, 275))], [], w360) _
                      refine e_Ok.ps1 (x := (1, 275)) (q := 59) 1 rfl ?_
                      refine e_Ok.getr (z := 344) rfl (el_o rfl) rfl (ef_o rfl) ((f375 275 93 (by first | exact no_be_0 | (unfold mStm; omega))).trans (e_Has.eq hc.1 rfl)) ⟨by decide, by decide⟩ ?_
                      refine e_Ok.ps4 (x := (0, 0)) (y := (0, 31)) (z := (1, 275)) (u := (0, v1 275 94)) (q := 67) 4 rfl ?_
                      refine e_Ok.callV rfl (Nat.le_trans (by decide) hdq) rfl rfl rfl rfl (c_336 c374.1 (n := v1 275 78 + 1) (show Hid (w360 275 78 = v1 275 78 + 1) from Hid.mk (Eq.trans (q362 275 78 (mRf_fld (by decide))) (show Hid (w88 275 78 = v1 275 78 + 1) from Hid.mk (Eq.trans (q90 275 78 (mTq_fld (by decide))) (show Hid (w91 275 78 = v1 275 78 + 1) from Hid.mk (Eq.trans (q90F 275 78 (mNm_fld (by decide))) (show Hid (w67 275 78 = v1 275 78 + 1) from Hid.mk (Eq.trans q69.out.2.2.2.2 (by omega))).out)).out)).out)).out (by omega) (s := w 275 81) u366.out (by omega)) (fun r388 w389 h390 => ?_)
                      obtain ⟨rfl, q391⟩ := h390
                      replace q391 := (show Hid (EM w360 w389 (v1 275 78 + 1) 31 (0) (w 275 81)) from q391)
                      refine e_Ok.nrm (q := 70) (st' := [(0, v1 275 78 + 1), (0, v1 275 94), (1, 344)]) rfl rfl ?_
                      refine e_Ok.ast rfl (el_o rfl) rfl rfl (by omega) ?_
                      generalize hw406 : e_up w389 344 (v1 275 94) (v1 275 78 + 1) = w406
                      have u419 : Hid (w406 275 88 = w360 275 88) := Hid.upn hw406 (Or.inl (by decide)) (show Hid (w389 275 88 = w360 275 88) from Hid.mk (q391.out.fld (by decide)))
                      refine e_Ok.ps0 (q := 0) 1 rfl ?_
                      refine e_Ok.sub eAlk (e_sub_of rfl ?_) (ih2  w406 ⟨(show e_fr (mStm (w 275 78) (w 275 79) (w 275 80) (w 275 94)) w w406 from e_fr.up (show e_fr (mStm (w 275 78) (w 275 79) (w 275 80) (w 275 94)) w w389 from e_fr.trans f375 (q391.out.st (by omega))) hw406 (by unfold mStm; omega)), (cSt.wr (cSt.em c374 q391.out (by decide) (by omega) (by omega)) hw406 (Or.inr rfl) (by omega) rfl (fun y => absurd y (by decide))), (by unfold stL; rw [(Hid.upn hw406 (Or.inl (by decide)) (show Hid (w389 275 78 = v1 275 78 + 2) from Hid.mk (Eq.trans q391.out.2.2.2.2 (by omega)))).out, (Hid.upn hw406 (Or.inl (by decide)) (show Hid (w389 275 79 = v1 275 79) from Hid.mk (Eq.trans (q391.out.fld (by decide)) (show Hid (w360 275 79 = v1 275 79) from Hid.mk (Eq.trans (q362 275 79 (mRf_fld (by decide))) (show Hid (w88 275 79 = v1 275 79) from Hid.mk (Eq.trans (q90 275 79 (mTq_fld (by decide))) (show Hid (w91 275 79 = v1 275 79) from Hid.mk (Eq.trans (q90F 275 79 (mNm_fld (by decide))) (show Hid (w67 275 79 = v1 275 79) from Hid.mk (q69.out.fld (by decide))).out)).out)).out)).out))).out, (Hid.upn hw406 (Or.inl (by decide)) (show Hid (w389 275 80 = v1 275 80) from Hid.mk (Eq.trans (q391.out.fld (by decide)) (show Hid (w360 275 80 = v1 275 80) from Hid.mk (Eq.trans (q362 275 80 (mRf_fld (by decide))) (show Hid (w88 275 80 = v1 275 80) from Hid.mk (Eq.trans (q90 275 80 (mTq_fld (by decide))) (show Hid (w91 275 80 = v1 275 80) from Hid.mk (Eq.trans (q90F 275 80 (mNm_fld (by decide))) (show Hid (w67 275 80 = v1 275 80) from Hid.mk (q69.out.fld (by decide))).out)).out)).out)).out))).out, (Hid.upn hw406 (Or.inl (by decide)) (show Hid (w389 275 81 = w 275 81) from Hid.mk (Eq.trans (q391.out.fld (by decide)) u366.out))).out, (Hid.upn hw406 (Or.inl (by decide)) (show Hid (w389 275 82 = w 275 82) from Hid.mk (Eq.trans (q391.out.fld (by decide)) (show Hid (w360 275 82 = w 275 82) from Hid.mk (Eq.trans (q362 275 82 (mRf_fld (by decide))) (show Hid (w88 275 82 = w 275 82) from Hid.mk (Eq.trans (q90 275 82 (mTq_fld (by decide))) (show Hid (w91 275 82 = w 275 82) from Hid.mk (Eq.trans (q90F 275 82 (mNm_fld (by decide))) (show Hid (w67 275 82 = w 275 82) from Hid.mk (Eq.trans (q69.out.fld (by decide)) u9.out)).out)).out)).out)).out))).out, (Hid.upn hw406 (Or.inl (by decide)) (show Hid (w389 275 83 = v1 275 83) from Hid.mk (Eq.trans (q391.out.fld (by decide)) (show Hid (w360 275 83 = v1 275 83) from Hid.mk (Eq.trans (q362 275 83 (mRf_fld (by decide))) (show Hid (w88 275 83 = v1 275 83) from Hid.mk (Eq.trans (q90 275 83 (mTq_fld (by decide))) (show Hid (w91 275 83 = v1 275 83) from Hid.mk (Eq.trans (q90F 275 83 (mNm_fld (by decide))) (show Hid (w67 275 83 = v1 275 83) from Hid.mk (q69.out.fld (by decide))).out)).out)).out)).out))).out, (Hid.upn hw406 (Or.inl (by decide)) (show Hid (w389 275 86 = w88 275 86) from Hid.mk (Eq.trans (q391.out.fld (by decide)) (show Hid (w360 275 86 = w88 275 86) from Hid.mk (q362 275 86 (mRf_fld (by decide)))).out))).out, u419.out, (Hid.upn hw406 (Or.inl (by decide)) (show Hid (w389 275 94 = v1 275 94 + 1) from Hid.mk (Eq.trans (q391.out.fld (by decide)) (show Hid (w360 275 94 = v1 275 94 + 1) from Hid.mk (Eq.trans (q362 275 94 (mRf_fld (by decide))) (show Hid (w88 275 94 = v1 275 94 + 1) from Hid.mk (Eq.trans (q90 275 94 (mTq_fld (by decide))) (show Hid (w91 275 94 = v1 275 94 + 1) from Hid.mk (Eq.trans q90v5.out (by omega))).out)).out)).out))).out]; omega), (Hid.mk (fun z => by rw [u419.out] at z; exact absurd z (by omega))), (by rw [(Hid.upn hw406 (Or.inl (by decide)) (show Hid (w389 275 86 = w88 275 86) from Hid.mk (Eq.trans (q391.out.fld (by decide)) (show Hid (w360 275 86 = w88 275 86) from Hid.mk (q362 275 86 (mRf_fld (by decide)))).out))).out, u419.out] <;> omega)⟩ ((by rw [(Hid.upn hw406 (Or.inl (by decide)) (show Hid (w389 275 86 = w88 275 86) from Hid.mk (Eq.trans (q391.out.fld (by decide)) (show Hid (w360 275 86 = w88 275 86) from Hid.mk (q362 275 86 (mRf_fld (by decide)))).out))).out, u419.out] <;> omega)))
                      exact ⟨rfl, trivial⟩
                    · exact absurd q387z (by omega)
                    · exact absurd q387z (by omega)
                  · refine e_Ok.nrm (q := 55) (st' := [(0, 0), (1, 275)]) rfl rfl ?_
                    clear q383n
                    refine e_Ok.callV rfl (Nat.le_trans (by decide) hdq) rfl rfl rfl rfl (c_334 (Nat.le_trans (by decide) hdq) c374.1 c374.2.1 c374.2.2.1 hNr c374.2.2.2.1 (by decide)) (fun r422 w423 h424 => ?_)
                    obtain ⟨rfl, q425⟩ := h424
                    obtain ⟨rfl, q425z⟩ | ⟨q425z, q425b, q425, q425s, q425t⟩ | ⟨q425z, q425b, q425, q425T, q425H, q425r⟩ := q425
                    · refine e_Ok.nrm (q := 58) (st' := []) rfl rfl ?_
                      refine e_Ok.ps1 (x := (1, 275)) (q := 59) 1 rfl ?_
                      refine e_Ok.getr (z := 344) rfl (el_o rfl) rfl (ef_o rfl) ((f375 275 93 (by first | exact no_be_0 | (unfold mStm; omega))).trans (e_Has.eq hc.1 rfl)) ⟨by decide, by decide⟩ ?_
                      refine e_Ok.ps4 (x := (0, 0)) (y := (0, 31)) (z := (1, 275)) (u := (0, v1 275 94)) (q := 67) 4 rfl ?_
                      refine e_Ok.callV rfl (Nat.le_trans (by decide) hdq) rfl rfl rfl rfl (c_336 c374.1 (n := v1 275 78 + 1) (show Hid (w360 275 78 = v1 275 78 + 1) from Hid.mk (Eq.trans (q362 275 78 (mRf_fld (by decide))) (show Hid (w88 275 78 = v1 275 78 + 1) from Hid.mk (Eq.trans (q90 275 78 (mTq_fld (by decide))) (show Hid (w91 275 78 = v1 275 78 + 1) from Hid.mk (Eq.trans (q90F 275 78 (mNm_fld (by decide))) (show Hid (w67 275 78 = v1 275 78 + 1) from Hid.mk (Eq.trans q69.out.2.2.2.2 (by omega))).out)).out)).out)).out (by omega) (s := w 275 81) u366.out (by omega)) (fun r426 w427 h428 => ?_)
                      obtain ⟨rfl, q429⟩ := h428
                      replace q429 := (show Hid (EM w360 w427 (v1 275 78 + 1) 31 (0) (w 275 81)) from q429)
                      refine e_Ok.nrm (q := 70) (st' := [(0, v1 275 78 + 1), (0, v1 275 94), (1, 344)]) rfl rfl ?_
                      refine e_Ok.ast rfl (el_o rfl) rfl rfl (by omega) ?_
                      generalize hw444 : e_up w427 344 (v1 275 94) (v1 275 78 + 1) = w444
                      have u456 : Hid (w444 275 88 = w360 275 88) := Hid.upn hw444 (Or.inl (by decide)) (show Hid (w427 275 88 = w360 275 88) from Hid.mk (q429.out.fld (by decide)))
                      refine e_Ok.ps0 (q := 0) 1 rfl ?_
                      refine e_Ok.sub eAlk (e_sub_of rfl ?_) (ih2  w444 ⟨(show e_fr (mStm (w 275 78) (w 275 79) (w 275 80) (w 275 94)) w w444 from e_fr.up (show e_fr (mStm (w 275 78) (w 275 79) (w 275 80) (w 275 94)) w w427 from e_fr.trans f375 (q429.out.st (by omega))) hw444 (by unfold mStm; omega)), (cSt.wr (cSt.em c374 q429.out (by decide) (by omega) (by omega)) hw444 (Or.inr rfl) (by omega) rfl (fun y => absurd y (by decide))), (by unfold stL; rw [(Hid.upn hw444 (Or.inl (by decide)) (show Hid (w427 275 78 = v1 275 78 + 2) from Hid.mk (Eq.trans q429.out.2.2.2.2 (by omega)))).out, (Hid.upn hw444 (Or.inl (by decide)) (show Hid (w427 275 79 = v1 275 79) from Hid.mk (Eq.trans (q429.out.fld (by decide)) (show Hid (w360 275 79 = v1 275 79) from Hid.mk (Eq.trans (q362 275 79 (mRf_fld (by decide))) (show Hid (w88 275 79 = v1 275 79) from Hid.mk (Eq.trans (q90 275 79 (mTq_fld (by decide))) (show Hid (w91 275 79 = v1 275 79) from Hid.mk (Eq.trans (q90F 275 79 (mNm_fld (by decide))) (show Hid (w67 275 79 = v1 275 79) from Hid.mk (q69.out.fld (by decide))).out)).out)).out)).out))).out, (Hid.upn hw444 (Or.inl (by decide)) (show Hid (w427 275 80 = v1 275 80) from Hid.mk (Eq.trans (q429.out.fld (by decide)) (show Hid (w360 275 80 = v1 275 80) from Hid.mk (Eq.trans (q362 275 80 (mRf_fld (by decide))) (show Hid (w88 275 80 = v1 275 80) from Hid.mk (Eq.trans (q90 275 80 (mTq_fld (by decide))) (show Hid (w91 275 80 = v1 275 80) from Hid.mk (Eq.trans (q90F 275 80 (mNm_fld (by decide))) (show Hid (w67 275 80 = v1 275 80) from Hid.mk (q69.out.fld (by decide))).out)).out)).out)).out))).out, (Hid.upn hw444 (Or.inl (by decide)) (show Hid (w427 275 81 = w 275 81) from Hid.mk (Eq.trans (q429.out.fld (by decide)) u366.out))).out, (Hid.upn hw444 (Or.inl (by decide)) (show Hid (w427 275 82 = w 275 82) from Hid.mk (Eq.trans (q429.out.fld (by decide)) (show Hid (w360 275 82 = w 275 82) from Hid.mk (Eq.trans (q362 275 82 (mRf_fld (by decide))) (show Hid (w88 275 82 = w 275 82) from Hid.mk (Eq.trans (q90 275 82 (mTq_fld (by decide))) (show Hid (w91 275 82 = w 275 82) from Hid.mk (Eq.trans (q90F 275 82 (mNm_fld (by decide))) (show Hid (w67 275 82 = w 275 82) from Hid.mk (Eq.trans (q69.out.fld (by decide)) u9.out)).out)).out)).out)).out))).out, (Hid.upn hw444 (Or.inl (by decide)) (show Hid (w427 275 83 = v1 275 83) from Hid.mk (Eq.trans (q429.out.fld (by decide)) (show Hid (w360 275 83 = v1 275 83) from Hid.mk (Eq.trans (q362 275 83 (mRf_fld (by decide))) (show Hid (w88 275 83 = v1 275 83) from Hid.mk (Eq.trans (q90 275 83 (mTq_fld (by decide))) (show Hid (w91 275 83 = v1 275 83) from Hid.mk (Eq.trans (q90F 275 83 (mNm_fld (by decide))) (show Hid (w67 275 83 = v1 275 83) from Hid.mk (q69.out.fld (by decide))).out)).out)).out)).out))).out, (Hid.upn hw444 (Or.inl (by decide)) (show Hid (w427 275 86 = w88 275 86) from Hid.mk (Eq.trans (q429.out.fld (by decide)) (show Hid (w360 275 86 = w88 275 86) from Hid.mk (q362 275 86 (mRf_fld (by decide)))).out))).out, u456.out, (Hid.upn hw444 (Or.inl (by decide)) (show Hid (w427 275 94 = v1 275 94 + 1) from Hid.mk (Eq.trans (q429.out.fld (by decide)) (show Hid (w360 275 94 = v1 275 94 + 1) from Hid.mk (Eq.trans (q362 275 94 (mRf_fld (by decide))) (show Hid (w88 275 94 = v1 275 94 + 1) from Hid.mk (Eq.trans (q90 275 94 (mTq_fld (by decide))) (show Hid (w91 275 94 = v1 275 94 + 1) from Hid.mk (Eq.trans q90v5.out (by omega))).out)).out)).out))).out]; omega), (Hid.mk (fun z => by rw [u456.out] at z; exact absurd z (by omega))), (by rw [(Hid.upn hw444 (Or.inl (by decide)) (show Hid (w427 275 86 = w88 275 86) from Hid.mk (Eq.trans (q429.out.fld (by decide)) (show Hid (w360 275 86 = w88 275 86) from Hid.mk (q362 275 86 (mRf_fld (by decide)))).out))).out, u456.out] <;> omega)⟩ ((by rw [(Hid.upn hw444 (Or.inl (by decide)) (show Hid (w427 275 86 = w88 275 86) from Hid.mk (Eq.trans (q429.out.fld (by decide)) (show Hid (w360 275 86 = w88 275 86) from Hid.mk (q362 275 86 (mRf_fld (by decide)))).out))).out, u456.out] <;> omega)))
                      exact ⟨rfl, trivial⟩
                    · exact absurd q425z (by omega)
                    · exact absurd q425z (by omega)
      · refine e_Ok.nrm (q := 4) (st' := [(0, 0)]) rfl rfl ?_
        refine e_Ok.if1 rfl (fun h459 => ?_) (fun h459 => ?_)
        · replace h459 : (0 : Int) = 0 := h459
          refine e_Ok.rets rfl rfl ?_
          exact ⟨rfl, j3, j4, (by unfold stL; rw [u8.out, u9.out]; omega), (fun z => by rw [u8.out]; exact (g10.out (by omega)))⟩
        · replace h459 : (0 : Int) ≠ 0 := (show ¬ ((0 : Int) = 0) from h459)
          exfalso; omega
  refine e_Ok.sub eAlk (e_sub_of rfl ?_) (hL1 (32010 + 1 : Int).toNat  w ⟨(e_fr.refl w), hc, (by unfold stL; omega), hgH, (by omega)⟩ (by omega))
  exact ⟨rfl, trivial⟩
end
end
-- part bf
section
noncomputable section
/-! statements within statements: by how many may still come -/
theorem stC.mono {M d : Nat} {z o F F' : Int} (h : stC M z o F d) (hF : F ≤ F') : stC M z o F' d := fun w N O P OW h1 h2 h3 h4 h5 h6 h7 h8 => (h w N O P OW h1 h2 h3 h4 h5 h6 h7 h8).imp (fun r w' q => ⟨q.1, q.2.1, q.2.2.1, by have := q.2.2.2.1; unfold stL at this ⊢; omega, q.2.2.2.2⟩)
theorem sx350 {d : Nat} {o F : Int} (hd : 309 ≤ d) (hor : 0 ≤ o ∧ o ≤ 30) (hF : 300 ≤ F ∧ F ≤ 700) (hS : o < 30 → ∀ k, d = k + 1 → stC 348 0 (o + 1) F k) : stC 350 1 o (F + 10) d := fun _ _ _ _ _ h1 h2 h3 h4 h5 h6 h7 h8 => c_350 hd h1 h2 h3 h4 h5 h6 h7 h8 hor hF hS
theorem sx351 {d : Nat} {o F : Int} (hd : 309 ≤ d) (hor : 0 ≤ o ∧ o ≤ 30) (hF : 300 ≤ F ∧ F ≤ 700) (hS : o < 30 → ∀ k, d = k + 1 → stC 348 0 (o + 1) F k) : stC 351 1 o (F + 10) d := fun _ _ _ _ _ h1 h2 h3 h4 h5 h6 h7 h8 => c_351 hd h1 h2 h3 h4 h5 h6 h7 h8 hor hF hS
theorem sx352 {d : Nat} {o F : Int} (hd : 309 ≤ d) (hor : 0 ≤ o ∧ o ≤ 30) (hF : 300 ≤ F ∧ F ≤ 700) (hS : o < 30 → ∀ k, d = k + 1 → stC 348 0 (o + 1) F k) : stC 352 1 o (F + 10) d := fun _ _ _ _ _ h1 h2 h3 h4 h5 h6 h7 h8 => c_352 hd h1 h2 h3 h4 h5 h6 h7 h8 hor hF hS
theorem sx348 {d : Nat} {o F : Int} (hd : 310 ≤ d) (hor : 0 ≤ o ∧ o ≤ 30) (hF : 300 ≤ F ∧ F ≤ 700) (hS : o < 30 → ∀ j k, d = j + 1 → j = k + 1 → stC 348 0 (o + 1) F k) : stC 348 0 o (F + 10) d := fun _ _ _ _ _ h1 h2 h3 h4 h5 h6 h7 h8 => c_348 hd h1 h2 h3 h4 h5 h6 h7 h8 hor hF (fun j e => sx350 (by omega) hor hF (fun ho k e2 => hS ho j k e e2)) (fun j e => sx351 (by omega) hor hF (fun ho k e2 => hS ho j k e e2)) (fun j e => sx352 (by omega) hor hF (fun ho k e2 => hS ho j k e e2))
theorem st_lv : ∀ (k : Nat), k ≤ 30 → ∀ d, 320 + 2 * k ≤ d → stC 348 0 (30 - (k : Int)) (310 + 10 * (k : Int)) d
  | 0, _, d, hd => by
    have q := sx348 (d := d) (o := 30) (F := 300) (by omega) (by omega) (by omega) (fun h => by omega)
    exact q
  | k + 1, hk, d, hd => by
    have ih := st_lv k (by omega)
    have q := sx348 (d := d) (o := 30 - ((k + 1 : Nat) : Int)) (F := 310 + 10 * (k : Int)) (by omega) (by omega) (by omega) (fun _ j i e1 e2 => by rw [show 30 - ((k + 1 : Nat) : Int) + 1 = 30 - (k : Int) by omega]; exact ih i (by omega))
    rw [show 310 + 10 * ((k + 1 : Nat) : Int) = 310 + 10 * (k : Int) + 10 by omega]
    exact q
/-- statements, at o brackets and parts -/
theorem c_stats {d : Nat} {o : Int} (hd : 390 ≤ d) (hor : 0 ≤ o ∧ o ≤ 30) : stC 348 0 o 620 d := by
  have hk : ((30 - o).toNat : Int) = 30 - o := by omega
  have q := st_lv (30 - o).toNat (by omega) d (by omega)
  rw [hk, show 30 - (30 - o) = o by omega] at q
  exact q.mono (by omega)
end
end
-- part bg
section
noncomputable section
/-! a text that was read without a fault gives a program that can be carried out -/
def anR (w : eW) (nt r q : Int) : Prop := (r < 3 * nt ∧ anc w r q) ∨ r = q
def enN (w : eW) (n r : Int) : Int := if r < 0 then n else enR w r
def brF (w : eW) (nw r v : Int) : Prop := (0 ≤ v ∧ v < nw) ∧ anc w r (w 335 (v + 3600)) ∧ ∀ q, anc w r q → anc w q (w 335 (v + 3600)) → q ≠ w 335 (v + 3600) → w 334 (q / 3 + 3600) ≤ w 336 (v + 3600)
/-- all is read: nothing is open, nothing is asked of the next place -/
def GT (w : eW) (N n mm nt nw : Int) : Prop := GZ w N n mm nt nw (fun _ => False) (-1) (fun _ => False) 0
/-- the program of the arm a is the one that was read; names are known by their numbers -/
def cpy (w w2 : eW) (a n : Int) : Prop := (∀ p, 0 ≤ p → p < n → w2 328 (10000 * a + p) = w 328 (p + 40000) ∧ w2 330 (10000 * a + p) = w 330 (p + 40000)) ∧ (∀ c t, 331 ≤ c → c ≤ 336 → 0 ≤ t → t < 900 → w2 c (900 * a + t) = w c (t + 3600))
def cpyA (w w2 : eW) (a n : Int) : Prop := ∀ p, 0 ≤ p → p < n →
  (w 328 (p + 40000) = 2 ∨ w 328 (p + 40000) = 31 → 0 ≤ w2 329 (10000 * a + p) ∧ w2 329 (10000 * a + p) ≤ 31) ∧ (w 328 (p + 40000) = 38 ∨ w 328 (p + 40000) = 39 ∨ w 328 (p + 40000) = 44 → 0 ≤ w2 329 (10000 * a + p) ∧ w2 329 (10000 * a + p) < w2 338 a) ∧
  (¬ (w 328 (p + 40000) = 2 ∨ w 328 (p + 40000) = 31 ∨ w 328 (p + 40000) = 38 ∨ w 328 (p + 40000) = 39 ∨ w 328 (p + 40000) = 44) → w2 329 (10000 * a + p) = w 329 (p + 40000))
theorem nxD_1 {o d : Int} (h : o = 1 ∨ o = 2 ∨ o = 5 ∨ o = 6 ∨ o = 7 ∨ o = 8) : nxD o d = d + 1 := by unfold nxD; rw [if_pos h]
theorem nxD_m {o d : Int} (h : (10 ≤ o ∧ o ≤ 20) ∨ o = 22 ∨ o = 23) : nxD o d = d - 1 := by unfold nxD; rw [if_neg (by omega), if_neg (by omega), if_pos h]
theorem nxD_s {o d : Int} (h : o = 3 ∨ o = 4 ∨ o = 9 ∨ o = 21 ∨ o = 24) : nxD o d = d := by unfold nxD; rw [if_neg (by omega), if_neg (by omega), if_neg (by omega)]
theorem sgO_01 (o : Int) : sgO o = 0 ∨ sgO o = 1 := by
  unfold sgO
  by_cases c : o < 30 ∨ (31 ≤ o ∧ o ≤ 44) ∨ o = 47
  · rw [if_pos c]; exact Or.inr rfl
  · rw [if_neg c]; exact Or.inl rfl
section
variable {w w2 : eW} {N a n mm nt nw : Int}
theorem GT.last (h : GT w N n mm nt nw) {p : Int} (h1 : 0 ≤ p) (h2 : p < n) (ho : w 328 (p + 40000) < 30 ∨ w 328 (p + 40000) = 30 ∨ (31 ≤ w 328 (p + 40000) ∧ w 328 (p + 40000) ≤ 44) ∨ w 328 (p + 40000) = 47) : p + 1 < n := by
  by_cases c : p + 1 = n
  · exfalso
    have hR := (h.1.2.1 p h1 h2).1
    have ra := (h.2.2 30 (3 * nt + 1) p h1 h2).1 c
    have rb := (h.2.2 1 (3 * nt + 1) p h1 h2).1 c
    rcases ho with ho | ho | ho
    · exact absurd (ra.1 ho).1 (by decide)
    · rcases ra.2.2 ho with g | ⟨t, t1, t2, t3, t4⟩
      · omega
      · omega
    · exact absurd (rb.2.1 ho).1 (by decide)
  · omega
theorem GT.goes (h : GT w N n mm nt nw) {p : Int} (h1 : 0 ≤ p) (h2 : p < n) (ho : iJp (w 328 (p + 40000))) : w 329 (p + 40000) ≠ n := fun c => by
  have hR := (h.1.2.1 p h1 h2).1
  have ra := (h.2.2 30 (3 * nt + 1) p h1 h2).2 (fun z => z) c
  unfold iJp at ho
  rcases ho with ho | ho | ho | ho | ho
  · have := (ra.1 (Or.inl ho)).2.2; omega
  · have := (ra.1 (Or.inr ho)).2.2; omega
  · have := (ra.2.1 ho).2; omega
  · have := (ra.2.2 (Or.inl ho)).2.2; omega
  · have := (ra.2.2 (Or.inr ho)).2.2; omega
theorem GT.tg (h : GT w N n mm nt nw) (hc : cpy w w2 a n) {q r : Int} (g : tgS w n (-1) False q r) : tgt w2 a n (dp w) (fun p => sgO (w 328 (p + 40000))) q r := by
  obtain ⟨q1, q2, q3, q4⟩ := g
  have hq : q < n := by
    by_cases c : q = n
    · exact (q4 c).1.elim
    · omega
  exact ⟨q1.1, hq, q2, (q3 hq).1, by rw [(hc.1 q q1.1 hq).2]; exact (q3 hq).2⟩
theorem GT.clsT (_h : GT w N n mm nt nw) {t : Int} (ht : 0 ≤ t) : clsT w (-1) t := fun i k1 k2 g => by
  have := g.neg
  omega
set_option maxHeartbeats 1000000 in
theorem GT.ins (h : GT w N n mm nt nw) (hc : cpy w w2 a n) (hA : cpyA w w2 a n) (h4 : ∀ m, 0 ≤ m → m < mm → w 341 m ≠ 4) (hnt : nt ≤ 900) (hw : nw ≤ 900) {p : Int} (h1 : 0 ≤ p) (h2 : p < n) : insOk w2 a n nt nw (dp w) (fun p => sgO (w 328 (p + 40000))) (enN w n) (brF w nw) p := by
  obtain ⟨i1, i2, i3⟩ := h.1.1.1 p h1 h2
  obtain ⟨q1, q2, q3, q4⟩ := h.1.2.1 p h1 h2
  obtain ⟨a1, a2, a3⟩ := hA p h1 h2
  obtain ⟨i4, i5⟩ := i3 (fun z => z)
  have hd := dp_next w h1
  have e8 := (hc.1 p h1 h2).1
  have e0 := (hc.1 p h1 h2).2
  -- the next place
  have nx : ∀ (ho : w 328 (p + 40000) < 30 ∨ w 328 (p + 40000) = 30 ∨ (31 ≤ w 328 (p + 40000) ∧ w 328 (p + 40000) ≤ 44) ∨ w 328 (p + 40000) = 47), p + 1 < n ∧ w2 330 (10000 * a + p + 1) = w 330 (p + 1 + 40000) ∧ iNx w nt p (w 328 (p + 1 + 40000)) (w 330 (p + 1 + 40000)) := fun ho => by
    have hl := h.last h1 h2 ho
    exact ⟨hl, by rw [show 10000 * a + p + 1 = 10000 * a + (p + 1) by omega]; exact (hc.1 (p + 1) (by omega) hl).2, i2 hl⟩
  -- the place that is gone to
  have go : ∀ (ho : iJp (w 328 (p + 40000))), 0 ≤ w 329 (p + 40000) → w 329 (p + 40000) ≤ n → w 329 (p + 40000) < n ∧ w2 330 (10000 * a + w 329 (p + 40000)) = w 330 (w 329 (p + 40000) + 40000) ∧ iGo w p (w 329 (p + 40000)) (w 328 (w 329 (p + 40000) + 40000)) (w 330 (w 329 (p + 40000) + 40000)) := fun ho y1 y2 => by
    have hn := h.goes h1 h2 ho
    have y3 : w 329 (p + 40000) < n := by omega
    exact ⟨y3, (hc.1 _ y1 y3).2, i5 _ y1 y3⟩
  have hen : p < enN w n (w 330 (p + 40000)) := by
    unfold enN
    by_cases c : w 330 (p + 40000) < 0
    · rw [if_pos c]; exact h2
    · rw [if_neg c]
      refine q2.resolve_left (fun g => ?_)
      have := g.neg
      omega
  have ft : ∀ (ho : w 328 (p + 40000) < 30 ∨ (31 ≤ w 328 (p + 40000) ∧ w 328 (p + 40000) ≤ 44) ∨ w 328 (p + 40000) = 47), iFT w2 a n p := fun ho => by
    obtain ⟨z1, z2, z3, z4, -⟩ := nx (by omega)
    refine ⟨z1, ?_⟩
    rw [z2, e0]
    rcases ho with ho | ho
    · exact (z3 ho).2
    · exact (z4 ho).2
  have ss : ∀ (ho : (31 ≤ w 328 (p + 40000) ∧ w 328 (p + 40000) ≤ 44) ∨ w 328 (p + 40000) = 47), iS w2 a n (dp w) (fun p => sgO (w 328 (p + 40000))) p := fun ho => by
    obtain ⟨z1, z2, z3, z4, -⟩ := nx (by omega)
    exact ⟨ft (by omega), by rw [hd, nxD_no (by omega)], (z4 ho).1, sg_op ho⟩
  unfold insOk
  rw [e8, e0]
  clear i2 i3
  unfold iOw at i1
  obtain ⟨o1, o2, o3, o4, o5, o6, o7, o8⟩ := i1
  refine ⟨⟨o1, q1, o2, hen, sgO_01 _⟩, fun z => ⟨?_, ?_, ft (Or.inl z)⟩, fun z => ?_, fun z => a1 (Or.inl z), fun z => ⟨o3 (by clear hA a1 a2 a3 nx go ft ss o3 o4 o5 o6 o7 o8 q3 q4 i5; omega), ?_⟩, fun z => ?_, fun z => ⟨o4 z, ?_⟩, fun z => ?_, fun z => ss (Or.inl z), fun z => ⟨o5 (Or.inl z), a1 (Or.inr z)⟩, fun z => ?_, fun z => o5 (by clear hA a1 a2 a3 nx go ft ss o3 o4 o5 o6 o7 o8 q3 q4 i5; omega), fun z => ?_, o7, fun z => o8 (by clear hA a1 a2 a3 nx go ft ss o3 o4 o5 o6 o7 o8 q3 q4 i5; omega), fun z => a2 z, fun z => ?_, fun z => ?_, fun z => ?_, fun z => ?_⟩
  · show sgO _ = 1
    unfold sgO; rw [if_pos (Or.inl z)]
  · exact ((nx (Or.inl z)).2.2.1 z).1
  · rw [hd, nxD_1 z]
  · rw [hd, nxD_s z]
  · -- 22, 23
    have zj : iJp (w 328 (p + 40000)) := by unfold iJp; clear hA a1 a2 a3 nx go ft ss o3 o4 o5 o6 o7 o8 q3 q4 i5; omega
    have ea := a3 (by clear hA a1 a2 a3 nx go ft ss o3 o4 o5 o6 o7 o8 q3 q4 i5; omega)
    have zt := i4.1 (z.imp id Or.inl)
    obtain ⟨y1, y2, y3⟩ := go zj (by omega) zt.2
    obtain ⟨v1, v2, v3⟩ := (y3 rfl).1 z
    rw [ea]
    exact ⟨o3 (Or.inr (Or.inr (Or.inr (Or.inr (Or.inr z))))), by rw [hd, nxD_m (Or.inr z)], zt.1, y1, v1, v2, by rw [y2]; exact v3⟩
  · rw [hd, nxD_m (Or.inl z)]
  · -- 30
    have hd0 : dp w (p + 1) = 0 := by rw [hd, nxD_no (by rw [z]; decide)]
    obtain ⟨z1, z2, z3, z4, z5⟩ := nx (Or.inr (Or.inl z))
    refine ⟨o8 (Or.inl z), sg_no (Or.inl z), z1, hd0, ?_⟩
    rw [z2]
    refine (z5 z).imp id (fun ⟨t, t1, t2, t3, t4⟩ => ⟨t, t1, t2, t3, ?_⟩)
    rw [hc.2 331 t (by decide) (by decide) t1 (by omega)]
    exact t4
  · have ea := a3 (by clear hA a1 a2 a3 nx go ft ss o3 o4 o5 o6 o7 o8 q3 q4 i5; omega)
    rw [ea]
    exact o6 z
  · -- 34
    have zj : iJp (w 328 (p + 40000)) := by unfold iJp; clear hA a1 a2 a3 nx go ft ss o3 o4 o5 o6 o7 o8 q3 q4 i5; omega
    have ea := a3 (by clear hA a1 a2 a3 nx go ft ss o3 o4 o5 o6 o7 o8 q3 q4 i5; omega)
    have zt := i4.2.1 z
    obtain ⟨y1, y2, y3⟩ := go zj zt.1 (by omega)
    obtain ⟨v1, v2⟩ := (y3 rfl).2.1 z
    rw [ea]
    exact ⟨zt.1, y1, v1, by rw [y2]; exact v2⟩
  · -- 46
    have ea := a3 (by clear hA a1 a2 a3 nx go ft ss o3 o4 o5 o6 o7 o8 q3 q4 i5; omega)
    rw [ea]
    have hm : w 329 (p + 40000) ≠ -1 := fun c => by
      rcases (h.1.1.2.2 p h1 h2).2.2 z with g | ⟨m, m1, m2, m3⟩
      · omega
      · exact h4 m m1 m2 m3
    obtain ⟨r1, r2, r3⟩ := (q3 z).resolve_left hm
    obtain ⟨b1, b2⟩ := r3.resolve_left (fun g => g)
    refine ⟨r1.1, r1.2, ⟨r1, r2, fun q g1 g2 g3 => (b2 q g1 g2 g3).2⟩, ?_⟩
    rw [hc.2 336 _ (by decide) (by decide) r1.1 (by omega)]
    exact b1
  · -- 47
    have zj : iJp (w 328 (p + 40000)) := by unfold iJp; clear hA a1 a2 a3 nx go ft ss o3 o4 o5 o6 o7 o8 q3 q4 i5; omega
    have ea := a3 (by clear hA a1 a2 a3 nx go ft ss o3 o4 o5 o6 o7 o8 q3 q4 i5; omega)
    have zt := i4.1 (Or.inr (Or.inr z))
    obtain ⟨y1, y2, y3⟩ := go zj (by omega) zt.2
    obtain ⟨v1, v2, v3⟩ := (y3 rfl).2.2 (Or.inl z)
    rw [ea]
    exact ⟨ss (Or.inr z), zt.1, y1, v1, v2, by rw [y2]; exact v3⟩
  · -- 48
    have zj : iJp (w 328 (p + 40000)) := by unfold iJp; clear hA a1 a2 a3 nx go ft ss o3 o4 o5 o6 o7 o8 q3 q4 i5; omega
    have ea := a3 (by clear hA a1 a2 a3 nx go ft ss o3 o4 o5 o6 o7 o8 q3 q4 i5; omega)
    have zt := i4.2.2 z
    have zr : 0 ≤ w 329 (p + 40000) ∧ w 329 (p + 40000) ≤ n := by
      rcases zt with zt | ⟨zt1, zt2, -⟩
      · omega
      · omega
    obtain ⟨y1, y2, y3⟩ := go zj zr.1 zr.2
    obtain ⟨v1, v2, v3⟩ := (y3 rfl).2.2 (Or.inr z)
    rw [ea]
    refine ⟨sg_no (by clear hA a1 a2 a3 nx go ft ss o3 o4 o5 o6 o7 o8 q3 q4 i5; omega), zr.1, y1, v1, v2, by rw [y2]; exact v3, ?_⟩
    refine zt.imp (fun g => g.1) (fun g => ?_)
    rw [(hc.1 _ zr.1 y1).1]
    exact g.2.2
  · -- 49, 50, 51
    have ea := a3 (by clear hA a1 a2 a3 nx go ft ss o3 o4 o5 o6 o7 o8 q3 q4 i5; omega)
    obtain ⟨r1, r2⟩ := q4 (by clear hA a1 a2 a3 nx go ft ss o3 o4 o5 o6 o7 o8 q3 q4 i5; omega)
    rw [ea]
    exact ⟨sg_no (by clear hA a1 a2 a3 nx go ft ss o3 o4 o5 o6 o7 o8 q3 q4 i5; omega), r1.1, r1.2, r2⟩
theorem GT.try (h : GT w N n mm nt nw) (hc : cpy w w2 a n) (hnt : nt ≤ 900) {t : Int} (h1 : 0 ≤ t) (h2 : t < nt) : tryOk w2 a n (dp w) (fun p => sgO (w 328 (p + 40000))) (piR w) (enN w n) (anR w nt) t := by
  obtain ⟨q1, q2, q3, q4, q5⟩ := h.1.2.2.1 t h1 h2
  obtain ⟨r1, r2, r3⟩ := q5 (h.clsT h1)
  have hti := h.1.ti
  have x : ∀ c, 331 ≤ c → c ≤ 336 → w2 c (900 * a + t) = w c (t + 3600) := fun c c1 c2 => hc.2 c t c1 c2 h1 (by omega)
  have p0 := piR_step (r := 3 * t) hti (by omega) (by omega)
  have p1 := piR_step (r := 3 * t + 1) hti (by omega) (by omega)
  have p2 := piR_step (r := 3 * t + 2) hti (by omega) (by omega)
  rw [show 3 * t / 3 = t by omega, if_neg (by omega)] at p0
  rw [show (3 * t + 1) / 3 = t by omega, if_neg (by omega)] at p1
  rw [show (3 * t + 2) / 3 = t by omega, if_pos (by omega)] at p2
  have n0 : enN w n (3 * t) = enR w (3 * t) := by unfold enN; rw [if_neg (by omega)]
  have n1 : enN w n (3 * t + 1) = enR w (3 * t + 1) := by unfold enN; rw [if_neg (by omega)]
  have n2 : enN w n (3 * t + 2) = enR w (3 * t + 2) := by unfold enN; rw [if_neg (by omega)]
  rw [enR_0] at n0
  rw [enR_1] at n1
  rw [enR_2] at n2
  unfold tryOk
  rw [x 331 (by decide) (by decide), x 332 (by decide) (by decide), x 333 (by decide) (by decide), x 334 (by decide) (by decide)]
  refine ⟨q1, ⟨by omega, by omega, by omega⟩, ?_, ?_, ⟨h.tg hc r1, ?_, ?_, ?_, ?_⟩, fun i q k1 k2 g => ?_, fun i q k1 k2 g => ?_⟩
  · by_cases c : w 332 (t + 3600) < 0
    · exact Or.inl c
    · right
      refine ⟨h.tg hc (q2.resolve_left c), ?_⟩
      rw [n0, if_pos (by omega)]
      exact Int.le_refl _
  · by_cases c : w 333 (t + 3600) < 0
    · exact Or.inl c
    · right
      refine ⟨h.tg hc (q3.resolve_left c), ?_, ?_⟩
      · rw [n0]
        by_cases c2 : 0 ≤ w 332 (t + 3600)
        · rw [if_pos c2]; omega
        · rw [if_neg c2, if_pos (by omega)]; exact Int.le_refl _
      · rw [n1, if_pos (by omega)]; exact Int.le_refl _
  · rw [n0]
    by_cases c2 : 0 ≤ w 332 (t + 3600)
    · rw [if_pos c2]; exact r2.1
    · rw [if_neg c2]
      by_cases c3 : 0 ≤ w 333 (t + 3600)
      · rw [if_pos c3]; exact r2.2
      · rw [if_neg c3]; exact Int.le_refl _
  · rw [n1]
    by_cases c3 : 0 ≤ w 333 (t + 3600)
    · rw [if_pos c3]; exact r2.2
    · rw [if_neg c3]; exact Int.le_refl _
  · rw [n2]; exact Int.le_refl _
  · unfold enN
    by_cases c : w 331 (t + 3600) < 0
    · rw [if_pos c]; exact r1.1.2
    · rw [if_neg c]
      refine r3.resolve_left (fun g => ?_)
      have := g.neg
      omega
  · rcases g with ⟨g1, g2⟩ | g
    · exact ((anc.of3 h1 k1 k2).1 g2).imp id (fun z => Or.inl ⟨by omega, z⟩)
    · exact Or.inl g.symm
  · rcases g with ⟨g1, g2⟩ | g
    · exact Or.inl ⟨by omega, (anc.of3 h1 k1 k2).2 (Or.inr g2)⟩
    · exact Or.inl ⟨by omega, (anc.of3 h1 k1 k2).2 (Or.inr (by rw [g]; exact anc.refl w q))⟩
theorem GT.cOk (h : GT w N n mm nt nw) (hc : cpy w w2 a n) (hA : cpyA w w2 a n) (h4 : ∀ m, 0 ≤ m → m < mm → w 341 m ≠ 4) (hn : n ≤ 10000) (hnt : nt ≤ 900) (hw : nw ≤ 900) (hr : ∀ q, 0 ≤ q → q < w2 338 a → tgS w n (-1) False (w2 337 (32 * a + q)) (-1)) : cOk w2 a n nt nw (dp w) (fun p => sgO (w 328 (p + 40000))) (piR w) (enN w n) (anR w nt) (brF w nw) := by
  have hti := h.1.ti
  have h6 := h.1.2.2.2.2.2.1
  refine ⟨⟨h6.2.1, hn, h6.2.2.1, hnt, h6.2.2.2.1, hw⟩, fun p p1 p2 => h.ins hc hA h4 hnt hw p1 p2, fun t t1 t2 => h.try hc hnt t1 t2, ⟨piR_neg w, fun r r1 r2 => ⟨piR_nn w r, h.1.2.2.2.2.2.2.1.1 r r1 r2⟩, fun r => Or.inr rfl, fun q g => ?_, fun r q g r1 => ?_, fun r q g r1 r2 => ?_⟩, fun v v1 v2 => ?_, fun r v g r1 r2 => ?_, fun q q1 q2 => h.tg hc (hr q q1 q2)⟩
  · rcases g with ⟨g1, g2⟩ | g
    · exact g2.neg
    · exact g.symm
  · rcases g with ⟨g1, g2⟩ | g
    · exact anc.le hti r1 g1 g2
    · omega
  · rcases g with ⟨g1, g2⟩ | g
    · exact anc.pi hti r1 r2 g2
    · rw [g]; exact Int.le_refl _
  · obtain ⟨y1, y2, y3⟩ := h.1.2.2.2.1 v v1 v2
    rw [hc.2 335 v (by decide) (by decide) v1 (by omega), hc.2 336 v (by decide) (by decide) v1 (by omega)]
    exact ⟨y1, h.tg hc (y3 (fun z => z))⟩
  · obtain ⟨hv, g1, g2⟩ := g
    rw [hc.2 335 v (by decide) (by decide) hv.1 (by omega)]
    by_cases c : r = w 335 (v + 3600)
    · exact Or.inl c
    · right
      have r0 : 0 ≤ r := by
        by_cases c2 : 0 ≤ r
        · exact c2
        · have e : r = -1 := by omega
          subst e
          exact absurd g1.neg.symm c
      have gp := g1.or.resolve_left c
      rw [par_nn w r0] at gp
      rw [hc.2 334 (r / 3) (by decide) (by decide) (by omega) (by omega), hc.2 336 v (by decide) (by decide) hv.1 (by omega), hc.2 331 (r / 3) (by decide) (by decide) (by omega) (by omega)]
      exact ⟨r0, g2 r (anc.refl w r) g1 c, hv, gp, fun q y1 y2 y3 => g2 q (anc.step (by rw [par_nn w r0]; exact y1)) y2 y3⟩
end
end
end
-- part bh
section
noncomputable section
/-! the whole text: before its first routine, and behind each -/
theorem GB.zero (w : eW) (N : Int) : GB w N 0 0 0 0 (fun _ => False) (-1) (fun _ => False) 0 :=
  ⟨⟨⟨fun p h1 h2 => by omega, fun m h1 h2 => by omega, fun p h1 h2 => by omega⟩, fun p h1 h2 => by omega, fun t h1 h2 => by omega, fun v h1 h2 => by omega, fun m h1 h2 => by omega, by decide, ⟨fun r h1 h2 => by rw [show r = -1 by omega, piR_neg]; decide, by rw [piR_neg]; decide⟩, fun v z => z.elim, fun z => by omega, fun _ => trivial, fun m h1 h2 => by omega⟩, dp_zero w, fun q _ p h1 h2 => by omega⟩
/-- only variables are told -/
def GV (w : eW) (N n mm nt nw : Int) (P : Int → Prop) (s : Int) (OW : Int → Prop) (o : Int) : Prop := GB w N n mm nt nw P s OW o ∧ ∀ m, 0 ≤ m → m < mm → w 341 m = 0
theorem GV.pr {w w' : eW} {N n mm nt nw s o : Int} {P OW : Int → Prop} (h : GV w N n mm nt nw P s OW o) (e : prE w w') : GV w' N n mm nt nw P s OW o := ⟨h.1.pr e, fun m m1 m2 => by rw [e 341 m (by omega)]; exact h.2 m m1 m2⟩
theorem GV.note {w w' : eW} {N n mm nt nw s o : Int} {P OW : Int → Prop} (h : GV w N n mm nt nw P s OW o) (ho : NO w w' mm) (hv : nmO w' N n mm) (h1 : w' 341 mm = 0) : GV w' N n (mm + 1) nt nw P s OW o := ⟨h.1.note ho hv (Or.inl h1), fun m m1 m2 => by
  by_cases c : m = mm
  · rw [c]; exact h1
  · rw [ho 341 m (by omega)]; exact h.2 m m1 (by omega)⟩
theorem GV.re {w : eW} {N n mm nt nw s o n' mm' nt' nw' s' : Int} {P OW : Int → Prop} (h : GV w N n mm nt nw P s OW o) (e1 : n = n') (e2 : mm = mm') (e3 : nt = nt') (e4 : nw = nw') (e5 : s = s') : GV w N n' mm' nt' nw' P s' OW o := by
  subst e1 e2 e3 e4 e5
  exact h
/-- no routine yet, or one has just ended -/
def GX (w : eW) (N n mm nt nw : Int) (P : Int → Prop) (s : Int) (OW : Int → Prop) (o : Int) : Prop := (n = 0 ∧ nt = 0 ∧ nw = 0 ∧ GV w N n mm nt nw P s OW o) ∨ GZ w N n mm nt nw P s OW o
theorem GX.pr {w w' : eW} {N n mm nt nw s o : Int} {P OW : Int → Prop} (h : GX w N n mm nt nw P s OW o) (e : prE w w') : GX w' N n mm nt nw P s OW o := h.imp (fun y => ⟨y.1, y.2.1, y.2.2.1, y.2.2.2.pr e⟩) (fun y => y.pr e)
theorem GX.gb {w : eW} {N n mm nt nw s o : Int} {P OW : Int → Prop} (h : GX w N n mm nt nw P s OW o) : GB w N n mm nt nw P s OW o := h.elim (fun y => y.2.2.2.1) (fun y => y.gb)
theorem GX.re {w : eW} {N n mm nt nw s o n' mm' nt' nw' s' : Int} {P OW : Int → Prop} (h : GX w N n mm nt nw P s OW o) (e1 : n = n') (e2 : mm = mm') (e3 : nt = nt') (e4 : nw = nw') (e5 : s = s') : GX w N n' mm' nt' nw' P s' OW o := by
  subst e1 e2 e3 e4 e5
  exact h
end
end
