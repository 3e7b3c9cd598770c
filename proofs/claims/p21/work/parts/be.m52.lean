noncomputable section
set_option maxHeartbeats 4000000 in
theorem c_348 {d : Nat} (hd : 310 ≤ d) {w : eW} {N o O F : Int} {P OW : Int → Prop} (hc : cSt w N) (hNr : 0 ≤ N ∧ N ≤ 4000) (h0 : w 275 88 = 0) (ho : w 275 83 = o) (hv : w 275 82 = -1 ∨ OW (w 275 82)) (hb : stB w N o) (hO : O ≤ o) (hG : GB w N (w 275 78) (w 275 94) (w 275 79) (w 275 80) P (w 275 81) OW O) (hor : 0 ≤ o ∧ o ≤ 30) (hF : 300 ≤ F ∧ F ≤ 700) (hB : ∀ k, d = k + 1 → stC 350 1 o (F + 10) k) (hW : ∀ k, d = k + 1 → stC 351 1 o (F + 10) k) (hA : ∀ k, d = k + 1 → stC 352 1 o (F + 10) k) : e_Ok 20 elay ecode eI d 348 (0, [(0, (1, 275))], [], w) (fun r w' => r = [] ∧ stQ w w' N P OW O 0 (F + 10)) := by
  obtain ⟨d, rfl⟩ : ∃ e, d = e + 1 := ⟨d - 1, by omega⟩
  have hdq : 308 ≤ d := by omega
  have hct := tkS.lin hc.2.2.2.1
  have hcf := e_Has.get hc.2.1 (c := 275) (k := 88) (lo := 0) (hi := 7) rfl (by decide)
  have hsb := hc.2.2.2.2
  unfold stB at hb
  have hvr : -1 ≤ w 275 82 ∧ w 275 82 ≤ 900 := by rcases hv with g | g; omega; have := hG.1.2.2.2.2.2.2.2.1 _ g; omega
  replace hv := (show Hid _ from hv)
  have hgH : Hid (w 275 88 = 0 → GB w N (w 275 78) (w 275 94) (w 275 79) (w 275 80) P (w 275 81) OW O) := Hid.mk (fun _ => hG)
  have hL1 : ∀ (nn : Nat) (v1 : eW), e_fr (mStm (w 275 78) (w 275 79) (w 275 80) (w 275 94)) w v1 ∧ cSt v1 N ∧ stL w v1 0 (F + 10) ∧ Hid (v1 275 88 = 0 → GB v1 N (v1 275 78) (v1 275 94) (v1 275 79) (v1 275 80) P (v1 275 81) OW O) ∧ ((0 ≤ v1 275 86 ∧ v1 275 86 ≤ N ∧ 0 ≤ v1 275 88 ∧ v1 275 88 ≤ 7)) → 8 * (N - v1 275 86) + 7 - v1 275 88 < nn → e_Ok 20 elay ecode eI (d + 1) 348 (0, [(0, (1, 275))], [], v1) (fun r w' => r = [] ∧ stQ w w' N P OW O 0 (F + 10)) := by
    intro nn
    induction nn with
    | zero => intro v1 hj hm; obtain ⟨j3, j4, j5, j6, j7⟩ := hj; exfalso; omega
    | succ nn ih2 =>
      intro v1 hj hm
      obtain ⟨j3, j4, j5, j6, j7⟩ := hj
      have xl := j5
      unfold stL at xl
      obtain ⟨x1, x2, x3, x4, x5, x6, x7, x8, x9, x10, x11, x12⟩ := xl
      have xt := tkS.lin j4.2.2.2.1
      have xf := e_Has.get j4.2.1 (c := 275) (k := 88) (lo := 0) (hi := 7) rfl (by decide)
      have xr := j4.2.2.2.2
      have u8 : Hid (v1 275 81 = w 275 81) := Hid.mk (by omega)
      have u9 : Hid (v1 275 82 = w 275 82) := Hid.mk (by omega)
      have g10 : Hid (v1 275 88 = 0 → GB v1 N (v1 275 78) (v1 275 94) (v1 275 79) (v1 275 80) P (w 275 81) OW O) := Hid.mk (fun z => by have y := j6.out z; rw [u8.out] at y; exact y)
      refine e_Ok.run (t' := (1, [(0, (1, 275))], [(1, 275)], v1)) 1 rfl ?_
      refine e_Ok.callV rfl (Nat.le_trans (by decide) hdq) rfl rfl rfl rfl (c_347 (by omega) j4) (fun r11 w12 h13 => ?_)
      obtain ⟨z14, rfl, rfl, q15⟩ := h13
      obtain ⟨rfl, q15f, q15k⟩ | rfl := q15
      · show e_Ok 20 elay ecode eI (d + 1) 348 (4, [(0, (1, 275))], [(0, 1)], v1) _
        replace x3 := x3 (by omega)
        refine e_Ok.if1 rfl (fun h16 => ?_) (fun h16 => ?_)
        · replace h16 : (1 : Int) = 0 := h16
          exfalso; omega
        · replace h16 : (1 : Int) ≠ 0 := by have q : ¬ ((1 : Int) = 0) := h16; omega
          refine e_Ok.run (t' := (8, [(0, (1, 275))], [(1, 275)], v1)) 1 rfl ?_
          refine e_Ok.getf (z := v1 275 84) rfl (el_o rfl) rfl rfl rfl (by omega) ?_
          refine e_Ok.run (t' := (12, [(0, (1, 275))], [(0, 1), (0, v1 275 84)], v1)) 1 rfl ?_
          refine e_Ok.if2 rfl (fun h17 => ?_) (fun h17 => ?_)
          · replace h17 : (v1 275 84 : Int) ≠ 1 := h17
            refine e_Ok.run (t' := (75, [(0, (1, 275))], [(1, 275)], v1)) 1 rfl ?_
            refine e_Ok.getf (z := v1 275 85) rfl (el_o rfl) rfl rfl rfl (by omega) ?_
            refine e_Ok.run (t' := (80, [(0, (1, 275))], [(0, 18), (0, v1 275 85)], v1)) 1 rfl ?_
            refine e_Ok.if2 rfl (fun h18 => ?_) (fun h18 => ?_)
            · replace h18 : (v1 275 85 : Int) ≠ 18 := h18
              refine e_Ok.run (t' := (91, [(0, (1, 275))], [(1, 275)], v1)) 1 rfl ?_
              refine e_Ok.getf (z := v1 275 85) rfl (el_o rfl) rfl rfl rfl (by omega) ?_
              refine e_Ok.run (t' := (96, [(0, (1, 275))], [(0, 20), (0, v1 275 85)], v1)) 1 rfl ?_
              refine e_Ok.if2 rfl (fun h19 => ?_) (fun h19 => ?_)
              · replace h19 : (v1 275 85 : Int) ≠ 20 := h19
                refine e_Ok.run (t' := (107, [(0, (1, 275))], [(1, 275)], v1)) 1 rfl ?_
                refine e_Ok.getf (z := v1 275 85) rfl (el_o rfl) rfl rfl rfl (by omega) ?_
                refine e_Ok.run (t' := (112, [(0, (1, 275))], [(0, 21), (0, v1 275 85)], v1)) 1 rfl ?_
                refine e_Ok.if2 rfl (fun h20 => ?_) (fun h20 => ?_)
                · replace h20 : (v1 275 85 : Int) ≠ 21 := h20
                  refine e_Ok.run (t' := (124, [(0, (1, 275))], [(1, 275), (1, 275)], v1)) 2 rfl ?_
                  refine e_Ok.getf (z := v1 275 85) rfl (el_o rfl) rfl rfl rfl (by omega) ?_
                  refine e_Ok.callV rfl (Nat.le_trans (by decide) hdq) rfl rfl rfl rfl (c_349 (O := O) (F := F) (by omega) j4 hNr (by omega) (by omega) (by rw [u9.out] <;> exact hv.out) (by unfold stB; omega) hO (by rw [u8.out] <;> exact (g10.out (by omega))) hor hF (by omega) (by omega)) (fun r21 w22 h23 => ?_)
                  obtain ⟨rfl, q24F, q24c, q24l, q24w⟩ := h23
                  unfold stL at q24l
                  obtain ⟨q241, q242, q243, q244, q245, q246, q247, q248, q249, q2410, q2411, q2412⟩ := q24l
                  replace q249 := (show Hid _ from q249)
                  replace q2410 := (show Hid _ from q2410)
                  replace q24F := (show Hid _ from q24F)
                  have f25 : Hid (e_fr (mStm (v1 275 78) (v1 275 79) (v1 275 80) (v1 275 94)) v1 w22) := Hid.mk (by have y := q24F.out; exact y)
                  replace q24w := (show Hid _ from q24w)
                  have u26 : Hid (w22 275 81 = w 275 81) := Hid.mk (Eq.trans (q249.out) u8.out)
                  have u27 : Hid (w22 275 82 = w 275 82) := Hid.mk (Eq.trans (q2410.out) u9.out)
                  have t28 := tkS.lin q24c.2.2.2.1
                  have t29 := e_Has.get q24c.2.1 (c := 275) (k := 88) (lo := 0) (hi := 7) rfl (by decide)
                  have f30 : e_fr (mStm (w 275 78) (w 275 79) (w 275 80) (w 275 94)) w w22 := e_fr.trans j3 (e_fr.mono f25.out (fun c k g => mSt_St (by omega) (by omega) (by omega) (by omega) g))
                  have g31 : Hid (w22 275 88 = 0 → GB w22 N (w22 275 78) (w22 275 94) (w22 275 79) (w22 275 80) P (w 275 81) OW O) := Hid.mk (fun z => by have y := q24w.out z; rw [u26.out] at y; exact y)
                  show e_Ok 20 elay ecode eI (d + 1) 348 (130, [(0, (1, 275))], [], w22) _
                  refine e_Ok.run (t' := (0, [(0, (1, 275))], [], w22)) 1 rfl ?_
                  refine e_Ok.sub eAlk (e_sub_of rfl ?_) (ih2  w22 ⟨f30, q24c, (by unfold stL; rw [u26.out, u27.out]; omega), (Hid.mk (fun z => by rw [u26.out]; exact (g31.out (by omega)))), (by omega)⟩ ((by omega)))
                  exact ⟨rfl, trivial⟩
                · replace h20 : (v1 275 85 : Int) = 21 := by have q : ¬ ((v1 275 85 : Int) ≠ 21) := h20; omega
                  refine e_Ok.run (t' := (116, [(0, (1, 275))], [(1, 275)], v1)) 1 rfl ?_
                  refine e_Ok.callV rfl (Nat.le_trans (by decide) hdq) rfl rfl rfl rfl ((hA d rfl) v1 N O P OW j4 hNr (by omega) (Eq.trans rfl (show _ = o from by omega)) (by rw [u9.out] <;> exact hv.out) (by unfold stB; omega) (by omega) (by rw [u8.out] <;> exact (g10.out (by omega)))) (fun r32 w33 h34 => ?_)
                  obtain ⟨rfl, q35F, q35c, q35l, q35w⟩ := h34
                  unfold stL at q35l
                  obtain ⟨q351, q352, q353, q354, q355, q356, q357, q358, q359, q3510, q3511, q3512⟩ := q35l
                  replace q359 := (show Hid _ from q359)
                  replace q3510 := (show Hid _ from q3510)
                  replace q35F := (show Hid _ from q35F)
                  have f36 : Hid (e_fr (mStm (v1 275 78) (v1 275 79) (v1 275 80) (v1 275 94)) v1 w33) := Hid.mk (by have y := q35F.out; exact y)
                  replace q35w := (show Hid _ from q35w)
                  have u37 : Hid (w33 275 81 = w 275 81) := Hid.mk (Eq.trans (q359.out) u8.out)
                  have u38 : Hid (w33 275 82 = w 275 82) := Hid.mk (Eq.trans (q3510.out) u9.out)
                  have t40 := tkS.lin q35c.2.2.2.1
                  have t41 := e_Has.get q35c.2.1 (c := 275) (k := 88) (lo := 0) (hi := 7) rfl (by decide)
                  have f42 : e_fr (mStm (w 275 78) (w 275 79) (w 275 80) (w 275 94)) w w33 := e_fr.trans j3 (e_fr.mono f36.out (fun c k g => mSt_St (by omega) (by omega) (by omega) (by omega) g))
                  have g43 : Hid (w33 275 88 = 0 → GB w33 N (w33 275 78) (w33 275 94) (w33 275 79) (w33 275 80) P (w 275 81) OW O) := Hid.mk (fun z => by have y := q35w.out z; rw [u37.out] at y; exact y)
                  show e_Ok 20 elay ecode eI (d + 1) 348 (119, [(0, (1, 275))], [], w33) _
                  refine e_Ok.run (t' := (0, [(0, (1, 275))], [], w33)) 1 rfl ?_
                  refine e_Ok.sub eAlk (e_sub_of rfl ?_) (ih2  w33 ⟨f42, q35c, (by unfold stL; rw [u37.out, u38.out]; omega), (Hid.mk (fun z => by rw [u37.out]; exact (g43.out (by omega)))), (by omega)⟩ ((by omega)))
                  exact ⟨rfl, trivial⟩
              · replace h19 : (v1 275 85 : Int) = 20 := by have q : ¬ ((v1 275 85 : Int) ≠ 20) := h19; omega
                refine e_Ok.run (t' := (100, [(0, (1, 275))], [(1, 275)], v1)) 1 rfl ?_
                refine e_Ok.callV rfl (Nat.le_trans (by decide) hdq) rfl rfl rfl rfl ((hW d rfl) v1 N O P OW j4 hNr (by omega) (Eq.trans rfl (show _ = o from by omega)) (by rw [u9.out] <;> exact hv.out) (by unfold stB; omega) (by omega) (by rw [u8.out] <;> exact (g10.out (by omega)))) (fun r44 w45 h46 => ?_)
                obtain ⟨rfl, q47F, q47c, q47l, q47w⟩ := h46
                unfold stL at q47l
                obtain ⟨q471, q472, q473, q474, q475, q476, q477, q478, q479, q4710, q4711, q4712⟩ := q47l
                replace q479 := (show Hid _ from q479)
                replace q4710 := (show Hid _ from q4710)
                replace q47F := (show Hid _ from q47F)
                have f48 : Hid (e_fr (mStm (v1 275 78) (v1 275 79) (v1 275 80) (v1 275 94)) v1 w45) := Hid.mk (by have y := q47F.out; exact y)
                replace q47w := (show Hid _ from q47w)
                have u49 : Hid (w45 275 81 = w 275 81) := Hid.mk (Eq.trans (q479.out) u8.out)
                have u50 : Hid (w45 275 82 = w 275 82) := Hid.mk (Eq.trans (q4710.out) u9.out)
                have t51 := tkS.lin q47c.2.2.2.1
                have t52 := e_Has.get q47c.2.1 (c := 275) (k := 88) (lo := 0) (hi := 7) rfl (by decide)
                have f53 : e_fr (mStm (w 275 78) (w 275 79) (w 275 80) (w 275 94)) w w45 := e_fr.trans j3 (e_fr.mono f48.out (fun c k g => mSt_St (by omega) (by omega) (by omega) (by omega) g))
                have g54 : Hid (w45 275 88 = 0 → GB w45 N (w45 275 78) (w45 275 94) (w45 275 79) (w45 275 80) P (w 275 81) OW O) := Hid.mk (fun z => by have y := q47w.out z; rw [u49.out] at y; exact y)
                show e_Ok 20 elay ecode eI (d + 1) 348 (103, [(0, (1, 275))], [], w45) _
                refine e_Ok.run (t' := (0, [(0, (1, 275))], [], w45)) 1 rfl ?_
                refine e_Ok.sub eAlk (e_sub_of rfl ?_) (ih2  w45 ⟨f53, q47c, (by unfold stL; rw [u49.out, u50.out]; omega), (Hid.mk (fun z => by rw [u49.out]; exact (g54.out (by omega)))), (by omega)⟩ ((by omega)))
                exact ⟨rfl, trivial⟩
            · replace h18 : (v1 275 85 : Int) = 18 := by have q : ¬ ((v1 275 85 : Int) ≠ 18) := h18; omega
              refine e_Ok.run (t' := (84, [(0, (1, 275))], [(1, 275)], v1)) 1 rfl ?_
              refine e_Ok.callV rfl (Nat.le_trans (by decide) hdq) rfl rfl rfl rfl ((hB d rfl) v1 N O P OW j4 hNr (by omega) (Eq.trans rfl (show _ = o from by omega)) (by rw [u9.out] <;> exact hv.out) (by unfold stB; omega) (by omega) (by rw [u8.out] <;> exact (g10.out (by omega)))) (fun r55 w56 h57 => ?_)
              obtain ⟨rfl, q58F, q58c, q58l, q58w⟩ := h57
              unfold stL at q58l
              obtain ⟨q581, q582, q583, q584, q585, q586, q587, q588, q589, q5810, q5811, q5812⟩ := q58l
              replace q589 := (show Hid _ from q589)
              replace q5810 := (show Hid _ from q5810)
              replace q58F := (show Hid _ from q58F)
              have f59 : Hid (e_fr (mStm (v1 275 78) (v1 275 79) (v1 275 80) (v1 275 94)) v1 w56) := Hid.mk (by have y := q58F.out; exact y)
              replace q58w := (show Hid _ from q58w)
              have u60 : Hid (w56 275 81 = w 275 81) := Hid.mk (Eq.trans (q589.out) u8.out)
              have u61 : Hid (w56 275 82 = w 275 82) := Hid.mk (Eq.trans (q5810.out) u9.out)
              have t62 := tkS.lin q58c.2.2.2.1
              have t63 := e_Has.get q58c.2.1 (c := 275) (k := 88) (lo := 0) (hi := 7) rfl (by decide)
              have f64 : e_fr (mStm (w 275 78) (w 275 79) (w 275 80) (w 275 94)) w w56 := e_fr.trans j3 (e_fr.mono f59.out (fun c k g => mSt_St (by omega) (by omega) (by omega) (by omega) g))
              have g65 : Hid (w56 275 88 = 0 → GB w56 N (w56 275 78) (w56 275 94) (w56 275 79) (w56 275 80) P (w 275 81) OW O) := Hid.mk (fun z => by have y := q58w.out z; rw [u60.out] at y; exact y)
              show e_Ok 20 elay ecode eI (d + 1) 348 (87, [(0, (1, 275))], [], w56) _
              refine e_Ok.run (t' := (0, [(0, (1, 275))], [], w56)) 1 rfl ?_
              refine e_Ok.sub eAlk (e_sub_of rfl ?_) (ih2  w56 ⟨f64, q58c, (by unfold stL; rw [u60.out, u61.out]; omega), (Hid.mk (fun z => by rw [u60.out]; exact (g65.out (by omega)))), (by omega)⟩ ((by omega)))
              exact ⟨rfl, trivial⟩
          · replace h17 : (v1 275 84 : Int) = 1 := by have q : ¬ ((v1 275 84 : Int) ≠ 1) := h17; omega
            refine e_Ok.run (t' := (19, [(0, (1, 275))], [(0, 0), (0, 30), (1, 275)], v1)) 3 rfl ?_
            refine e_Ok.callV rfl (Nat.le_trans (by decide) hdq) rfl rfl rfl rfl (c_336 j4.1 (n := v1 275 78) rfl (by omega) (s := w 275 81) u8.out (by omega)) (fun r66 w67 h68 => ?_)
            obtain ⟨rfl, q69⟩ := h68
            replace q69 := (show Hid (EM v1 w67 (v1 275 78) 30 (0) (w 275 81)) from q69)
            have u70 : Hid (w67 275 78 = v1 275 78 + 1) := Hid.mk (Eq.trans q69.out.2.2.2.2 (by omega))
            have u71 : Hid (w67 275 79 = v1 275 79) := Hid.mk (q69.out.fld (by decide))
            have u72 : Hid (w67 275 80 = v1 275 80) := Hid.mk (q69.out.fld (by decide))
            have u73 : Hid (w67 275 81 = w 275 81) := Hid.mk (Eq.trans (q69.out.fld (by decide)) u8.out)
            have u74 : Hid (w67 275 82 = w 275 82) := Hid.mk (Eq.trans (q69.out.fld (by decide)) u9.out)
            have u75 : Hid (w67 275 83 = v1 275 83) := Hid.mk (q69.out.fld (by decide))
            have u76 : Hid (w67 275 84 = v1 275 84) := Hid.mk (q69.out.fld (by decide))
            have u78 : Hid (w67 275 86 = v1 275 86) := Hid.mk (q69.out.fld (by decide))
            have u79 : Hid (w67 275 87 = v1 275 87) := Hid.mk (q69.out.fld (by decide))
            have u80 : Hid (w67 275 88 = v1 275 88) := Hid.mk (q69.out.fld (by decide))
            have u81 : Hid (w67 275 94 = v1 275 94) := Hid.mk (q69.out.fld (by decide))
            have f82 : e_fr (mStm (w 275 78) (w 275 79) (w 275 80) (w 275 94)) w w67 := e_fr.trans j3 (q69.out.st (by omega))
            have c83 := cSt.em j4 q69.out (by decide) (by omega) (by omega)
            have g84 : Hid (v1 275 88 = 0 → GA w67 N (v1 275 78 + 1) (v1 275 94) (v1 275 79) (v1 275 80) P (w 275 81) OW O) := Hid.mk (fun z => (GB.beg (g10.out (by omega)) q69.out))
            show e_Ok 20 elay ecode eI (d + 1) 348 (22, [(0, (1, 275))], [(0, v1 275 78)], w67) _
            refine e_Ok.run (t' := (24, [(0, (1, 275))], [(1, 275)], w67)) 2 rfl ?_
            refine e_Ok.getf (z := v1 275 94) rfl (el_o rfl) rfl rfl u81.out (by omega) ?_
            refine e_Ok.run (t' := (31, [(1, (0, v1 275 94)), (0, (1, 275))], [(0, 0), (0, 2), (1, 275)], w67)) 4 rfl ?_
            refine e_Ok.callV rfl (Nat.le_trans (by decide) hdq) rfl rfl rfl rfl (c_338 (Nat.le_trans (by decide) hdq) c83.1 c83.2.1 c83.2.2.1 hNr c83.2.2.2.1 (mm := v1 275 94) u81.out (by omega) (by decide) (by omega)) (fun r87 w88 h89 => ?_)
            obtain ⟨rfl, q90⟩ := h89
            obtain ⟨rfl, q90z⟩ | ⟨q90z, q90k, q90, q90T, q90H, q90r⟩ | ⟨q90z, q90k, w91, q90F, q90T, q90H, q90v, q90o, q90, q90s, q90t⟩ := q90
            · rw [u80.out] at q90z; exact absurd q90z (by omega)
            · rw [u76.out] at q90k; exact absurd q90k (by omega)
            · show e_Ok 20 elay ecode eI (d + 1) 348 (34, [(1, (0, v1 275 94)), (0, (1, 275))], [], w88) _
              rw [u80.out] at q90z
              rw [u76.out] at q90k
              rw [u79.out] at q90t
              have p92 := tkS.pos c83.2.2.2.1 (by rw [u76.out] <;> omega)
              rw [u78.out, u79.out] at p92
              obtain ⟨q90v1, q90v2, q90v3, q90v4, q90v5⟩ := q90v
              rw [u78.out] at q90v2
              rw [u78.out, u79.out] at q90v3
              replace q90v1 := (show Hid _ from q90v1)
              replace q90v2 := (show Hid _ from q90v2)
              replace q90v3 := (show Hid _ from q90v3)
              replace q90v4 := (show Hid _ from q90v4)
              replace q90v5 := (show Hid _ from q90v5)
              replace q90o := (show Hid _ from q90o)
              have u93 : Hid (w91 275 78 = v1 275 78 + 1) := Hid.mk (Eq.trans (q90F 275 78 (mNm_fld (by decide))) u70.out)
              have u94 : Hid (w91 275 79 = v1 275 79) := Hid.mk (Eq.trans (q90F 275 79 (mNm_fld (by decide))) u71.out)
              have u95 : Hid (w91 275 80 = v1 275 80) := Hid.mk (Eq.trans (q90F 275 80 (mNm_fld (by decide))) u72.out)
              have u101 : Hid (w91 275 81 = w 275 81) := Hid.mk (Eq.trans (q90F 275 81 (mNm_fld (by decide))) u73.out)
              have u103 : Hid (w91 275 82 = w 275 82) := Hid.mk (Eq.trans (q90F 275 82 (mNm_fld (by decide))) u74.out)
              have u104 : Hid (w91 275 83 = v1 275 83) := Hid.mk (Eq.trans (q90F 275 83 (mNm_fld (by decide))) u75.out)
              have u109 : Hid (w91 275 88 = v1 275 88) := Hid.mk (Eq.trans (q90F 275 88 (mNm_fld (by decide))) u80.out)
              have u110 : Hid (w91 275 94 = v1 275 94 + 1) := Hid.mk (Eq.trans q90v5.out (by omega))
              have f111 : e_fr (mStm (w 275 78) (w 275 79) (w 275 80) (w 275 94)) w w91 := e_fr.trans f82 (fun c k g => q90o.out c k (fun g2 => g (by unfold mStm; omega)))
              have c112 := cSt.nm c83 q90F
              have g113 : Hid (v1 275 88 = 0 → GA w91 N (v1 275 78 + 1) (v1 275 94 + 1) (v1 275 79) (v1 275 80) (fun p => P p ∨ p = -2 - 2 * (v1 275 94)) (w 275 81) OW O) := Hid.mk (fun z => (GA.note (g84.out (by omega)) q90o.out (by unfold nmO; rw [q90v1.out, q90v2.out, q90v3.out, q90v4.out]; exact ⟨by omega, by omega, fun _ => by omega⟩) (by rw [q90v1.out]; decide) (by omega)))
              have cf116 : Hid (w91 341 (v1 275 94) = 2) := Hid.mk (q90v1.out)
              have cf117 : Hid (w91 344 (v1 275 94) = 0) := Hid.mk (q90v4.out)
              have u118 : Hid (w88 275 78 = v1 275 78 + 1) := Hid.mk (Eq.trans (q90 275 78 (mTq_fld (by decide))) u93.out)
              have u119 : Hid (w88 275 79 = v1 275 79) := Hid.mk (Eq.trans (q90 275 79 (mTq_fld (by decide))) u94.out)
              have u120 : Hid (w88 275 80 = v1 275 80) := Hid.mk (Eq.trans (q90 275 80 (mTq_fld (by decide))) u95.out)
              have u121 : Hid (w88 275 81 = w 275 81) := Hid.mk (Eq.trans (q90 275 81 (mTq_fld (by decide))) u101.out)
              have u122 : Hid (w88 275 82 = w 275 82) := Hid.mk (Eq.trans (q90 275 82 (mTq_fld (by decide))) u103.out)
              have u123 : Hid (w88 275 83 = v1 275 83) := Hid.mk (Eq.trans (q90 275 83 (mTq_fld (by decide))) u104.out)
              have u124 : Hid (w88 275 88 = v1 275 88) := Hid.mk (Eq.trans (q90 275 88 (mTq_fld (by decide))) u109.out)
              have u125 : Hid (w88 275 94 = v1 275 94 + 1) := Hid.mk (Eq.trans (q90 275 94 (mTq_fld (by decide))) u110.out)
              have c126 := cSt.tk c112 q90 q90s
              have t127 := tkS.lin c126.2.2.2.1
              have f128 : e_fr (mStm (w 275 78) (w 275 79) (w 275 80) (w 275 94)) w w88 := e_fr.trans f111 (e_fr.mono q90 (fun c k g => mTq_St g))
              have g129 : Hid (v1 275 88 = 0 → GA w88 N (v1 275 78 + 1) (v1 275 94 + 1) (v1 275 79) (v1 275 80) (fun p => P p ∨ p = -2 - 2 * (v1 275 94)) (w 275 81) OW O) := Hid.mk (fun z => GA.pr (g113.out z) (prE.tk q90))
              have cf132 : Hid (w88 341 (v1 275 94) = 2) := Hid.mk (Eq.trans (q90 341 (v1 275 94) (mTq_not (by decide))) cf116.out)
              have cf133 : Hid (w88 344 (v1 275 94) = 0) := Hid.mk (Eq.trans (q90 344 (v1 275 94) (mTq_not (by decide))) cf117.out)
              refine e_Ok.run (t' := (38, [(1, (0, v1 275 94)), (0, (1, 275))], [(0, 61), (1, 275), (1, 275)], w88)) 3 rfl ?_
              refine e_Ok.callV rfl (Nat.le_trans (by decide) hdq) rfl rfl rfl rfl (c_331 c126.1 (N := N) c126.2.2.2.1) (fun r134 w135 h136 => ?_)
              obtain ⟨z137, rfl, rfl, q138⟩ := h136
              obtain ⟨rfl, q138, q138b⟩ | ⟨rfl, q138n⟩ := q138
              · show e_Ok 20 elay ecode eI (d + 1) 348 (41, [(1, (0, v1 275 94)), (0, (1, 275))], [(0, 1), (1, 275)], w88) _
                refine e_Ok.callV rfl (Nat.le_trans (by decide) hdq) rfl rfl rfl rfl (c_334 (Nat.le_trans (by decide) hdq) c126.1 c126.2.1 c126.2.2.1 hNr c126.2.2.2.1 (by decide)) (fun r139 w140 h141 => ?_)
                obtain ⟨rfl, q142⟩ := h141
                obtain ⟨rfl, q142z⟩ | ⟨q142z, q142b, q142, q142s, q142t⟩ | ⟨q142z, q142b, q142, q142T, q142H, q142r⟩ := q142
                · rw [u124.out] at q142z; exact absurd q142z (by omega)
                · show e_Ok 20 elay ecode eI (d + 1) 348 (44, [(1, (0, v1 275 94)), (0, (1, 275))], [], w140) _
                  rw [u124.out] at q142z
                  have p143 := tkS.pos c126.2.2.2.1 (by omega)
                  have u144 : Hid (w140 275 78 = v1 275 78 + 1) := Hid.mk (Eq.trans (q142 275 78 (mTq_fld (by decide))) u118.out)
                  have u145 : Hid (w140 275 79 = v1 275 79) := Hid.mk (Eq.trans (q142 275 79 (mTq_fld (by decide))) u119.out)
                  have u146 : Hid (w140 275 80 = v1 275 80) := Hid.mk (Eq.trans (q142 275 80 (mTq_fld (by decide))) u120.out)
                  have u147 : Hid (w140 275 81 = w 275 81) := Hid.mk (Eq.trans (q142 275 81 (mTq_fld (by decide))) u121.out)
                  have u148 : Hid (w140 275 82 = w 275 82) := Hid.mk (Eq.trans (q142 275 82 (mTq_fld (by decide))) u122.out)
                  have u149 : Hid (w140 275 83 = v1 275 83) := Hid.mk (Eq.trans (q142 275 83 (mTq_fld (by decide))) u123.out)
                  have u150 : Hid (w140 275 88 = v1 275 88) := Hid.mk (Eq.trans (q142 275 88 (mTq_fld (by decide))) u124.out)
                  have u151 : Hid (w140 275 94 = v1 275 94 + 1) := Hid.mk (Eq.trans (q142 275 94 (mTq_fld (by decide))) u125.out)
                  have c152 := cSt.tk c126 q142 q142s
                  have t153 := tkS.lin c152.2.2.2.1
                  have f154 : e_fr (mStm (w 275 78) (w 275 79) (w 275 80) (w 275 94)) w w140 := e_fr.trans f128 (e_fr.mono q142 (fun c k g => mTq_St g))
                  have g155 : Hid (v1 275 88 = 0 → GA w140 N (v1 275 78 + 1) (v1 275 94 + 1) (v1 275 79) (v1 275 80) (fun p => P p ∨ p = -2 - 2 * (v1 275 94)) (w 275 81) OW O) := Hid.mk (fun z => GA.pr (g129.out z) (prE.tk q142))
                  have cf158 : Hid (w140 341 (v1 275 94) = 2) := Hid.mk (Eq.trans (q142 341 (v1 275 94) (mTq_not (by decide))) cf132.out)
                  have cf159 : Hid (w140 344 (v1 275 94) = 0) := Hid.mk (Eq.trans (q142 344 (v1 275 94) (mTq_not (by decide))) cf133.out)
                  refine e_Ok.run (t' := (45, [(1, (0, v1 275 94)), (0, (1, 275))], [(1, 275)], w140)) 1 rfl ?_
                  refine e_Ok.callV rfl (Nat.le_trans (by decide) hdq) rfl rfl rfl rfl (c_exp (o := v1 275 83) (Nat.le_trans (by decide) hdq) (by omega) w140 N (v1 275 79) (w 275 81) (0) (enc (fun p => P p ∨ p = -2 - 2 * (v1 275 94)) (v1 275 78 + 1) (v1 275 94 + 1)) c152 hNr (by rw [u150.out] <;> omega) u149.out u147.out (by rw [u144.out, u151.out] <;> omega) (by rw [u144.out, u151.out] <;> exact GS.wf (GA.gs (g155.out (by omega)))) (by omega)) (fun r160 w161 h162 => ?_)
                  obtain ⟨rfl, q163F, q163c, q163l, q163w⟩ := h162
                  unfold cLn at q163l
                  rw [u144.out, u149.out, u151.out] at q163l
                  rw [u144.out, u151.out] at q163F
                  obtain ⟨q1631, q1632, q1633, q1634, q1635, q1636, q1637, q1638, q1639⟩ := q163l
                  replace q163w := (show Hid _ from q163w)
                  have u164 : Hid (w161 275 79 = v1 275 79) := Hid.mk (Eq.trans (q163F 275 79 (mEx_fld (by decide))) u145.out)
                  have u165 : Hid (w161 275 80 = v1 275 80) := Hid.mk (Eq.trans (q163F 275 80 (mEx_fld (by decide))) u146.out)
                  have u166 : Hid (w161 275 81 = w 275 81) := Hid.mk (Eq.trans (q163F 275 81 (mEx_fld (by decide))) u147.out)
                  have u167 : Hid (w161 275 82 = w 275 82) := Hid.mk (Eq.trans (q163F 275 82 (mEx_fld (by decide))) u148.out)
                  have t168 := tkS.lin q163c.2.2.2.1
                  have t169 := e_Has.get q163c.2.1 (c := 275) (k := 88) (lo := 0) (hi := 7) rfl (by decide)
                  have f170 : e_fr (mStm (w 275 78) (w 275 79) (w 275 80) (w 275 94)) w w161 := e_fr.trans f154 (e_fr.mono q163F (fun c k g => mEx_St (by omega) (by omega) g))
                  have q163x : Hid (w161 275 88 = 0 → GS w161 N (w161 275 78) (w161 275 94) (v1 275 79) (v1 275 80) (fun p => P p ∨ p = -2 - 2 * (v1 275 94)) (w 275 81) OW O (0 + 1) ∧ (∀ p, v1 275 78 + 1 ≤ p → p < w161 275 78 → w161 330 (p + 40000) = w 275 81) ∧ dp w161 (v1 275 78 + 1) = 0 ∧ ((0 : Int) ≠ 0 + 1 → v1 275 78 + 1 < w161 275 78)) := Hid.mk (fun z => GS.ex (GA.gs (g155.out (by omega))) q163F (by omega) (by omega) (q163w.out z))
                  have g171 : Hid (w161 275 88 = 0 → GS w161 N (w161 275 78) (w161 275 94) (v1 275 79) (v1 275 80) (fun p => P p ∨ p = -2 - 2 * (v1 275 94)) (w 275 81) OW O (0 + 1)) := Hid.mk (fun z => (q163x.out z).1)
                  have cf174 : Hid (w161 341 (v1 275 94) = 2) := Hid.mk (Eq.trans (q163F 341 (v1 275 94) (mEx_nm (by decide) (by omega))) cf158.out)
                  have cf175 : Hid (w161 344 (v1 275 94) = 0) := Hid.mk (Eq.trans (q163F 344 (v1 275 94) (mEx_nm (by decide) (by omega))) cf159.out)
                  show e_Ok 20 elay ecode eI (d + 1) 348 (48, [(1, (0, v1 275 94)), (0, (1, 275))], [], w161) _
                  refine e_Ok.run (t' := (52, [(1, (0, v1 275 94)), (0, (1, 275))], [(0, 59), (1, 275), (1, 275)], w161)) 3 rfl ?_
                  refine e_Ok.callV rfl (Nat.le_trans (by decide) hdq) rfl rfl rfl rfl (c_331 q163c.1 (N := N) q163c.2.2.2.1) (fun r176 w177 h178 => ?_)
                  obtain ⟨z179, rfl, rfl, q180⟩ := h178
                  obtain ⟨rfl, q180, q180b⟩ | ⟨rfl, q180n⟩ := q180
                  · show e_Ok 20 elay ecode eI (d + 1) 348 (55, [(1, (0, v1 275 94)), (0, (1, 275))], [(0, 1), (1, 275)], w161) _
                    refine e_Ok.callV rfl (Nat.le_trans (by decide) hdq) rfl rfl rfl rfl (c_334 (Nat.le_trans (by decide) hdq) q163c.1 q163c.2.1 q163c.2.2.1 hNr q163c.2.2.2.1 (by decide)) (fun r181 w182 h183 => ?_)
                    obtain ⟨rfl, q184⟩ := h183
                    obtain ⟨rfl, q184z⟩ | ⟨q184z, q184b, q184, q184s, q184t⟩ | ⟨q184z, q184b, q184, q184T, q184H, q184r⟩ := q184
                    · show e_Ok 20 elay ecode eI (d + 1) 348 (58, [(1, (0, v1 275 94)), (0, (1, 275))], [], w161) _
                      clear q1633
                      clear q1639
                      refine e_Ok.run (t' := (59, [(1, (0, v1 275 94)), (0, (1, 275))], [(1, 275)], w161)) 1 rfl ?_
                      refine e_Ok.getr (z := 344) rfl (el_o rfl) rfl rfl ((f170 275 93 (by unfold mStm; omega)).trans (e_Has.eq hc.1 rfl)) (by omega) ?_
                      refine e_Ok.run (t' := (67, [(1, (0, v1 275 94)), (0, (1, 275))], [(0, 0), (0, 31), (1, 275), (0, v1 275 94), (1, 344)], w161)) 4 rfl ?_
                      refine e_Ok.callV rfl (Nat.le_trans (by decide) hdq) rfl rfl rfl rfl (c_336 q163c.1 (n := w161 275 78) rfl (by omega) (s := w 275 81) u166.out (by omega)) (fun r185 w186 h187 => ?_)
                      obtain ⟨rfl, q188⟩ := h187
                      replace q188 := (show Hid (EM w161 w186 (w161 275 78) 31 (0) (w 275 81)) from q188)
                      have u189 : Hid (w186 275 78 = w161 275 78 + 1) := Hid.mk (Eq.trans q188.out.2.2.2.2 (by omega))
                      have u190 : Hid (w186 275 79 = v1 275 79) := Hid.mk (Eq.trans (q188.out.fld (by decide)) u164.out)
                      have u191 : Hid (w186 275 80 = v1 275 80) := Hid.mk (Eq.trans (q188.out.fld (by decide)) u165.out)
                      have u192 : Hid (w186 275 81 = w 275 81) := Hid.mk (Eq.trans (q188.out.fld (by decide)) u166.out)
                      have u193 : Hid (w186 275 82 = w 275 82) := Hid.mk (Eq.trans (q188.out.fld (by decide)) u167.out)
                      have u194 : Hid (w186 275 83 = w161 275 83) := Hid.mk (q188.out.fld (by decide))
                      have u197 : Hid (w186 275 86 = w161 275 86) := Hid.mk (q188.out.fld (by decide))
                      have u199 : Hid (w186 275 88 = w161 275 88) := Hid.mk (q188.out.fld (by decide))
                      have u200 : Hid (w186 275 94 = w161 275 94) := Hid.mk (q188.out.fld (by decide))
                      have f201 : e_fr (mStm (w 275 78) (w 275 79) (w 275 80) (w 275 94)) w w186 := e_fr.trans f170 (q188.out.st (by omega))
                      have c202 := cSt.em q163c q188.out (by decide) (by omega) (by omega)
                      show e_Ok 20 elay ecode eI (d + 1) 348 (70, [(1, (0, v1 275 94)), (0, (1, 275))], [(0, w161 275 78), (0, v1 275 94), (1, 344)], w186) _
                      refine e_Ok.ast rfl (el_o rfl) rfl rfl (by omega) ?_
                      generalize hw203 : e_up w186 344 (v1 275 94) (w161 275 78) = w203
                      have f204 : e_fr (mStm (w 275 78) (w 275 79) (w 275 80) (w 275 94)) w w203 := e_fr.up f201 hw203 (by unfold mStm; omega)
                      have u205 : Hid (w203 275 78 = w161 275 78 + 1) := Hid.mk (Eq.trans (by rw [← hw203]; exact e_up_ne _ _ (Or.inl (by decide))) u189.out)
                      have u206 : Hid (w203 275 79 = v1 275 79) := Hid.mk (Eq.trans (by rw [← hw203]; exact e_up_ne _ _ (Or.inl (by decide))) u190.out)
                      have u207 : Hid (w203 275 80 = v1 275 80) := Hid.mk (Eq.trans (by rw [← hw203]; exact e_up_ne _ _ (Or.inl (by decide))) u191.out)
                      have u208 : Hid (w203 275 81 = w 275 81) := Hid.mk (Eq.trans (by rw [← hw203]; exact e_up_ne _ _ (Or.inl (by decide))) u192.out)
                      have u209 : Hid (w203 275 82 = w 275 82) := Hid.mk (Eq.trans (by rw [← hw203]; exact e_up_ne _ _ (Or.inl (by decide))) u193.out)
                      have u210 : Hid (w203 275 83 = w161 275 83) := Hid.mk (Eq.trans (by rw [← hw203]; exact e_up_ne _ _ (Or.inl (by decide))) u194.out)
                      have u213 : Hid (w203 275 86 = w161 275 86) := Hid.mk (Eq.trans (by rw [← hw203]; exact e_up_ne _ _ (Or.inl (by decide))) u197.out)
                      have u215 : Hid (w203 275 88 = w161 275 88) := Hid.mk (Eq.trans (by rw [← hw203]; exact e_up_ne _ _ (Or.inl (by decide))) u199.out)
                      have u216 : Hid (w203 275 94 = w161 275 94) := Hid.mk (Eq.trans (by rw [← hw203]; exact e_up_ne _ _ (Or.inl (by decide))) u200.out)
                      have c217 := cSt.wr c202 hw203 (Or.inr rfl) (by omega) rfl (fun y => absurd y (by decide))
                      refine e_Ok.run (t' := (0, [(1, (0, v1 275 94)), (0, (1, 275))], [], w203)) 1 rfl ?_
                      refine e_Ok.sub eAlk (e_sub_of rfl ?_) (ih2  w203 ⟨f204, c217, (by unfold stL; rw [u205.out, u206.out, u207.out, u208.out, u209.out, u210.out, u213.out, u215.out, u216.out]; omega), (Hid.mk (fun z => by rw [u215.out] at z; exact absurd z (by omega))), (by rw [u213.out, u215.out] <;> omega)⟩ ((by rw [u213.out, u215.out] <;> omega)))
                      exact ⟨rfl, trivial⟩
                    · show e_Ok 20 elay ecode eI (d + 1) 348 (58, [(1, (0, v1 275 94)), (0, (1, 275))], [], w182) _
                      replace q1633 := q1633 (by omega)
                      replace q1639 := q1639 (by omega)
                      have p218 := tkS.pos q163c.2.2.2.1 (by omega)
                      have u219 : Hid (w182 275 78 = w161 275 78) := Hid.mk (q184 275 78 (mTq_fld (by decide)))
                      have u220 : Hid (w182 275 79 = v1 275 79) := Hid.mk (Eq.trans (q184 275 79 (mTq_fld (by decide))) u164.out)
                      have u221 : Hid (w182 275 80 = v1 275 80) := Hid.mk (Eq.trans (q184 275 80 (mTq_fld (by decide))) u165.out)
                      have u222 : Hid (w182 275 81 = w 275 81) := Hid.mk (Eq.trans (q184 275 81 (mTq_fld (by decide))) u166.out)
                      have u223 : Hid (w182 275 82 = w 275 82) := Hid.mk (Eq.trans (q184 275 82 (mTq_fld (by decide))) u167.out)
                      have u224 : Hid (w182 275 83 = w161 275 83) := Hid.mk (q184 275 83 (mTq_fld (by decide)))
                      have u225 : Hid (w182 275 88 = w161 275 88) := Hid.mk (q184 275 88 (mTq_fld (by decide)))
                      have u226 : Hid (w182 275 94 = w161 275 94) := Hid.mk (q184 275 94 (mTq_fld (by decide)))
                      have c227 := cSt.tk q163c q184 q184s
                      have t228 := tkS.lin c227.2.2.2.1
                      have f229 : e_fr (mStm (w 275 78) (w 275 79) (w 275 80) (w 275 94)) w w182 := e_fr.trans f170 (e_fr.mono q184 (fun c k g => mTq_St g))
                      have g230 : Hid (w161 275 88 = 0 → GS w182 N (w161 275 78) (w161 275 94) (v1 275 79) (v1 275 80) (fun p => P p ∨ p = -2 - 2 * (v1 275 94)) (w 275 81) OW O (0 + 1)) := Hid.mk (fun z => GS.pr (g171.out z) (prE.tk q184))
                      have cf233 : Hid (w182 341 (v1 275 94) = 2) := Hid.mk (Eq.trans (q184 341 (v1 275 94) (mTq_not (by decide))) cf174.out)
                      have cf234 : Hid (w182 344 (v1 275 94) = 0) := Hid.mk (Eq.trans (q184 344 (v1 275 94) (mTq_not (by decide))) cf175.out)
                      refine e_Ok.run (t' := (59, [(1, (0, v1 275 94)), (0, (1, 275))], [(1, 275)], w182)) 1 rfl ?_
                      refine e_Ok.getr (z := 344) rfl (el_o rfl) rfl rfl ((f229 275 93 (by unfold mStm; omega)).trans (e_Has.eq hc.1 rfl)) (by omega) ?_
                      refine e_Ok.run (t' := (67, [(1, (0, v1 275 94)), (0, (1, 275))], [(0, 0), (0, 31), (1, 275), (0, v1 275 94), (1, 344)], w182)) 4 rfl ?_
                      refine e_Ok.callV rfl (Nat.le_trans (by decide) hdq) rfl rfl rfl rfl (c_336 c227.1 (n := w161 275 78) u219.out (by omega) (s := w 275 81) u222.out (by omega)) (fun r235 w236 h237 => ?_)
                      obtain ⟨rfl, q238⟩ := h237
                      replace q238 := (show Hid (EM w182 w236 (w161 275 78) 31 (0) (w 275 81)) from q238)
                      have u239 : Hid (w236 275 78 = w161 275 78 + 1) := Hid.mk (Eq.trans q238.out.2.2.2.2 (by omega))
                      have u240 : Hid (w236 275 79 = v1 275 79) := Hid.mk (Eq.trans (q238.out.fld (by decide)) u220.out)
                      have u241 : Hid (w236 275 80 = v1 275 80) := Hid.mk (Eq.trans (q238.out.fld (by decide)) u221.out)
                      have u242 : Hid (w236 275 81 = w 275 81) := Hid.mk (Eq.trans (q238.out.fld (by decide)) u222.out)
                      have u243 : Hid (w236 275 82 = w 275 82) := Hid.mk (Eq.trans (q238.out.fld (by decide)) u223.out)
                      have u244 : Hid (w236 275 83 = w161 275 83) := Hid.mk (Eq.trans (q238.out.fld (by decide)) u224.out)
                      have u247 : Hid (w236 275 86 = w182 275 86) := Hid.mk (q238.out.fld (by decide))
                      have u249 : Hid (w236 275 88 = w161 275 88) := Hid.mk (Eq.trans (q238.out.fld (by decide)) u225.out)
                      have u250 : Hid (w236 275 94 = w161 275 94) := Hid.mk (Eq.trans (q238.out.fld (by decide)) u226.out)
                      have f251 : e_fr (mStm (w 275 78) (w 275 79) (w 275 80) (w 275 94)) w w236 := e_fr.trans f229 (q238.out.st (by omega))
                      have c252 := cSt.em c227 q238.out (by decide) (by omega) (by omega)
                      show e_Ok 20 elay ecode eI (d + 1) 348 (70, [(1, (0, v1 275 94)), (0, (1, 275))], [(0, w161 275 78), (0, v1 275 94), (1, 344)], w236) _
                      refine e_Ok.ast rfl (el_o rfl) rfl rfl (by omega) ?_
                      generalize hw257 : e_up w236 344 (v1 275 94) (w161 275 78) = w257
                      have f258 : e_fr (mStm (w 275 78) (w 275 79) (w 275 80) (w 275 94)) w w257 := e_fr.up f251 hw257 (by unfold mStm; omega)
                      have u259 : Hid (w257 275 78 = w161 275 78 + 1) := Hid.mk (Eq.trans (by rw [← hw257]; exact e_up_ne _ _ (Or.inl (by decide))) u239.out)
                      have u260 : Hid (w257 275 79 = v1 275 79) := Hid.mk (Eq.trans (by rw [← hw257]; exact e_up_ne _ _ (Or.inl (by decide))) u240.out)
                      have u261 : Hid (w257 275 80 = v1 275 80) := Hid.mk (Eq.trans (by rw [← hw257]; exact e_up_ne _ _ (Or.inl (by decide))) u241.out)
                      have u262 : Hid (w257 275 81 = w 275 81) := Hid.mk (Eq.trans (by rw [← hw257]; exact e_up_ne _ _ (Or.inl (by decide))) u242.out)
                      have u263 : Hid (w257 275 82 = w 275 82) := Hid.mk (Eq.trans (by rw [← hw257]; exact e_up_ne _ _ (Or.inl (by decide))) u243.out)
                      have u264 : Hid (w257 275 83 = w161 275 83) := Hid.mk (Eq.trans (by rw [← hw257]; exact e_up_ne _ _ (Or.inl (by decide))) u244.out)
                      have u267 : Hid (w257 275 86 = w182 275 86) := Hid.mk (Eq.trans (by rw [← hw257]; exact e_up_ne _ _ (Or.inl (by decide))) u247.out)
                      have u269 : Hid (w257 275 88 = w161 275 88) := Hid.mk (Eq.trans (by rw [← hw257]; exact e_up_ne _ _ (Or.inl (by decide))) u249.out)
                      have u270 : Hid (w257 275 94 = w161 275 94) := Hid.mk (Eq.trans (by rw [← hw257]; exact e_up_ne _ _ (Or.inl (by decide))) u250.out)
                      have c271 := cSt.wr c252 hw257 (Or.inr rfl) (by omega) rfl (fun y => absurd y (by decide))
                      have g272 : Hid (w161 275 88 = 0 → GB w257 N (w161 275 78 + 1) (w161 275 94) (v1 275 79) (v1 275 80) P (w 275 81) OW O) := Hid.mk (fun z => (GS.store (GS.re (g230.out (by omega)) rfl rfl rfl rfl rfl (show _ = 1 from by omega)) q238.out hw257 (by omega) cf233.out cf234.out))
                      refine e_Ok.run (t' := (0, [(1, (0, v1 275 94)), (0, (1, 275))], [], w257)) 1 rfl ?_
                      refine e_Ok.sub eAlk (e_sub_of rfl ?_) (ih2  w257 ⟨f258, c271, (by unfold stL; rw [u259.out, u260.out, u261.out, u262.out, u263.out, u264.out, u267.out, u269.out, u270.out]; omega), (Hid.mk (fun z => by rw [u269.out] at z; rw [u259.out, u270.out, u260.out, u261.out, u262.out]; exact (g272.out (by omega)))), (by rw [u267.out, u269.out] <;> omega)⟩ ((by rw [u267.out, u269.out] <;> omega)))
                      exact ⟨rfl, trivial⟩
                    · exact absurd q184b (by decide)
                  · show e_Ok 20 elay ecode eI (d + 1) 348 (55, [(1, (0, v1 275 94)), (0, (1, 275))], [(0, 0), (1, 275)], w161) _
                    clear q180n
                    refine e_Ok.callV rfl (Nat.le_trans (by decide) hdq) rfl rfl rfl rfl (c_334 (Nat.le_trans (by decide) hdq) q163c.1 q163c.2.1 q163c.2.2.1 hNr q163c.2.2.2.1 (by decide)) (fun r273 w274 h275 => ?_)
                    obtain ⟨rfl, q276⟩ := h275
                    obtain ⟨rfl, q276z⟩ | ⟨q276z, q276b, q276, q276s, q276t⟩ | ⟨q276z, q276b, q276, q276T, q276H, q276r⟩ := q276
                    · show e_Ok 20 elay ecode eI (d + 1) 348 (58, [(1, (0, v1 275 94)), (0, (1, 275))], [], w161) _
                      clear q1633
                      clear q1639
                      refine e_Ok.run (t' := (59, [(1, (0, v1 275 94)), (0, (1, 275))], [(1, 275)], w161)) 1 rfl ?_
                      refine e_Ok.getr (z := 344) rfl (el_o rfl) rfl rfl ((f170 275 93 (by unfold mStm; omega)).trans (e_Has.eq hc.1 rfl)) (by omega) ?_
                      refine e_Ok.run (t' := (67, [(1, (0, v1 275 94)), (0, (1, 275))], [(0, 0), (0, 31), (1, 275), (0, v1 275 94), (1, 344)], w161)) 4 rfl ?_
                      refine e_Ok.callV rfl (Nat.le_trans (by decide) hdq) rfl rfl rfl rfl (c_336 q163c.1 (n := w161 275 78) rfl (by omega) (s := w 275 81) u166.out (by omega)) (fun r277 w278 h279 => ?_)
                      obtain ⟨rfl, q280⟩ := h279
                      replace q280 := (show Hid (EM w161 w278 (w161 275 78) 31 (0) (w 275 81)) from q280)
                      have u281 : Hid (w278 275 78 = w161 275 78 + 1) := Hid.mk (Eq.trans q280.out.2.2.2.2 (by omega))
                      have u282 : Hid (w278 275 79 = v1 275 79) := Hid.mk (Eq.trans (q280.out.fld (by decide)) u164.out)
                      have u283 : Hid (w278 275 80 = v1 275 80) := Hid.mk (Eq.trans (q280.out.fld (by decide)) u165.out)
                      have u284 : Hid (w278 275 81 = w 275 81) := Hid.mk (Eq.trans (q280.out.fld (by decide)) u166.out)
                      have u285 : Hid (w278 275 82 = w 275 82) := Hid.mk (Eq.trans (q280.out.fld (by decide)) u167.out)
                      have u286 : Hid (w278 275 83 = w161 275 83) := Hid.mk (q280.out.fld (by decide))
                      have u289 : Hid (w278 275 86 = w161 275 86) := Hid.mk (q280.out.fld (by decide))
                      have u291 : Hid (w278 275 88 = w161 275 88) := Hid.mk (q280.out.fld (by decide))
                      have u292 : Hid (w278 275 94 = w161 275 94) := Hid.mk (q280.out.fld (by decide))
                      have f293 : e_fr (mStm (w 275 78) (w 275 79) (w 275 80) (w 275 94)) w w278 := e_fr.trans f170 (q280.out.st (by omega))
                      have c294 := cSt.em q163c q280.out (by decide) (by omega) (by omega)
                      show e_Ok 20 elay ecode eI (d + 1) 348 (70, [(1, (0, v1 275 94)), (0, (1, 275))], [(0, w161 275 78), (0, v1 275 94), (1, 344)], w278) _
                      refine e_Ok.ast rfl (el_o rfl) rfl rfl (by omega) ?_
                      generalize hw295 : e_up w278 344 (v1 275 94) (w161 275 78) = w295
                      have f296 : e_fr (mStm (w 275 78) (w 275 79) (w 275 80) (w 275 94)) w w295 := e_fr.up f293 hw295 (by unfold mStm; omega)
                      have u297 : Hid (w295 275 78 = w161 275 78 + 1) := Hid.mk (Eq.trans (by rw [← hw295]; exact e_up_ne _ _ (Or.inl (by decide))) u281.out)
                      have u298 : Hid (w295 275 79 = v1 275 79) := Hid.mk (Eq.trans (by rw [← hw295]; exact e_up_ne _ _ (Or.inl (by decide))) u282.out)
                      have u299 : Hid (w295 275 80 = v1 275 80) := Hid.mk (Eq.trans (by rw [← hw295]; exact e_up_ne _ _ (Or.inl (by decide))) u283.out)
                      have u300 : Hid (w295 275 81 = w 275 81) := Hid.mk (Eq.trans (by rw [← hw295]; exact e_up_ne _ _ (Or.inl (by decide))) u284.out)
                      have u301 : Hid (w295 275 82 = w 275 82) := Hid.mk (Eq.trans (by rw [← hw295]; exact e_up_ne _ _ (Or.inl (by decide))) u285.out)
                      have u302 : Hid (w295 275 83 = w161 275 83) := Hid.mk (Eq.trans (by rw [← hw295]; exact e_up_ne _ _ (Or.inl (by decide))) u286.out)
                      have u305 : Hid (w295 275 86 = w161 275 86) := Hid.mk (Eq.trans (by rw [← hw295]; exact e_up_ne _ _ (Or.inl (by decide))) u289.out)
                      have u307 : Hid (w295 275 88 = w161 275 88) := Hid.mk (Eq.trans (by rw [← hw295]; exact e_up_ne _ _ (Or.inl (by decide))) u291.out)
                      have u308 : Hid (w295 275 94 = w161 275 94) := Hid.mk (Eq.trans (by rw [← hw295]; exact e_up_ne _ _ (Or.inl (by decide))) u292.out)
                      have c309 := cSt.wr c294 hw295 (Or.inr rfl) (by omega) rfl (fun y => absurd y (by decide))
                      refine e_Ok.run (t' := (0, [(1, (0, v1 275 94)), (0, (1, 275))], [], w295)) 1 rfl ?_
                      refine e_Ok.sub eAlk (e_sub_of rfl ?_) (ih2  w295 ⟨f296, c309, (by unfold stL; rw [u297.out, u298.out, u299.out, u300.out, u301.out, u302.out, u305.out, u307.out, u308.out]; omega), (Hid.mk (fun z => by rw [u307.out] at z; exact absurd z (by omega))), (by rw [u305.out, u307.out] <;> omega)⟩ ((by rw [u305.out, u307.out] <;> omega)))
                      exact ⟨rfl, trivial⟩
                    · exact absurd q276b (by decide)
                    · show e_Ok 20 elay ecode eI (d + 1) 348 (58, [(1, (0, v1 275 94)), (0, (1, 275))], [], w274) _
                      replace q1633 := q1633 (by omega)
                      replace q1639 := q1639 (by omega)
                      have u310 : Hid (w274 275 78 = w161 275 78) := Hid.mk (q276 275 78 (mRf_fld (by decide)))
                      have u311 : Hid (w274 275 79 = v1 275 79) := Hid.mk (Eq.trans (q276 275 79 (mRf_fld (by decide))) u164.out)
                      have u312 : Hid (w274 275 80 = v1 275 80) := Hid.mk (Eq.trans (q276 275 80 (mRf_fld (by decide))) u165.out)
                      have u313 : Hid (w274 275 81 = w 275 81) := Hid.mk (Eq.trans (q276 275 81 (mRf_fld (by decide))) u166.out)
                      have u314 : Hid (w274 275 82 = w 275 82) := Hid.mk (Eq.trans (q276 275 82 (mRf_fld (by decide))) u167.out)
                      have u315 : Hid (w274 275 83 = w161 275 83) := Hid.mk (q276 275 83 (mRf_fld (by decide)))
                      have u318 : Hid (w274 275 86 = w161 275 86) := Hid.mk (q276 275 86 (mRf_fld (by decide)))
                      have u320 : Hid (w274 275 94 = w161 275 94) := Hid.mk (q276 275 94 (mRf_fld (by decide)))
                      have c321 := cSt.rf q163c q276 q276T q276H
                      have f322 : e_fr (mStm (w 275 78) (w 275 79) (w 275 80) (w 275 94)) w w274 := e_fr.trans f170 (e_fr.mono q276 (fun c k g => mRf_St g))
                      refine e_Ok.run (t' := (59, [(1, (0, v1 275 94)), (0, (1, 275))], [(1, 275)], w274)) 1 rfl ?_
                      refine e_Ok.getr (z := 344) rfl (el_o rfl) rfl rfl ((f322 275 93 (by unfold mStm; omega)).trans (e_Has.eq hc.1 rfl)) (by omega) ?_
                      refine e_Ok.run (t' := (67, [(1, (0, v1 275 94)), (0, (1, 275))], [(0, 0), (0, 31), (1, 275), (0, v1 275 94), (1, 344)], w274)) 4 rfl ?_
                      refine e_Ok.callV rfl (Nat.le_trans (by decide) hdq) rfl rfl rfl rfl (c_336 c321.1 (n := w161 275 78) u310.out (by omega) (s := w 275 81) u313.out (by omega)) (fun r323 w324 h325 => ?_)
                      obtain ⟨rfl, q326⟩ := h325
                      replace q326 := (show Hid (EM w274 w324 (w161 275 78) 31 (0) (w 275 81)) from q326)
                      have u327 : Hid (w324 275 78 = w161 275 78 + 1) := Hid.mk (Eq.trans q326.out.2.2.2.2 (by omega))
                      have u329 : Hid (w324 275 79 = v1 275 79) := Hid.mk (Eq.trans (q326.out.fld (by decide)) u311.out)
                      have u331 : Hid (w324 275 80 = v1 275 80) := Hid.mk (Eq.trans (q326.out.fld (by decide)) u312.out)
                      have u332 : Hid (w324 275 81 = w 275 81) := Hid.mk (Eq.trans (q326.out.fld (by decide)) u313.out)
                      have u333 : Hid (w324 275 82 = w 275 82) := Hid.mk (Eq.trans (q326.out.fld (by decide)) u314.out)
                      have u334 : Hid (w324 275 83 = w161 275 83) := Hid.mk (Eq.trans (q326.out.fld (by decide)) u315.out)
                      have u337 : Hid (w324 275 86 = w161 275 86) := Hid.mk (Eq.trans (q326.out.fld (by decide)) u318.out)
                      have u340 : Hid (w324 275 88 = w274 275 88) := Hid.mk (q326.out.fld (by decide))
                      have u341 : Hid (w324 275 94 = w161 275 94) := Hid.mk (Eq.trans (q326.out.fld (by decide)) u320.out)
                      have f342 : e_fr (mStm (w 275 78) (w 275 79) (w 275 80) (w 275 94)) w w324 := e_fr.trans f322 (q326.out.st (by omega))
                      have c343 := cSt.em c321 q326.out (by decide) (by omega) (by omega)
                      show e_Ok 20 elay ecode eI (d + 1) 348 (70, [(1, (0, v1 275 94)), (0, (1, 275))], [(0, w161 275 78), (0, v1 275 94), (1, 344)], w324) _
                      refine e_Ok.ast rfl (el_o rfl) rfl rfl (by omega) ?_
                      generalize hw344 : e_up w324 344 (v1 275 94) (w161 275 78) = w344
                      have f345 : e_fr (mStm (w 275 78) (w 275 79) (w 275 80) (w 275 94)) w w344 := e_fr.up f342 hw344 (by unfold mStm; omega)
                      have u346 : Hid (w344 275 78 = w161 275 78 + 1) := Hid.mk (Eq.trans (by rw [← hw344]; exact e_up_ne _ _ (Or.inl (by decide))) u327.out)
                      have u347 : Hid (w344 275 79 = v1 275 79) := Hid.mk (Eq.trans (by rw [← hw344]; exact e_up_ne _ _ (Or.inl (by decide))) u329.out)
                      have u348 : Hid (w344 275 80 = v1 275 80) := Hid.mk (Eq.trans (by rw [← hw344]; exact e_up_ne _ _ (Or.inl (by decide))) u331.out)
                      have u349 : Hid (w344 275 81 = w 275 81) := Hid.mk (Eq.trans (by rw [← hw344]; exact e_up_ne _ _ (Or.inl (by decide))) u332.out)
                      have u350 : Hid (w344 275 82 = w 275 82) := Hid.mk (Eq.trans (by rw [← hw344]; exact e_up_ne _ _ (Or.inl (by decide))) u333.out)
                      have u351 : Hid (w344 275 83 = w161 275 83) := Hid.mk (Eq.trans (by rw [← hw344]; exact e_up_ne _ _ (Or.inl (by decide))) u334.out)
                      have u354 : Hid (w344 275 86 = w161 275 86) := Hid.mk (Eq.trans (by rw [← hw344]; exact e_up_ne _ _ (Or.inl (by decide))) u337.out)
                      have u356 : Hid (w344 275 88 = w274 275 88) := Hid.mk (Eq.trans (by rw [← hw344]; exact e_up_ne _ _ (Or.inl (by decide))) u340.out)
                      have u357 : Hid (w344 275 94 = w161 275 94) := Hid.mk (Eq.trans (by rw [← hw344]; exact e_up_ne _ _ (Or.inl (by decide))) u341.out)
                      have c358 := cSt.wr c343 hw344 (Or.inr rfl) (by omega) rfl (fun y => absurd y (by decide))
                      refine e_Ok.run (t' := (0, [(1, (0, v1 275 94)), (0, (1, 275))], [], w344)) 1 rfl ?_
                      refine e_Ok.sub eAlk (e_sub_of rfl ?_) (ih2  w344 ⟨f345, c358, (by unfold stL; rw [u346.out, u347.out, u348.out, u349.out, u350.out, u351.out, u354.out, u356.out, u357.out]; omega), (Hid.mk (fun z => by rw [u356.out] at z; exact absurd z (by omega))), (by rw [u354.out, u356.out] <;> omega)⟩ ((by rw [u354.out, u356.out] <;> omega)))
                      exact ⟨rfl, trivial⟩
                · exact absurd q142b (by decide)
              · show e_Ok 20 elay ecode eI (d + 1) 348 (41, [(1, (0, v1 275 94)), (0, (1, 275))], [(0, 0), (1, 275)], w88) _
                clear q138n
                refine e_Ok.callV rfl (Nat.le_trans (by decide) hdq) rfl rfl rfl rfl (c_334 (Nat.le_trans (by decide) hdq) c126.1 c126.2.1 c126.2.2.1 hNr c126.2.2.2.1 (by decide)) (fun r359 w360 h361 => ?_)
                obtain ⟨rfl, q362⟩ := h361
                obtain ⟨rfl, q362z⟩ | ⟨q362z, q362b, q362, q362s, q362t⟩ | ⟨q362z, q362b, q362, q362T, q362H, q362r⟩ := q362
                · rw [u124.out] at q362z; exact absurd q362z (by omega)
                · exact absurd q362b (by decide)
                · show e_Ok 20 elay ecode eI (d + 1) 348 (44, [(1, (0, v1 275 94)), (0, (1, 275))], [], w360) _
                  rw [u124.out] at q362z
                  have u363 : Hid (w360 275 78 = v1 275 78 + 1) := Hid.mk (Eq.trans (q362 275 78 (mRf_fld (by decide))) u118.out)
                  have u364 : Hid (w360 275 79 = v1 275 79) := Hid.mk (Eq.trans (q362 275 79 (mRf_fld (by decide))) u119.out)
                  have u365 : Hid (w360 275 80 = v1 275 80) := Hid.mk (Eq.trans (q362 275 80 (mRf_fld (by decide))) u120.out)
                  have u366 : Hid (w360 275 81 = w 275 81) := Hid.mk (Eq.trans (q362 275 81 (mRf_fld (by decide))) u121.out)
                  have u367 : Hid (w360 275 82 = w 275 82) := Hid.mk (Eq.trans (q362 275 82 (mRf_fld (by decide))) u122.out)
                  have u368 : Hid (w360 275 83 = v1 275 83) := Hid.mk (Eq.trans (q362 275 83 (mRf_fld (by decide))) u123.out)
                  have u369 : Hid (w360 275 84 = w88 275 84) := Hid.mk (q362 275 84 (mRf_fld (by decide)))
                  have u370 : Hid (w360 275 85 = w88 275 85) := Hid.mk (q362 275 85 (mRf_fld (by decide)))
                  have u371 : Hid (w360 275 86 = w88 275 86) := Hid.mk (q362 275 86 (mRf_fld (by decide)))
                  have u373 : Hid (w360 275 94 = v1 275 94 + 1) := Hid.mk (Eq.trans (q362 275 94 (mRf_fld (by decide))) u125.out)
                  have c374 := cSt.rf c126 q362 q362T q362H
                  have f375 : e_fr (mStm (w 275 78) (w 275 79) (w 275 80) (w 275 94)) w w360 := e_fr.trans f128 (e_fr.mono q362 (fun c k g => mRf_St g))
                  refine e_Ok.run (t' := (45, [(1, (0, v1 275 94)), (0, (1, 275))], [(1, 275)], w360)) 1 rfl ?_
                  refine e_Ok.callV rfl (Nat.le_trans (by decide) hdq) rfl rfl rfl rfl (c_339_0 (Nat.le_trans (by decide) hdq) c374 (by omega)) (fun r376 w377 h378 => ?_)
                  obtain ⟨rfl, rfl⟩ := h378
                  show e_Ok 20 elay ecode eI (d + 1) 348 (48, [(1, (0, v1 275 94)), (0, (1, 275))], [], w360) _
                  refine e_Ok.run (t' := (52, [(1, (0, v1 275 94)), (0, (1, 275))], [(0, 59), (1, 275), (1, 275)], w360)) 3 rfl ?_
                  refine e_Ok.callV rfl (Nat.le_trans (by decide) hdq) rfl rfl rfl rfl (c_331 c374.1 (N := N) c374.2.2.2.1) (fun r379 w380 h381 => ?_)
                  obtain ⟨z382, rfl, rfl, q383⟩ := h381
                  obtain ⟨rfl, q383, q383b⟩ | ⟨rfl, q383n⟩ := q383
                  · show e_Ok 20 elay ecode eI (d + 1) 348 (55, [(1, (0, v1 275 94)), (0, (1, 275))], [(0, 1), (1, 275)], w360) _
                    rw [u369.out] at q383
                    rw [u370.out] at q383b
                    refine e_Ok.callV rfl (Nat.le_trans (by decide) hdq) rfl rfl rfl rfl (c_334 (Nat.le_trans (by decide) hdq) c374.1 c374.2.1 c374.2.2.1 hNr c374.2.2.2.1 (by decide)) (fun r384 w385 h386 => ?_)
                    obtain ⟨rfl, q387⟩ := h386
                    obtain ⟨rfl, q387z⟩ | ⟨q387z, q387b, q387, q387s, q387t⟩ | ⟨q387z, q387b, q387, q387T, q387H, q387r⟩ := q387
                    · show e_Ok 20 elay ecode eI (d + 1) 348 (58, [(1, (0, v1 275 94)), (0, (1, 275))], [], w360) _
                      refine e_Ok.run (t' := (59, [(1, (0, v1 275 94)), (0, (1, 275))], [(1, 275)], w360)) 1 rfl ?_
                      refine e_Ok.getr (z := 344) rfl (el_o rfl) rfl rfl ((f375 275 93 (by unfold mStm; omega)).trans (e_Has.eq hc.1 rfl)) (by omega) ?_
                      refine e_Ok.run (t' := (67, [(1, (0, v1 275 94)), (0, (1, 275))], [(0, 0), (0, 31), (1, 275), (0, v1 275 94), (1, 344)], w360)) 4 rfl ?_
                      refine e_Ok.callV rfl (Nat.le_trans (by decide) hdq) rfl rfl rfl rfl (c_336 c374.1 (n := v1 275 78 + 1) u363.out (by omega) (s := w 275 81) u366.out (by omega)) (fun r388 w389 h390 => ?_)
                      obtain ⟨rfl, q391⟩ := h390
                      replace q391 := (show Hid (EM w360 w389 (v1 275 78 + 1) 31 (0) (w 275 81)) from q391)
                      have u392 : Hid (w389 275 78 = v1 275 78 + 2) := Hid.mk (Eq.trans q391.out.2.2.2.2 (by omega))
                      have u393 : Hid (w389 275 79 = v1 275 79) := Hid.mk (Eq.trans (q391.out.fld (by decide)) u364.out)
                      have u394 : Hid (w389 275 80 = v1 275 80) := Hid.mk (Eq.trans (q391.out.fld (by decide)) u365.out)
                      have u395 : Hid (w389 275 81 = w 275 81) := Hid.mk (Eq.trans (q391.out.fld (by decide)) u366.out)
                      have u396 : Hid (w389 275 82 = w 275 82) := Hid.mk (Eq.trans (q391.out.fld (by decide)) u367.out)
                      have u397 : Hid (w389 275 83 = v1 275 83) := Hid.mk (Eq.trans (q391.out.fld (by decide)) u368.out)
                      have u400 : Hid (w389 275 86 = w88 275 86) := Hid.mk (Eq.trans (q391.out.fld (by decide)) u371.out)
                      have u402 : Hid (w389 275 88 = w360 275 88) := Hid.mk (q391.out.fld (by decide))
                      have u403 : Hid (w389 275 94 = v1 275 94 + 1) := Hid.mk (Eq.trans (q391.out.fld (by decide)) u373.out)
                      have f404 : e_fr (mStm (w 275 78) (w 275 79) (w 275 80) (w 275 94)) w w389 := e_fr.trans f375 (q391.out.st (by omega))
                      have c405 := cSt.em c374 q391.out (by decide) (by omega) (by omega)
                      show e_Ok 20 elay ecode eI (d + 1) 348 (70, [(1, (0, v1 275 94)), (0, (1, 275))], [(0, v1 275 78 + 1), (0, v1 275 94), (1, 344)], w389) _
                      refine e_Ok.ast rfl (el_o rfl) rfl rfl (by omega) ?_
                      generalize hw406 : e_up w389 344 (v1 275 94) (v1 275 78 + 1) = w406
                      have f407 : e_fr (mStm (w 275 78) (w 275 79) (w 275 80) (w 275 94)) w w406 := e_fr.up f404 hw406 (by unfold mStm; omega)
                      have u408 : Hid (w406 275 78 = v1 275 78 + 2) := Hid.mk (Eq.trans (by rw [← hw406]; exact e_up_ne _ _ (Or.inl (by decide))) u392.out)
                      have u409 : Hid (w406 275 79 = v1 275 79) := Hid.mk (Eq.trans (by rw [← hw406]; exact e_up_ne _ _ (Or.inl (by decide))) u393.out)
                      have u410 : Hid (w406 275 80 = v1 275 80) := Hid.mk (Eq.trans (by rw [← hw406]; exact e_up_ne _ _ (Or.inl (by decide))) u394.out)
                      have u411 : Hid (w406 275 81 = w 275 81) := Hid.mk (Eq.trans (by rw [← hw406]; exact e_up_ne _ _ (Or.inl (by decide))) u395.out)
                      have u412 : Hid (w406 275 82 = w 275 82) := Hid.mk (Eq.trans (by rw [← hw406]; exact e_up_ne _ _ (Or.inl (by decide))) u396.out)
                      have u413 : Hid (w406 275 83 = v1 275 83) := Hid.mk (Eq.trans (by rw [← hw406]; exact e_up_ne _ _ (Or.inl (by decide))) u397.out)
                      have u417 : Hid (w406 275 86 = w88 275 86) := Hid.mk (Eq.trans (by rw [← hw406]; exact e_up_ne _ _ (Or.inl (by decide))) u400.out)
                      have u419 : Hid (w406 275 88 = w360 275 88) := Hid.mk (Eq.trans (by rw [← hw406]; exact e_up_ne _ _ (Or.inl (by decide))) u402.out)
                      have u420 : Hid (w406 275 94 = v1 275 94 + 1) := Hid.mk (Eq.trans (by rw [← hw406]; exact e_up_ne _ _ (Or.inl (by decide))) u403.out)
                      have c421 := cSt.wr c405 hw406 (Or.inr rfl) (by omega) rfl (fun y => absurd y (by decide))
                      refine e_Ok.run (t' := (0, [(1, (0, v1 275 94)), (0, (1, 275))], [], w406)) 1 rfl ?_
                      refine e_Ok.sub eAlk (e_sub_of rfl ?_) (ih2  w406 ⟨f407, c421, (by unfold stL; rw [u408.out, u409.out, u410.out, u411.out, u412.out, u413.out, u417.out, u419.out, u420.out]; omega), (Hid.mk (fun z => by rw [u419.out] at z; exact absurd z (by omega))), (by rw [u417.out, u419.out] <;> omega)⟩ ((by rw [u417.out, u419.out] <;> omega)))
                      exact ⟨rfl, trivial⟩
                    · exact absurd q387z (by omega)
                    · exact absurd q387z (by omega)
                  · show e_Ok 20 elay ecode eI (d + 1) 348 (55, [(1, (0, v1 275 94)), (0, (1, 275))], [(0, 0), (1, 275)], w360) _
                    clear q383n
                    refine e_Ok.callV rfl (Nat.le_trans (by decide) hdq) rfl rfl rfl rfl (c_334 (Nat.le_trans (by decide) hdq) c374.1 c374.2.1 c374.2.2.1 hNr c374.2.2.2.1 (by decide)) (fun r422 w423 h424 => ?_)
                    obtain ⟨rfl, q425⟩ := h424
                    obtain ⟨rfl, q425z⟩ | ⟨q425z, q425b, q425, q425s, q425t⟩ | ⟨q425z, q425b, q425, q425T, q425H, q425r⟩ := q425
                    · show e_Ok 20 elay ecode eI (d + 1) 348 (58, [(1, (0, v1 275 94)), (0, (1, 275))], [], w360) _
                      refine e_Ok.run (t' := (59, [(1, (0, v1 275 94)), (0, (1, 275))], [(1, 275)], w360)) 1 rfl ?_
                      refine e_Ok.getr (z := 344) rfl (el_o rfl) rfl rfl ((f375 275 93 (by unfold mStm; omega)).trans (e_Has.eq hc.1 rfl)) (by omega) ?_
                      refine e_Ok.run (t' := (67, [(1, (0, v1 275 94)), (0, (1, 275))], [(0, 0), (0, 31), (1, 275), (0, v1 275 94), (1, 344)], w360)) 4 rfl ?_
                      refine e_Ok.callV rfl (Nat.le_trans (by decide) hdq) rfl rfl rfl rfl (c_336 c374.1 (n := v1 275 78 + 1) u363.out (by omega) (s := w 275 81) u366.out (by omega)) (fun r426 w427 h428 => ?_)
                      obtain ⟨rfl, q429⟩ := h428
                      replace q429 := (show Hid (EM w360 w427 (v1 275 78 + 1) 31 (0) (w 275 81)) from q429)
                      have u430 : Hid (w427 275 78 = v1 275 78 + 2) := Hid.mk (Eq.trans q429.out.2.2.2.2 (by omega))
                      have u431 : Hid (w427 275 79 = v1 275 79) := Hid.mk (Eq.trans (q429.out.fld (by decide)) u364.out)
                      have u432 : Hid (w427 275 80 = v1 275 80) := Hid.mk (Eq.trans (q429.out.fld (by decide)) u365.out)
                      have u433 : Hid (w427 275 81 = w 275 81) := Hid.mk (Eq.trans (q429.out.fld (by decide)) u366.out)
                      have u434 : Hid (w427 275 82 = w 275 82) := Hid.mk (Eq.trans (q429.out.fld (by decide)) u367.out)
                      have u435 : Hid (w427 275 83 = v1 275 83) := Hid.mk (Eq.trans (q429.out.fld (by decide)) u368.out)
                      have u438 : Hid (w427 275 86 = w88 275 86) := Hid.mk (Eq.trans (q429.out.fld (by decide)) u371.out)
                      have u440 : Hid (w427 275 88 = w360 275 88) := Hid.mk (q429.out.fld (by decide))
                      have u441 : Hid (w427 275 94 = v1 275 94 + 1) := Hid.mk (Eq.trans (q429.out.fld (by decide)) u373.out)
                      have f442 : e_fr (mStm (w 275 78) (w 275 79) (w 275 80) (w 275 94)) w w427 := e_fr.trans f375 (q429.out.st (by omega))
                      have c443 := cSt.em c374 q429.out (by decide) (by omega) (by omega)
                      show e_Ok 20 elay ecode eI (d + 1) 348 (70, [(1, (0, v1 275 94)), (0, (1, 275))], [(0, v1 275 78 + 1), (0, v1 275 94), (1, 344)], w427) _
                      refine e_Ok.ast rfl (el_o rfl) rfl rfl (by omega) ?_
                      generalize hw444 : e_up w427 344 (v1 275 94) (v1 275 78 + 1) = w444
                      have f445 : e_fr (mStm (w 275 78) (w 275 79) (w 275 80) (w 275 94)) w w444 := e_fr.up f442 hw444 (by unfold mStm; omega)
                      have u446 : Hid (w444 275 78 = v1 275 78 + 2) := Hid.mk (Eq.trans (by rw [← hw444]; exact e_up_ne _ _ (Or.inl (by decide))) u430.out)
                      have u447 : Hid (w444 275 79 = v1 275 79) := Hid.mk (Eq.trans (by rw [← hw444]; exact e_up_ne _ _ (Or.inl (by decide))) u431.out)
                      have u448 : Hid (w444 275 80 = v1 275 80) := Hid.mk (Eq.trans (by rw [← hw444]; exact e_up_ne _ _ (Or.inl (by decide))) u432.out)
                      have u449 : Hid (w444 275 81 = w 275 81) := Hid.mk (Eq.trans (by rw [← hw444]; exact e_up_ne _ _ (Or.inl (by decide))) u433.out)
                      have u450 : Hid (w444 275 82 = w 275 82) := Hid.mk (Eq.trans (by rw [← hw444]; exact e_up_ne _ _ (Or.inl (by decide))) u434.out)
                      have u451 : Hid (w444 275 83 = v1 275 83) := Hid.mk (Eq.trans (by rw [← hw444]; exact e_up_ne _ _ (Or.inl (by decide))) u435.out)
                      have u454 : Hid (w444 275 86 = w88 275 86) := Hid.mk (Eq.trans (by rw [← hw444]; exact e_up_ne _ _ (Or.inl (by decide))) u438.out)
                      have u456 : Hid (w444 275 88 = w360 275 88) := Hid.mk (Eq.trans (by rw [← hw444]; exact e_up_ne _ _ (Or.inl (by decide))) u440.out)
                      have u457 : Hid (w444 275 94 = v1 275 94 + 1) := Hid.mk (Eq.trans (by rw [← hw444]; exact e_up_ne _ _ (Or.inl (by decide))) u441.out)
                      have c458 := cSt.wr c443 hw444 (Or.inr rfl) (by omega) rfl (fun y => absurd y (by decide))
                      refine e_Ok.run (t' := (0, [(1, (0, v1 275 94)), (0, (1, 275))], [], w444)) 1 rfl ?_
                      refine e_Ok.sub eAlk (e_sub_of rfl ?_) (ih2  w444 ⟨f445, c458, (by unfold stL; rw [u446.out, u447.out, u448.out, u449.out, u450.out, u451.out, u454.out, u456.out, u457.out]; omega), (Hid.mk (fun z => by rw [u456.out] at z; exact absurd z (by omega))), (by rw [u454.out, u456.out] <;> omega)⟩ ((by rw [u454.out, u456.out] <;> omega)))
                      exact ⟨rfl, trivial⟩
                    · exact absurd q425z (by omega)
                    · exact absurd q425z (by omega)
      · show e_Ok 20 elay ecode eI (d + 1) 348 (4, [(0, (1, 275))], [(0, 0)], v1) _
        refine e_Ok.if1 rfl (fun h459 => ?_) (fun h459 => ?_)
        · replace h459 : (0 : Int) = 0 := h459
          refine e_Ok.rets rfl rfl ?_
          exact ⟨rfl, j3, j4, (by unfold stL; rw [u8.out, u9.out]; omega), (fun z => by rw [u8.out]; exact (g10.out (by omega)))⟩
        · replace h459 : (0 : Int) ≠ 0 := by have q : ¬ ((0 : Int) = 0) := h459; omega
          exfalso; omega
  refine e_Ok.sub eAlk (e_sub_of rfl ?_) (hL1 (32010 + 1 : Int).toNat  w ⟨(e_fr.refl w), hc, (by unfold stL; omega), hgH, (by omega)⟩ (by omega))
  exact ⟨rfl, trivial⟩
end
