-- part a4
section
noncomputable section
theorem no_a4_0 : ¬ mTq 275 78 := by unfold mTq; omega
theorem no_a4_1 : ¬ mTq 275 83 := by unfold mTq; omega
theorem no_a4_2 : ¬ mTq 275 88 := by unfold mTq; omega
theorem no_a4_3 : ¬ mTq 275 94 := by unfold mTq; omega
theorem no_a4_4 {n : Int} {m : Int} : ¬ mEx n m 275 81 := by unfold mEx; omega
theorem no_a4_5 : ¬ mRf 275 78 := by unfold mRf; omega
theorem no_a4_6 : ¬ mRf 275 83 := by unfold mRf; omega
theorem no_a4_7 : ¬ mRf 275 84 := by unfold mRf; omega
theorem no_a4_8 : ¬ mRf 275 85 := by unfold mRf; omega
theorem no_a4_9 : ¬ mRf 275 86 := by unfold mRf; omega
theorem no_a4_10 : ¬ mRf 275 87 := by unfold mRf; omega
theorem no_a4_11 : ¬ mRf 275 94 := by unfold mRf; omega
set_option maxHeartbeats 4000000 in
theorem c_345 {d : Nat} (hd : 47 ≤ d) {w : eW} {N nt s e o F : Int} {P : Int → Prop} (hc : cSt w N) (hNr : 0 ≤ N ∧ N ≤ 4000) (h0 : w 275 88 = 0) (ho : w 275 83 = o) (hs : w 275 81 = s) (hb : 0 ≤ w 275 78 ∧ w 275 78 + 2 * (N - w 275 86) ≤ 8100 ∧ 0 ≤ w 275 94 ∧ w 275 94 + (N - w 275 86) ≤ 4050) (hw : wfE w N (w 275 78) (w 275 94) nt P s e) (he : e ≤ w 275 86) (hor : 0 ≤ o ∧ o ≤ 30) (hF : 0 ≤ F ∧ F ≤ 400) (hS : o < 30 → ∀ k, d = k + 1 → exC 339 (o + 1) F k) : e_Ok 20 elay ecode eI d 345 (0, [(0, (1, 275))], [], w) (fun r w' => r = [] ∧ exQ w w' N nt P s (e + 1) (F)) := by
  obtain ⟨d, rfl⟩ : ∃ e, d = e + 1 := ⟨d - 1, by omega⟩
  have hct := tkS.lin hc.2.2.2.1
  have hcf := e_Has.get hc.2.1 (c := 275) (k := 88) (lo := 0) (hi := 7) rfl (by decide)
  have hsb := hc.2.2.2.2
  rw [hs] at hsb
  have he0 := hw.2.2.2.2.2.1
  have hwH : Hid (w 275 88 = 0 → wfE w N (w 275 78) (w 275 94) nt P s e) := Hid.mk (fun _ => hw)
  refine e_Ok.run (t' := (1, [(0, (1, 275))], [(1, 275)], w)) 1 rfl ?_
  refine e_Ok.getf (z := w 275 88) rfl (el_o rfl) rfl (ef_o rfl) rfl (by omega) ?_
  refine e_Ok.if1 rfl (fun h1 => ?_) (fun h1 => ?_)
  · replace h1 : (w 275 88 : Int) ≠ 0 := h1
    exfalso; omega
  · replace h1 : (w 275 88 : Int) = 0 := Classical.not_not.mp (show ¬ ((w 275 88 : Int) ≠ 0) from h1)
    refine e_Ok.ps2 (x := (0, 40)) (y := (1, 275)) (q := 10) 2 rfl ?_
    refine e_Ok.callV rfl (e_dq hd rfl) rfl rfl rfl rfl (c_331 hc.1 (N := N) hc.2.2.2.1) (fun r2 w3 h4 => ?_)
    obtain ⟨z5, rfl, rfl, q6⟩ := h4
    obtain ⟨rfl, q6, q6b⟩ | ⟨rfl, q6n⟩ := q6
    · refine e_Ok.nrm (q := 13) (st' := [(0, 1)]) rfl rfl ?_
      refine e_Ok.if1 rfl (fun h7 => ?_) (fun h7 => ?_)
      · replace h7 : (1 : Int) = 0 := h7
        exfalso; omega
      · replace h7 : (1 : Int) ≠ 0 := (show ¬ ((1 : Int) = 0) from h7)
        refine e_Ok.ps1 (x := (1, 275)) (q := 17) 1 rfl ?_
        refine e_Ok.callV rfl (e_dq hd rfl) rfl rfl rfl rfl (c_335 (e_dq hd rfl) hc.1 hc.2.1 hc.2.2.1 hNr hc.2.2.2.1 (o := w 275 83) rfl (by omega)) (fun r8 w9 h10 => ?_)
        obtain ⟨rfl, q11o, q11⟩ := h10
        obtain ⟨q11, q11n⟩ | ⟨q11z, q11n, w12, q11u, q11, q11T, q11H, q11r⟩ := q11
        · refine e_Ok.nrm (q := 20) (st' := []) rfl rfl ?_
          have e13 := up83 q11
          have e133 := e13.2
          have u14 : w9 275 78 = w 275 78 := e13.1 275 78 (by omega)
          have u15 : w9 275 84 = w 275 84 := e13.1 275 84 (by omega)
          have u16 : w9 275 85 = w 275 85 := e13.1 275 85 (by omega)
          have u17 : w9 275 86 = w 275 86 := e13.1 275 86 (by omega)
          have u18 : w9 275 87 = w 275 87 := e13.1 275 87 (by omega)
          have u19 : w9 275 88 = w 275 88 := e13.1 275 88 (by omega)
          have u20 : w9 275 94 = w 275 94 := e13.1 275 94 (by omega)
          have f21 : e_fr (mEx (w 275 78) (w 275 94)) w w9 := e_fr.trans (e_fr.refl w) (fun c k g => e13.1 c k (fun g2 => g (by unfold mEx; omega)))
          have c22 := cSt.up hc q11
          have t23t := tkS.lin c22.2.2.2.1
          have t23f := e_Has.get c22.2.1 (c := 275) (k := 88) (lo := 0) (hi := 7) rfl (by decide)
          have wf24 : Hid (w9 275 88 = 0 → wfE w9 N (w9 275 78) (w9 275 94) nt P s (e)) := Hid.mk (fun z => by rw [u14, u20]; exact wfE.pr (hwH.out (by omega)) (prE.up q11))
          refine e_Ok.ps3 (x := (0, 40)) (y := (1, 275)) (z := (1, 275)) (q := 24) 3 rfl ?_
          refine e_Ok.callV rfl (e_dq hd rfl) rfl rfl rfl rfl (c_331 c22.1 (N := N) c22.2.2.2.1) (fun r25 w26 h27 => ?_)
          obtain ⟨z28, rfl, rfl, q29⟩ := h27
          obtain ⟨rfl, q29, q29b⟩ | ⟨rfl, q29n⟩ := q29
          · refine e_Ok.nrm (q := 27) (st' := [(0, 1), (1, 275)]) rfl rfl ?_
            refine e_Ok.callV rfl (e_dq hd rfl) rfl rfl rfl rfl (c_334 (e_dq hd rfl) c22.1 c22.2.1 c22.2.2.1 hNr c22.2.2.2.1 (by omega)) (fun r30 w31 h32 => ?_)
            obtain ⟨rfl, q33⟩ := h32
            obtain ⟨rfl, q33z⟩ | ⟨q33z, q33b, q33, q33s, q33t⟩ | ⟨q33z, q33b, q33, q33T, q33H, q33r⟩ := q33
            · exfalso; omega
            · refine e_Ok.nrm (q := 30) (st' := []) rfl rfl ?_
              have p34 := tkS.pos c22.2.2.2.1 (by omega)
              have u35 : w31 275 78 = w9 275 78 := q33 275 78 no_a4_0
              have u36 : w31 275 83 = w9 275 83 := q33 275 83 no_a4_1
              have u37 : w31 275 88 = w9 275 88 := q33 275 88 no_a4_2
              have u38 : w31 275 94 = w9 275 94 := q33 275 94 no_a4_3
              have f40 : e_fr (mEx (w 275 78) (w 275 94)) w w31 := e_fr.trans f21 (e_fr.mono q33 (fun c k g => by unfold mTq at g; unfold mEx; omega))
              have c41 := cSt.tk c22 q33 q33s
              have t42t := tkS.lin c41.2.2.2.1
              have t42f := e_Has.get c41.2.1 (c := 275) (k := 88) (lo := 0) (hi := 7) rfl (by decide)
              have wf43 : Hid (w31 275 88 = 0 → wfE w31 N (w31 275 78) (w31 275 94) nt P s (e)) := Hid.mk (fun z => by rw [u35, u38]; exact wfE.pr (wf24.out (by omega)) (prE.tk q33))
              refine e_Ok.ps1 (x := (1, 275)) (q := 31) 1 rfl ?_
              refine e_Ok.callV rfl (e_dq hd rfl) rfl rfl rfl rfl ((hS (by omega) d rfl) w31 N nt s (e) P c41 hNr (by omega) (by omega) (Eq.trans (f40 275 81 (by first | exact no_a4_4 | (unfold mEx; omega))) hs) (by omega) (wf43.out (by omega)) (by omega)) (fun r44 w45 h46 => ?_)
              obtain ⟨rfl, q47F, q47c, q47l, q47w⟩ := h46
              unfold cLn at q47l
              replace q47w : Hid (w45 275 88 = 0 → wfE w45 N (w45 275 78) (w45 275 94) nt P s (e + 1)) := Hid.mk (fun z => wfE.d (q47w z) (by omega))
              have f48 : e_fr (mEx (w 275 78) (w 275 94)) w w45 := e_fr.trans f40 (e_fr.mono q47F (fun c k g => by unfold mEx at g; unfold mEx; omega))
              have t49t := tkS.lin q47c.2.2.2.1
              have t49f := e_Has.get q47c.2.1 (c := 275) (k := 88) (lo := 0) (hi := 7) rfl (by decide)
              refine e_Ok.nrm (q := 34) (st' := []) rfl rfl ?_
              refine e_Ok.ps3 (x := (0, 41)) (y := (1, 275)) (z := (1, 275)) (q := 38) 3 rfl ?_
              refine e_Ok.callV rfl (e_dq hd rfl) rfl rfl rfl rfl (c_331 q47c.1 (N := N) q47c.2.2.2.1) (fun r50 w51 h52 => ?_)
              obtain ⟨z53, rfl, rfl, q54⟩ := h52
              obtain ⟨rfl, q54, q54b⟩ | ⟨rfl, q54n⟩ := q54
              · refine e_Ok.nrm (q := 41) (st' := [(0, 1), (1, 275)]) rfl rfl ?_
                refine e_Ok.callV rfl (e_dq hd rfl) rfl rfl rfl rfl (c_334 (e_dq hd rfl) q47c.1 q47c.2.1 q47c.2.2.1 hNr q47c.2.2.2.1 (by omega)) (fun r55 w56 h57 => ?_)
                obtain ⟨rfl, q58⟩ := h57
                obtain ⟨rfl, q58z⟩ | ⟨q58z, q58b, q58, q58s, q58t⟩ | ⟨q58z, q58b, q58, q58T, q58H, q58r⟩ := q58
                · refine e_Ok.nrm (q := 44) (st' := []) rfl rfl ?_
                  refine e_Ok.ps2 (x := (1, 275)) (y := (1, 275)) (q := 46) 2 rfl ?_
                  refine e_Ok.getf (z := w45 275 83) rfl (el_o rfl) rfl (ef_o rfl) rfl (by omega) ?_
                  refine e_Ok.ps1 (x := (0, 1)) (q := 50) 1 rfl ?_
                  refine e_Ok.sub' (z := w45 275 83 - 1) rfl rfl (by omega) ?_
                  refine e_Ok.putf rfl (el_o rfl) rfl (ef_o rfl) ?_
                  generalize hw59 : e_up w45 275 83 (w45 275 83 - 1) = w59
                  have e61 := up83 hw59
                  have e613 := e61.2
                  have u62 : w59 275 78 = w45 275 78 := e61.1 275 78 (by omega)
                  have u63 : w59 275 84 = w45 275 84 := e61.1 275 84 (by omega)
                  have u64 : w59 275 85 = w45 275 85 := e61.1 275 85 (by omega)
                  have u65 : w59 275 86 = w45 275 86 := e61.1 275 86 (by omega)
                  have u66 : w59 275 87 = w45 275 87 := e61.1 275 87 (by omega)
                  have u67 : w59 275 88 = w45 275 88 := e61.1 275 88 (by omega)
                  have u68 : w59 275 94 = w45 275 94 := e61.1 275 94 (by omega)
                  have c69 := cSt.up q47c hw59
                  have t70t := tkS.lin c69.2.2.2.1
                  have t70f := e_Has.get c69.2.1 (c := 275) (k := 88) (lo := 0) (hi := 7) rfl (by decide)
                  have wf71 : Hid (w59 275 88 = 0 → wfE w59 N (w59 275 78) (w59 275 94) nt P s (e + 1)) := Hid.mk (fun z => by rw [u62, u68]; exact wfE.pr (q47w.out (by omega)) (prE.up hw59))
                  refine e_Ok.rets rfl rfl ?_
                  exact ⟨rfl, (show e_fr (mEx (w 275 78) (w 275 94)) w w59 from e_fr.up f48 hw59 (by first | exact Or.inr (Or.inr ⟨rfl, Or.inr (Or.inl ⟨(by decide), (by decide)⟩)⟩) | (unfold mEx; omega))), c69, by unfold cLn; omega, (fun z => absurd z (by omega))⟩
                · refine e_Ok.nrm (q := 44) (st' := []) rfl rfl ?_
                  have p72 := tkS.pos q47c.2.2.2.1 (by omega)
                  have u73 : w56 275 78 = w45 275 78 := q58 275 78 no_a4_0
                  have u74 : w56 275 83 = w45 275 83 := q58 275 83 no_a4_1
                  have u75 : w56 275 88 = w45 275 88 := q58 275 88 no_a4_2
                  have u76 : w56 275 94 = w45 275 94 := q58 275 94 no_a4_3
                  have c78 := cSt.tk q47c q58 q58s
                  have t79t := tkS.lin c78.2.2.2.1
                  have t79f := e_Has.get c78.2.1 (c := 275) (k := 88) (lo := 0) (hi := 7) rfl (by decide)
                  have wf80 : Hid (w56 275 88 = 0 → wfE w56 N (w56 275 78) (w56 275 94) nt P s (e + 1)) := Hid.mk (fun z => by rw [u73, u76]; exact wfE.pr (q47w.out (by omega)) (prE.tk q58))
                  refine e_Ok.ps2 (x := (1, 275)) (y := (1, 275)) (q := 46) 2 rfl ?_
                  refine e_Ok.getf (z := w56 275 83) rfl (el_o rfl) rfl (ef_o rfl) rfl (by omega) ?_
                  refine e_Ok.ps1 (x := (0, 1)) (q := 50) 1 rfl ?_
                  refine e_Ok.sub' (z := w56 275 83 - 1) rfl rfl (by omega) ?_
                  refine e_Ok.putf rfl (el_o rfl) rfl (ef_o rfl) ?_
                  generalize hw81 : e_up w56 275 83 (w56 275 83 - 1) = w81
                  have e83 := up83 hw81
                  have e833 := e83.2
                  have u84 : w81 275 78 = w56 275 78 := e83.1 275 78 (by omega)
                  have u85 : w81 275 84 = w56 275 84 := e83.1 275 84 (by omega)
                  have u86 : w81 275 85 = w56 275 85 := e83.1 275 85 (by omega)
                  have u87 : w81 275 86 = w56 275 86 := e83.1 275 86 (by omega)
                  have u88 : w81 275 87 = w56 275 87 := e83.1 275 87 (by omega)
                  have u89 : w81 275 88 = w56 275 88 := e83.1 275 88 (by omega)
                  have u90 : w81 275 94 = w56 275 94 := e83.1 275 94 (by omega)
                  have c91 := cSt.up c78 hw81
                  have t92t := tkS.lin c91.2.2.2.1
                  have t92f := e_Has.get c91.2.1 (c := 275) (k := 88) (lo := 0) (hi := 7) rfl (by decide)
                  have wf93 : Hid (w81 275 88 = 0 → wfE w81 N (w81 275 78) (w81 275 94) nt P s (e + 1)) := Hid.mk (fun z => by rw [u84, u90]; exact wfE.pr (wf80.out (by omega)) (prE.up hw81))
                  refine e_Ok.rets rfl rfl ?_
                  exact ⟨rfl, (show e_fr (mEx (w 275 78) (w 275 94)) w w81 from e_fr.up (show e_fr (mEx (w 275 78) (w 275 94)) w w56 from e_fr.trans f48 (e_fr.mono q58 (fun c k g => by unfold mTq at g; unfold mEx; omega))) hw81 (by first | exact Or.inr (Or.inr ⟨rfl, Or.inr (Or.inl ⟨(by decide), (by decide)⟩)⟩) | (unfold mEx; omega))), c91, by unfold cLn; omega, wf93.out⟩
                · exfalso; omega
              · refine e_Ok.nrm (q := 41) (st' := [(0, 0), (1, 275)]) rfl rfl ?_
                refine e_Ok.callV rfl (e_dq hd rfl) rfl rfl rfl rfl (c_334 (e_dq hd rfl) q47c.1 q47c.2.1 q47c.2.2.1 hNr q47c.2.2.2.1 (by omega)) (fun r94 w95 h101 => ?_)
                obtain ⟨rfl, q103⟩ := h101
                obtain ⟨rfl, q103z⟩ | ⟨q103z, q103b, q103, q103s, q103t⟩ | ⟨q103z, q103b, q103, q103T, q103H, q103r⟩ := q103
                · refine e_Ok.nrm (q := 44) (st' := []) rfl rfl ?_
                  refine e_Ok.ps2 (x := (1, 275)) (y := (1, 275)) (q := 46) 2 rfl ?_
                  refine e_Ok.getf (z := w45 275 83) rfl (el_o rfl) rfl (ef_o rfl) rfl (by omega) ?_
                  refine e_Ok.ps1 (x := (0, 1)) (q := 50) 1 rfl ?_
                  refine e_Ok.sub' (z := w45 275 83 - 1) rfl rfl (by omega) ?_
                  refine e_Ok.putf rfl (el_o rfl) rfl (ef_o rfl) ?_
                  generalize hw104 : e_up w45 275 83 (w45 275 83 - 1) = w104
                  have e106 := up83 hw104
                  have e1063 := e106.2
                  have u107 : w104 275 78 = w45 275 78 := e106.1 275 78 (by omega)
                  have u108 : w104 275 84 = w45 275 84 := e106.1 275 84 (by omega)
                  have u109 : w104 275 85 = w45 275 85 := e106.1 275 85 (by omega)
                  have u110 : w104 275 86 = w45 275 86 := e106.1 275 86 (by omega)
                  have u111 : w104 275 87 = w45 275 87 := e106.1 275 87 (by omega)
                  have u112 : w104 275 88 = w45 275 88 := e106.1 275 88 (by omega)
                  have u113 : w104 275 94 = w45 275 94 := e106.1 275 94 (by omega)
                  have c114 := cSt.up q47c hw104
                  have t115t := tkS.lin c114.2.2.2.1
                  have t115f := e_Has.get c114.2.1 (c := 275) (k := 88) (lo := 0) (hi := 7) rfl (by decide)
                  have wf116 : Hid (w104 275 88 = 0 → wfE w104 N (w104 275 78) (w104 275 94) nt P s (e + 1)) := Hid.mk (fun z => by rw [u107, u113]; exact wfE.pr (q47w.out (by omega)) (prE.up hw104))
                  refine e_Ok.rets rfl rfl ?_
                  exact ⟨rfl, (show e_fr (mEx (w 275 78) (w 275 94)) w w104 from e_fr.up f48 hw104 (by first | exact Or.inr (Or.inr ⟨rfl, Or.inr (Or.inl ⟨(by decide), (by decide)⟩)⟩) | (unfold mEx; omega))), c114, by unfold cLn; omega, (fun z => absurd z (by omega))⟩
                · exfalso; omega
                · refine e_Ok.nrm (q := 44) (st' := []) rfl rfl ?_
                  have u117 : w95 275 78 = w45 275 78 := q103 275 78 no_a4_5
                  have u118 : w95 275 83 = w45 275 83 := q103 275 83 no_a4_6
                  have u119 : w95 275 84 = w45 275 84 := q103 275 84 no_a4_7
                  have u120 : w95 275 85 = w45 275 85 := q103 275 85 no_a4_8
                  have u121 : w95 275 86 = w45 275 86 := q103 275 86 no_a4_9
                  have u122 : w95 275 87 = w45 275 87 := q103 275 87 no_a4_10
                  have u123 : w95 275 94 = w45 275 94 := q103 275 94 no_a4_11
                  have c125 := cSt.rf q47c q103 q103T q103H
                  have t126t := tkS.lin c125.2.2.2.1
                  have t126f := e_Has.get c125.2.1 (c := 275) (k := 88) (lo := 0) (hi := 7) rfl (by decide)
                  refine e_Ok.ps2 (x := (1, 275)) (y := (1, 275)) (q := 46) 2 rfl ?_
                  refine e_Ok.getf (z := w95 275 83) rfl (el_o rfl) rfl (ef_o rfl) rfl (by omega) ?_
                  refine e_Ok.ps1 (x := (0, 1)) (q := 50) 1 rfl ?_
                  refine e_Ok.sub' (z := w95 275 83 - 1) rfl rfl (by omega) ?_
                  refine e_Ok.putf rfl (el_o rfl) rfl (ef_o rfl) ?_
                  generalize hw127 : e_up w95 275 83 (w95 275 83 - 1) = w127
                  have e129 := up83 hw127
                  have e1293 := e129.2
                  have u130 : w127 275 78 = w95 275 78 := e129.1 275 78 (by omega)
                  have u131 : w127 275 84 = w95 275 84 := e129.1 275 84 (by omega)
                  have u132 : w127 275 85 = w95 275 85 := e129.1 275 85 (by omega)
                  have u133 : w127 275 86 = w95 275 86 := e129.1 275 86 (by omega)
                  have u134 : w127 275 87 = w95 275 87 := e129.1 275 87 (by omega)
                  have u135 : w127 275 88 = w95 275 88 := e129.1 275 88 (by omega)
                  have u136 : w127 275 94 = w95 275 94 := e129.1 275 94 (by omega)
                  have c137 := cSt.up c125 hw127
                  have t138t := tkS.lin c137.2.2.2.1
                  have t138f := e_Has.get c137.2.1 (c := 275) (k := 88) (lo := 0) (hi := 7) rfl (by decide)
                  refine e_Ok.rets rfl rfl ?_
                  exact ⟨rfl, (show e_fr (mEx (w 275 78) (w 275 94)) w w127 from e_fr.up (show e_fr (mEx (w 275 78) (w 275 94)) w w95 from e_fr.trans f48 (e_fr.mono q103 (fun c k g => by unfold mRf at g; unfold mEx; omega))) hw127 (by first | exact Or.inr (Or.inr ⟨rfl, Or.inr (Or.inl ⟨(by decide), (by decide)⟩)⟩) | (unfold mEx; omega))), c137, by unfold cLn; omega, (fun z => absurd z (by omega))⟩
            · exfalso; omega
          · refine e_Ok.nrm (q := 27) (st' := [(0, 0), (1, 275)]) rfl rfl ?_
            refine e_Ok.callV rfl (e_dq hd rfl) rfl rfl rfl rfl (c_334 (e_dq hd rfl) c22.1 c22.2.1 c22.2.2.1 hNr c22.2.2.2.1 (by omega)) (fun r139 w140 h141 => ?_)
            obtain ⟨rfl, q142⟩ := h141
            obtain ⟨rfl, q142z⟩ | ⟨q142z, q142b, q142, q142s, q142t⟩ | ⟨q142z, q142b, q142, q142T, q142H, q142r⟩ := q142
            · exfalso; omega
            · exfalso; omega
            · refine e_Ok.nrm (q := 30) (st' := []) rfl rfl ?_
              have u143 : w140 275 78 = w9 275 78 := q142 275 78 no_a4_5
              have u144 : w140 275 83 = w9 275 83 := q142 275 83 no_a4_6
              have u145 : w140 275 84 = w9 275 84 := q142 275 84 no_a4_7
              have u146 : w140 275 85 = w9 275 85 := q142 275 85 no_a4_8
              have u147 : w140 275 86 = w9 275 86 := q142 275 86 no_a4_9
              have u148 : w140 275 87 = w9 275 87 := q142 275 87 no_a4_10
              have u149 : w140 275 94 = w9 275 94 := q142 275 94 no_a4_11
              have f150 : e_fr (mEx (w 275 78) (w 275 94)) w w140 := e_fr.trans f21 (e_fr.mono q142 (fun c k g => by unfold mRf at g; unfold mEx; omega))
              have c151 := cSt.rf c22 q142 q142T q142H
              have t152t := tkS.lin c151.2.2.2.1
              have t152f := e_Has.get c151.2.1 (c := 275) (k := 88) (lo := 0) (hi := 7) rfl (by decide)
              refine e_Ok.ps1 (x := (1, 275)) (q := 31) 1 rfl ?_
              refine e_Ok.callV rfl (e_dq hd rfl) rfl rfl rfl rfl (c_339_0 (e_dq hd rfl) c151 (by omega)) (fun r153 w154 h155 => ?_)
              obtain ⟨rfl, rfl⟩ := h155
              refine e_Ok.nrm (q := 34) (st' := []) rfl rfl ?_
              refine e_Ok.ps3 (x := (0, 41)) (y := (1, 275)) (z := (1, 275)) (q := 38) 3 rfl ?_
              refine e_Ok.callV rfl (e_dq hd rfl) rfl rfl rfl rfl (c_331 c151.1 (N := N) c151.2.2.2.1) (fun r156 w157 h158 => ?_)
              obtain ⟨z159, rfl, rfl, q160⟩ := h158
              obtain ⟨rfl, q160, q160b⟩ | ⟨rfl, q160n⟩ := q160
              · refine e_Ok.nrm (q := 41) (st' := [(0, 1), (1, 275)]) rfl rfl ?_
                refine e_Ok.callV rfl (e_dq hd rfl) rfl rfl rfl rfl (c_334 (e_dq hd rfl) c151.1 c151.2.1 c151.2.2.1 hNr c151.2.2.2.1 (by omega)) (fun r161 w162 h163 => ?_)
                obtain ⟨rfl, q164⟩ := h163
                obtain ⟨rfl, q164z⟩ | ⟨q164z, q164b, q164, q164s, q164t⟩ | ⟨q164z, q164b, q164, q164T, q164H, q164r⟩ := q164
                · refine e_Ok.nrm (q := 44) (st' := []) rfl rfl ?_
                  refine e_Ok.ps2 (x := (1, 275)) (y := (1, 275)) (q := 46) 2 rfl ?_
                  refine e_Ok.getf (z := w140 275 83) rfl (el_o rfl) rfl (ef_o rfl) rfl (by omega) ?_
                  refine e_Ok.ps1 (x := (0, 1)) (q := 50) 1 rfl ?_
                  refine e_Ok.sub' (z := w140 275 83 - 1) rfl rfl (by omega) ?_
                  refine e_Ok.putf rfl (el_o rfl) rfl (ef_o rfl) ?_
                  generalize hw165 : e_up w140 275 83 (w140 275 83 - 1) = w165
                  have e167 := up83 hw165
                  have e1673 := e167.2
                  have u168 : w165 275 78 = w140 275 78 := e167.1 275 78 (by omega)
                  have u169 : w165 275 84 = w140 275 84 := e167.1 275 84 (by omega)
                  have u170 : w165 275 85 = w140 275 85 := e167.1 275 85 (by omega)
                  have u171 : w165 275 86 = w140 275 86 := e167.1 275 86 (by omega)
                  have u172 : w165 275 87 = w140 275 87 := e167.1 275 87 (by omega)
                  have u173 : w165 275 88 = w140 275 88 := e167.1 275 88 (by omega)
                  have u174 : w165 275 94 = w140 275 94 := e167.1 275 94 (by omega)
                  have c175 := cSt.up c151 hw165
                  have t176t := tkS.lin c175.2.2.2.1
                  have t176f := e_Has.get c175.2.1 (c := 275) (k := 88) (lo := 0) (hi := 7) rfl (by decide)
                  refine e_Ok.rets rfl rfl ?_
                  exact ⟨rfl, (show e_fr (mEx (w 275 78) (w 275 94)) w w165 from e_fr.up f150 hw165 (by first | exact Or.inr (Or.inr ⟨rfl, Or.inr (Or.inl ⟨(by decide), (by decide)⟩)⟩) | (unfold mEx; omega))), c175, by unfold cLn; omega, (fun z => absurd z (by omega))⟩
                · exfalso; omega
                · exfalso; omega
              · refine e_Ok.nrm (q := 41) (st' := [(0, 0), (1, 275)]) rfl rfl ?_
                refine e_Ok.callV rfl (e_dq hd rfl) rfl rfl rfl rfl (c_334 (e_dq hd rfl) c151.1 c151.2.1 c151.2.2.1 hNr c151.2.2.2.1 (by omega)) (fun r177 w178 h179 => ?_)
                obtain ⟨rfl, q180⟩ := h179
                obtain ⟨rfl, q180z⟩ | ⟨q180z, q180b, q180, q180s, q180t⟩ | ⟨q180z, q180b, q180, q180T, q180H, q180r⟩ := q180
                · refine e_Ok.nrm (q := 44) (st' := []) rfl rfl ?_
                  refine e_Ok.ps2 (x := (1, 275)) (y := (1, 275)) (q := 46) 2 rfl ?_
                  refine e_Ok.getf (z := w140 275 83) rfl (el_o rfl) rfl (ef_o rfl) rfl (by omega) ?_
                  refine e_Ok.ps1 (x := (0, 1)) (q := 50) 1 rfl ?_
                  refine e_Ok.sub' (z := w140 275 83 - 1) rfl rfl (by omega) ?_
                  refine e_Ok.putf rfl (el_o rfl) rfl (ef_o rfl) ?_
                  generalize hw181 : e_up w140 275 83 (w140 275 83 - 1) = w181
                  have e183 := up83 hw181
                  have e1833 := e183.2
                  have u184 : w181 275 78 = w140 275 78 := e183.1 275 78 (by omega)
                  have u185 : w181 275 84 = w140 275 84 := e183.1 275 84 (by omega)
                  have u186 : w181 275 85 = w140 275 85 := e183.1 275 85 (by omega)
                  have u187 : w181 275 86 = w140 275 86 := e183.1 275 86 (by omega)
                  have u188 : w181 275 87 = w140 275 87 := e183.1 275 87 (by omega)
                  have u189 : w181 275 88 = w140 275 88 := e183.1 275 88 (by omega)
                  have u190 : w181 275 94 = w140 275 94 := e183.1 275 94 (by omega)
                  have c191 := cSt.up c151 hw181
                  have t192t := tkS.lin c191.2.2.2.1
                  have t192f := e_Has.get c191.2.1 (c := 275) (k := 88) (lo := 0) (hi := 7) rfl (by decide)
                  refine e_Ok.rets rfl rfl ?_
                  exact ⟨rfl, (show e_fr (mEx (w 275 78) (w 275 94)) w w181 from e_fr.up f150 hw181 (by first | exact Or.inr (Or.inr ⟨rfl, Or.inr (Or.inl ⟨(by decide), (by decide)⟩)⟩) | (unfold mEx; omega))), c191, by unfold cLn; omega, (fun z => absurd z (by omega))⟩
                · exfalso; omega
                · exfalso; omega
        · refine e_Ok.nrm (q := 20) (st' := []) rfl rfl ?_
          have u193 : w12 275 78 = w 275 78 := q11 275 78 no_a4_5
          have u194 : w12 275 83 = w 275 83 := q11 275 83 no_a4_6
          have u195 : w12 275 84 = w 275 84 := q11 275 84 no_a4_7
          have u196 : w12 275 85 = w 275 85 := q11 275 85 no_a4_8
          have u197 : w12 275 86 = w 275 86 := q11 275 86 no_a4_9
          have u198 : w12 275 87 = w 275 87 := q11 275 87 no_a4_10
          have u199 : w12 275 94 = w 275 94 := q11 275 94 no_a4_11
          have c201 := cSt.rf hc q11 q11T q11H
          have t202t := tkS.lin c201.2.2.2.1
          have t202f := e_Has.get c201.2.1 (c := 275) (k := 88) (lo := 0) (hi := 7) rfl (by decide)
          have e203 := up83 q11u
          have e2033 := e203.2
          have u204 : w9 275 78 = w12 275 78 := e203.1 275 78 (by omega)
          have u205 : w9 275 84 = w12 275 84 := e203.1 275 84 (by omega)
          have u206 : w9 275 85 = w12 275 85 := e203.1 275 85 (by omega)
          have u207 : w9 275 86 = w12 275 86 := e203.1 275 86 (by omega)
          have u208 : w9 275 87 = w12 275 87 := e203.1 275 87 (by omega)
          have u209 : w9 275 88 = w12 275 88 := e203.1 275 88 (by omega)
          have u210 : w9 275 94 = w12 275 94 := e203.1 275 94 (by omega)
          have f211 : e_fr (mEx (w 275 78) (w 275 94)) w w9 := e_fr.trans (show e_fr (mEx (w 275 78) (w 275 94)) w w12 from e_fr.trans (e_fr.refl w) (e_fr.mono q11 (fun c k g => by unfold mRf at g; unfold mEx; omega))) (fun c k g => e203.1 c k (fun g2 => g (by unfold mEx; omega)))
          have c212 := cSt.up c201 q11u
          have t213t := tkS.lin c212.2.2.2.1
          have t213f := e_Has.get c212.2.1 (c := 275) (k := 88) (lo := 0) (hi := 7) rfl (by decide)
          refine e_Ok.ps3 (x := (0, 40)) (y := (1, 275)) (z := (1, 275)) (q := 24) 3 rfl ?_
          refine e_Ok.callV rfl (e_dq hd rfl) rfl rfl rfl rfl (c_331 c212.1 (N := N) c212.2.2.2.1) (fun r214 w215 h216 => ?_)
          obtain ⟨z217, rfl, rfl, q218⟩ := h216
          obtain ⟨rfl, q218, q218b⟩ | ⟨rfl, q218n⟩ := q218
          · refine e_Ok.nrm (q := 27) (st' := [(0, 1), (1, 275)]) rfl rfl ?_
            refine e_Ok.callV rfl (e_dq hd rfl) rfl rfl rfl rfl (c_334 (e_dq hd rfl) c212.1 c212.2.1 c212.2.2.1 hNr c212.2.2.2.1 (by omega)) (fun r219 w220 h221 => ?_)
            obtain ⟨rfl, q222⟩ := h221
            obtain ⟨rfl, q222z⟩ | ⟨q222z, q222b, q222, q222s, q222t⟩ | ⟨q222z, q222b, q222, q222T, q222H, q222r⟩ := q222
            · refine e_Ok.nrm (q := 30) (st' := []) rfl rfl ?_
              refine e_Ok.ps1 (x := (1, 275)) (q := 31) 1 rfl ?_
              refine e_Ok.callV rfl (e_dq hd rfl) rfl rfl rfl rfl (c_339_0 (e_dq hd rfl) c212 (by omega)) (fun r223 w224 h225 => ?_)
              obtain ⟨rfl, rfl⟩ := h225
              refine e_Ok.nrm (q := 34) (st' := []) rfl rfl ?_
              refine e_Ok.ps3 (x := (0, 41)) (y := (1, 275)) (z := (1, 275)) (q := 38) 3 rfl ?_
              refine e_Ok.callV rfl (e_dq hd rfl) rfl rfl rfl rfl (c_331 c212.1 (N := N) c212.2.2.2.1) (fun r226 w227 h228 => ?_)
              obtain ⟨z229, rfl, rfl, q230⟩ := h228
              obtain ⟨rfl, q230, q230b⟩ | ⟨rfl, q230n⟩ := q230
              · refine e_Ok.nrm (q := 41) (st' := [(0, 1), (1, 275)]) rfl rfl ?_
                refine e_Ok.callV rfl (e_dq hd rfl) rfl rfl rfl rfl (c_334 (e_dq hd rfl) c212.1 c212.2.1 c212.2.2.1 hNr c212.2.2.2.1 (by omega)) (fun r231 w232 h233 => ?_)
                obtain ⟨rfl, q234⟩ := h233
                obtain ⟨rfl, q234z⟩ | ⟨q234z, q234b, q234, q234s, q234t⟩ | ⟨q234z, q234b, q234, q234T, q234H, q234r⟩ := q234
                · refine e_Ok.nrm (q := 44) (st' := []) rfl rfl ?_
                  refine e_Ok.ps2 (x := (1, 275)) (y := (1, 275)) (q := 46) 2 rfl ?_
                  refine e_Ok.getf (z := w9 275 83) rfl (el_o rfl) rfl (ef_o rfl) rfl (by omega) ?_
                  refine e_Ok.ps1 (x := (0, 1)) (q := 50) 1 rfl ?_
                  refine e_Ok.sub' (z := w9 275 83 - 1) rfl rfl (by omega) ?_
                  refine e_Ok.putf rfl (el_o rfl) rfl (ef_o rfl) ?_
                  generalize hw235 : e_up w9 275 83 (w9 275 83 - 1) = w235
                  have e237 := up83 hw235
                  have e2373 := e237.2
                  have u238 : w235 275 78 = w9 275 78 := e237.1 275 78 (by omega)
                  have u239 : w235 275 84 = w9 275 84 := e237.1 275 84 (by omega)
                  have u240 : w235 275 85 = w9 275 85 := e237.1 275 85 (by omega)
                  have u241 : w235 275 86 = w9 275 86 := e237.1 275 86 (by omega)
                  have u242 : w235 275 87 = w9 275 87 := e237.1 275 87 (by omega)
                  have u243 : w235 275 88 = w9 275 88 := e237.1 275 88 (by omega)
                  have u244 : w235 275 94 = w9 275 94 := e237.1 275 94 (by omega)
                  have c245 := cSt.up c212 hw235
                  have t246t := tkS.lin c245.2.2.2.1
                  have t246f := e_Has.get c245.2.1 (c := 275) (k := 88) (lo := 0) (hi := 7) rfl (by decide)
                  refine e_Ok.rets rfl rfl ?_
                  exact ⟨rfl, (show e_fr (mEx (w 275 78) (w 275 94)) w w235 from e_fr.up f211 hw235 (by first | exact Or.inr (Or.inr ⟨rfl, Or.inr (Or.inl ⟨(by decide), (by decide)⟩)⟩) | (unfold mEx; omega))), c245, by unfold cLn; omega, (fun z => absurd z (by omega))⟩
                · exfalso; omega
                · exfalso; omega
              · refine e_Ok.nrm (q := 41) (st' := [(0, 0), (1, 275)]) rfl rfl ?_
                refine e_Ok.callV rfl (e_dq hd rfl) rfl rfl rfl rfl (c_334 (e_dq hd rfl) c212.1 c212.2.1 c212.2.2.1 hNr c212.2.2.2.1 (by omega)) (fun r247 w248 h249 => ?_)
                obtain ⟨rfl, q250⟩ := h249
                obtain ⟨rfl, q250z⟩ | ⟨q250z, q250b, q250, q250s, q250t⟩ | ⟨q250z, q250b, q250, q250T, q250H, q250r⟩ := q250
                · refine e_Ok.nrm (q := 44) (st' := []) rfl rfl ?_
                  refine e_Ok.ps2 (x := (1, 275)) (y := (1, 275)) (q := 46) 2 rfl ?_
                  refine e_Ok.getf (z := w9 275 83) rfl (el_o rfl) rfl (ef_o rfl) rfl (by omega) ?_
                  refine e_Ok.ps1 (x := (0, 1)) (q := 50) 1 rfl ?_
                  refine e_Ok.sub' (z := w9 275 83 - 1) rfl rfl (by omega) ?_
                  refine e_Ok.putf rfl (el_o rfl) rfl (ef_o rfl) ?_
                  generalize hw251 : e_up w9 275 83 (w9 275 83 - 1) = w251
                  have e253 := up83 hw251
                  have e2533 := e253.2
                  have u254 : w251 275 78 = w9 275 78 := e253.1 275 78 (by omega)
                  have u255 : w251 275 84 = w9 275 84 := e253.1 275 84 (by omega)
                  have u256 : w251 275 85 = w9 275 85 := e253.1 275 85 (by omega)
                  have u257 : w251 275 86 = w9 275 86 := e253.1 275 86 (by omega)
                  have u258 : w251 275 87 = w9 275 87 := e253.1 275 87 (by omega)
                  have u259 : w251 275 88 = w9 275 88 := e253.1 275 88 (by omega)
                  have u260 : w251 275 94 = w9 275 94 := e253.1 275 94 (by omega)
                  have c261 := cSt.up c212 hw251
                  have t262t := tkS.lin c261.2.2.2.1
                  have t262f := e_Has.get c261.2.1 (c := 275) (k := 88) (lo := 0) (hi := 7) rfl (by decide)
                  refine e_Ok.rets rfl rfl ?_
                  exact ⟨rfl, (show e_fr (mEx (w 275 78) (w 275 94)) w w251 from e_fr.up f211 hw251 (by first | exact Or.inr (Or.inr ⟨rfl, Or.inr (Or.inl ⟨(by decide), (by decide)⟩)⟩) | (unfold mEx; omega))), c261, by unfold cLn; omega, (fun z => absurd z (by omega))⟩
                · exfalso; omega
                · exfalso; omega
            · exfalso; omega
            · exfalso; omega
          · refine e_Ok.nrm (q := 27) (st' := [(0, 0), (1, 275)]) rfl rfl ?_
            refine e_Ok.callV rfl (e_dq hd rfl) rfl rfl rfl rfl (c_334 (e_dq hd rfl) c212.1 c212.2.1 c212.2.2.1 hNr c212.2.2.2.1 (by omega)) (fun r263 w264 h265 => ?_)
            obtain ⟨rfl, q266⟩ := h265
            obtain ⟨rfl, q266z⟩ | ⟨q266z, q266b, q266, q266s, q266t⟩ | ⟨q266z, q266b, q266, q266T, q266H, q266r⟩ := q266
            · refine e_Ok.nrm (q := 30) (st' := []) rfl rfl ?_
              refine e_Ok.ps1 (x := (1, 275)) (q := 31) 1 rfl ?_
              refine e_Ok.callV rfl (e_dq hd rfl) rfl rfl rfl rfl (c_339_0 (e_dq hd rfl) c212 (by omega)) (fun r267 w268 h269 => ?_)
              obtain ⟨rfl, rfl⟩ := h269
              refine e_Ok.nrm (q := 34) (st' := []) rfl rfl ?_
              refine e_Ok.ps3 (x := (0, 41)) (y := (1, 275)) (z := (1, 275)) (q := 38) 3 rfl ?_
              refine e_Ok.callV rfl (e_dq hd rfl) rfl rfl rfl rfl (c_331 c212.1 (N := N) c212.2.2.2.1) (fun r270 w271 h272 => ?_)
              obtain ⟨z273, rfl, rfl, q274⟩ := h272
              obtain ⟨rfl, q274, q274b⟩ | ⟨rfl, q274n⟩ := q274
              · refine e_Ok.nrm (q := 41) (st' := [(0, 1), (1, 275)]) rfl rfl ?_
                refine e_Ok.callV rfl (e_dq hd rfl) rfl rfl rfl rfl (c_334 (e_dq hd rfl) c212.1 c212.2.1 c212.2.2.1 hNr c212.2.2.2.1 (by omega)) (fun r275 w276 h277 => ?_)
                obtain ⟨rfl, q278⟩ := h277
                obtain ⟨rfl, q278z⟩ | ⟨q278z, q278b, q278, q278s, q278t⟩ | ⟨q278z, q278b, q278, q278T, q278H, q278r⟩ := q278
                · refine e_Ok.nrm (q := 44) (st' := []) rfl rfl ?_
                  refine e_Ok.ps2 (x := (1, 275)) (y := (1, 275)) (q := 46) 2 rfl ?_
                  refine e_Ok.getf (z := w9 275 83) rfl (el_o rfl) rfl (ef_o rfl) rfl (by omega) ?_
                  refine e_Ok.ps1 (x := (0, 1)) (q := 50) 1 rfl ?_
                  refine e_Ok.sub' (z := w9 275 83 - 1) rfl rfl (by omega) ?_
                  refine e_Ok.putf rfl (el_o rfl) rfl (ef_o rfl) ?_
                  generalize hw279 : e_up w9 275 83 (w9 275 83 - 1) = w279
                  have e281 := up83 hw279
                  have e2813 := e281.2
                  have u282 : w279 275 78 = w9 275 78 := e281.1 275 78 (by omega)
                  have u283 : w279 275 84 = w9 275 84 := e281.1 275 84 (by omega)
                  have u284 : w279 275 85 = w9 275 85 := e281.1 275 85 (by omega)
                  have u285 : w279 275 86 = w9 275 86 := e281.1 275 86 (by omega)
                  have u286 : w279 275 87 = w9 275 87 := e281.1 275 87 (by omega)
                  have u287 : w279 275 88 = w9 275 88 := e281.1 275 88 (by omega)
                  have u288 : w279 275 94 = w9 275 94 := e281.1 275 94 (by omega)
                  have c289 := cSt.up c212 hw279
                  have t290t := tkS.lin c289.2.2.2.1
                  have t290f := e_Has.get c289.2.1 (c := 275) (k := 88) (lo := 0) (hi := 7) rfl (by decide)
                  refine e_Ok.rets rfl rfl ?_
                  exact ⟨rfl, (show e_fr (mEx (w 275 78) (w 275 94)) w w279 from e_fr.up f211 hw279 (by first | exact Or.inr (Or.inr ⟨rfl, Or.inr (Or.inl ⟨(by decide), (by decide)⟩)⟩) | (unfold mEx; omega))), c289, by unfold cLn; omega, (fun z => absurd z (by omega))⟩
                · exfalso; omega
                · exfalso; omega
              · refine e_Ok.nrm (q := 41) (st' := [(0, 0), (1, 275)]) rfl rfl ?_
                refine e_Ok.callV rfl (e_dq hd rfl) rfl rfl rfl rfl (c_334 (e_dq hd rfl) c212.1 c212.2.1 c212.2.2.1 hNr c212.2.2.2.1 (by omega)) (fun r291 w292 h293 => ?_)
                obtain ⟨rfl, q294⟩ := h293
                obtain ⟨rfl, q294z⟩ | ⟨q294z, q294b, q294, q294s, q294t⟩ | ⟨q294z, q294b, q294, q294T, q294H, q294r⟩ := q294
                · refine e_Ok.nrm (q := 44) (st' := []) rfl rfl ?_
                  refine e_Ok.ps2 (x := (1, 275)) (y := (1, 275)) (q := 46) 2 rfl ?_
                  refine e_Ok.getf (z := w9 275 83) rfl (el_o rfl) rfl (ef_o rfl) rfl (by omega) ?_
                  refine e_Ok.ps1 (x := (0, 1)) (q := 50) 1 rfl ?_
                  refine e_Ok.sub' (z := w9 275 83 - 1) rfl rfl (by omega) ?_
                  refine e_Ok.putf rfl (el_o rfl) rfl (ef_o rfl) ?_
                  generalize hw295 : e_up w9 275 83 (w9 275 83 - 1) = w295
                  have e297 := up83 hw295
                  have e2973 := e297.2
                  have u298 : w295 275 78 = w9 275 78 := e297.1 275 78 (by omega)
                  have u299 : w295 275 84 = w9 275 84 := e297.1 275 84 (by omega)
                  have u300 : w295 275 85 = w9 275 85 := e297.1 275 85 (by omega)
                  have u301 : w295 275 86 = w9 275 86 := e297.1 275 86 (by omega)
                  have u302 : w295 275 87 = w9 275 87 := e297.1 275 87 (by omega)
                  have u303 : w295 275 88 = w9 275 88 := e297.1 275 88 (by omega)
                  have u304 : w295 275 94 = w9 275 94 := e297.1 275 94 (by omega)
                  have c305 := cSt.up c212 hw295
                  have t306t := tkS.lin c305.2.2.2.1
                  have t306f := e_Has.get c305.2.1 (c := 275) (k := 88) (lo := 0) (hi := 7) rfl (by decide)
                  refine e_Ok.rets rfl rfl ?_
                  exact ⟨rfl, (show e_fr (mEx (w 275 78) (w 275 94)) w w295 from e_fr.up f211 hw295 (by first | exact Or.inr (Or.inr ⟨rfl, Or.inr (Or.inl ⟨(by decide), (by decide)⟩)⟩) | (unfold mEx; omega))), c305, by unfold cLn; omega, (fun z => absurd z (by omega))⟩
                · exfalso; omega
                · exfalso; omega
            · exfalso; omega
            · exfalso; omega
    · refine e_Ok.nrm (q := 13) (st' := [(0, 0)]) rfl rfl ?_
      refine e_Ok.if1 rfl (fun h307 => ?_) (fun h307 => ?_)
      · replace h307 : (0 : Int) = 0 := h307
        refine e_Ok.ps3 (x := (0, 40)) (y := (1, 275)) (z := (1, 275)) (q := 24) 3 rfl ?_
        refine e_Ok.callV rfl (e_dq hd rfl) rfl rfl rfl rfl (c_331 hc.1 (N := N) hc.2.2.2.1) (fun r308 w309 h310 => ?_)
        obtain ⟨z311, rfl, rfl, q312⟩ := h310
        obtain ⟨rfl, q312, q312b⟩ | ⟨rfl, q312n⟩ := q312
        · refine e_Ok.nrm (q := 27) (st' := [(0, 1), (1, 275)]) rfl rfl ?_
          refine e_Ok.callV rfl (e_dq hd rfl) rfl rfl rfl rfl (c_334 (e_dq hd rfl) hc.1 hc.2.1 hc.2.2.1 hNr hc.2.2.2.1 (by omega)) (fun r313 w314 h315 => ?_)
          obtain ⟨rfl, q316⟩ := h315
          obtain ⟨rfl, q316z⟩ | ⟨q316z, q316b, q316, q316s, q316t⟩ | ⟨q316z, q316b, q316, q316T, q316H, q316r⟩ := q316
          · exfalso; omega
          · refine e_Ok.nrm (q := 30) (st' := []) rfl rfl ?_
            have p317 := tkS.pos hc.2.2.2.1 (by omega)
            have u318 : w314 275 78 = w 275 78 := q316 275 78 no_a4_0
            have u319 : w314 275 83 = w 275 83 := q316 275 83 no_a4_1
            have u320 : w314 275 88 = w 275 88 := q316 275 88 no_a4_2
            have u321 : w314 275 94 = w 275 94 := q316 275 94 no_a4_3
            have f322 : e_fr (mEx (w 275 78) (w 275 94)) w w314 := e_fr.trans (e_fr.refl w) (e_fr.mono q316 (fun c k g => by unfold mTq at g; unfold mEx; omega))
            have c323 := cSt.tk hc q316 q316s
            have t324t := tkS.lin c323.2.2.2.1
            have t324f := e_Has.get c323.2.1 (c := 275) (k := 88) (lo := 0) (hi := 7) rfl (by decide)
            have wf325 : Hid (w314 275 88 = 0 → wfE w314 N (w314 275 78) (w314 275 94) nt P s (e)) := Hid.mk (fun z => by rw [u318, u321]; exact wfE.pr (hwH.out (by omega)) (prE.tk q316))
            refine e_Ok.ps1 (x := (1, 275)) (q := 31) 1 rfl ?_
            refine e_Ok.callV rfl (e_dq hd rfl) rfl rfl rfl rfl ((hS (by omega) d rfl) w314 N nt s (e) P c323 hNr (by omega) (by omega) (Eq.trans (f322 275 81 (by first | exact no_a4_4 | (unfold mEx; omega))) hs) (by omega) (wf325.out (by omega)) (by omega)) (fun r326 w327 h329 => ?_)
            obtain ⟨rfl, q331F, q331c, q331l, q331w⟩ := h329
            unfold cLn at q331l
            replace q331w : Hid (w327 275 88 = 0 → wfE w327 N (w327 275 78) (w327 275 94) nt P s (e + 1)) := Hid.mk (fun z => wfE.d (q331w z) (by omega))
            have f332 : e_fr (mEx (w 275 78) (w 275 94)) w w327 := e_fr.trans f322 (e_fr.mono q331F (fun c k g => by unfold mEx at g; unfold mEx; omega))
            have t333t := tkS.lin q331c.2.2.2.1
            have t333f := e_Has.get q331c.2.1 (c := 275) (k := 88) (lo := 0) (hi := 7) rfl (by decide)
            refine e_Ok.nrm (q := 34) (st' := []) rfl rfl ?_
            refine e_Ok.ps3 (x := (0, 41)) (y := (1, 275)) (z := (1, 275)) (q := 38) 3 rfl ?_
            refine e_Ok.callV rfl (e_dq hd rfl) rfl rfl rfl rfl (c_331 q331c.1 (N := N) q331c.2.2.2.1) (fun r334 w335 h336 => ?_)
            obtain ⟨z337, rfl, rfl, q339⟩ := h336
            obtain ⟨rfl, q339, q339b⟩ | ⟨rfl, q339n⟩ := q339
            · refine e_Ok.nrm (q := 41) (st' := [(0, 1), (1, 275)]) rfl rfl ?_
              refine e_Ok.callV rfl (e_dq hd rfl) rfl rfl rfl rfl (c_334 (e_dq hd rfl) q331c.1 q331c.2.1 q331c.2.2.1 hNr q331c.2.2.2.1 (by omega)) (fun r340 w341 h342 => ?_)
              obtain ⟨rfl, q343⟩ := h342
              obtain ⟨rfl, q343z⟩ | ⟨q343z, q343b, q343, q343s, q343t⟩ | ⟨q343z, q343b, q343, q343T, q343H, q343r⟩ := q343
              · refine e_Ok.nrm (q := 44) (st' := []) rfl rfl ?_
                refine e_Ok.ps2 (x := (1, 275)) (y := (1, 275)) (q := 46) 2 rfl ?_
                refine e_Ok.getf (z := w327 275 83) rfl (el_o rfl) rfl (ef_o rfl) rfl (by omega) ?_
                refine e_Ok.ps1 (x := (0, 1)) (q := 50) 1 rfl ?_
                refine e_Ok.sub' (z := w327 275 83 - 1) rfl rfl (by omega) ?_
                refine e_Ok.putf rfl (el_o rfl) rfl (ef_o rfl) ?_
                generalize hw344 : e_up w327 275 83 (w327 275 83 - 1) = w344
                have e346 := up83 hw344
                have e3463 := e346.2
                have u347 : w344 275 78 = w327 275 78 := e346.1 275 78 (by omega)
                have u348 : w344 275 84 = w327 275 84 := e346.1 275 84 (by omega)
                have u349 : w344 275 85 = w327 275 85 := e346.1 275 85 (by omega)
                have u350 : w344 275 86 = w327 275 86 := e346.1 275 86 (by omega)
                have u351 : w344 275 87 = w327 275 87 := e346.1 275 87 (by omega)
                have u352 : w344 275 88 = w327 275 88 := e346.1 275 88 (by omega)
                have u353 : w344 275 94 = w327 275 94 := e346.1 275 94 (by omega)
                have c354 := cSt.up q331c hw344
                have t355t := tkS.lin c354.2.2.2.1
                have t355f := e_Has.get c354.2.1 (c := 275) (k := 88) (lo := 0) (hi := 7) rfl (by decide)
                have wf356 : Hid (w344 275 88 = 0 → wfE w344 N (w344 275 78) (w344 275 94) nt P s (e + 1)) := Hid.mk (fun z => by rw [u347, u353]; exact wfE.pr (q331w.out (by omega)) (prE.up hw344))
                refine e_Ok.rets rfl rfl ?_
                exact ⟨rfl, (show e_fr (mEx (w 275 78) (w 275 94)) w w344 from e_fr.up f332 hw344 (by first | exact Or.inr (Or.inr ⟨rfl, Or.inr (Or.inl ⟨(by decide), (by decide)⟩)⟩) | (unfold mEx; omega))), c354, by unfold cLn; omega, (fun z => absurd z (by omega))⟩
              · refine e_Ok.nrm (q := 44) (st' := []) rfl rfl ?_
                have p357 := tkS.pos q331c.2.2.2.1 (by omega)
                have u358 : w341 275 78 = w327 275 78 := q343 275 78 no_a4_0
                have u359 : w341 275 83 = w327 275 83 := q343 275 83 no_a4_1
                have u360 : w341 275 88 = w327 275 88 := q343 275 88 no_a4_2
                have u361 : w341 275 94 = w327 275 94 := q343 275 94 no_a4_3
                have c363 := cSt.tk q331c q343 q343s
                have t364t := tkS.lin c363.2.2.2.1
                have t364f := e_Has.get c363.2.1 (c := 275) (k := 88) (lo := 0) (hi := 7) rfl (by decide)
                have wf365 : Hid (w341 275 88 = 0 → wfE w341 N (w341 275 78) (w341 275 94) nt P s (e + 1)) := Hid.mk (fun z => by rw [u358, u361]; exact wfE.pr (q331w.out (by omega)) (prE.tk q343))
                refine e_Ok.ps2 (x := (1, 275)) (y := (1, 275)) (q := 46) 2 rfl ?_
                refine e_Ok.getf (z := w341 275 83) rfl (el_o rfl) rfl (ef_o rfl) rfl (by omega) ?_
                refine e_Ok.ps1 (x := (0, 1)) (q := 50) 1 rfl ?_
                refine e_Ok.sub' (z := w341 275 83 - 1) rfl rfl (by omega) ?_
                refine e_Ok.putf rfl (el_o rfl) rfl (ef_o rfl) ?_
                generalize hw366 : e_up w341 275 83 (w341 275 83 - 1) = w366
                have e368 := up83 hw366
                have e3683 := e368.2
                have u369 : w366 275 78 = w341 275 78 := e368.1 275 78 (by omega)
                have u370 : w366 275 84 = w341 275 84 := e368.1 275 84 (by omega)
                have u371 : w366 275 85 = w341 275 85 := e368.1 275 85 (by omega)
                have u372 : w366 275 86 = w341 275 86 := e368.1 275 86 (by omega)
                have u373 : w366 275 87 = w341 275 87 := e368.1 275 87 (by omega)
                have u374 : w366 275 88 = w341 275 88 := e368.1 275 88 (by omega)
                have u375 : w366 275 94 = w341 275 94 := e368.1 275 94 (by omega)
                have c376 := cSt.up c363 hw366
                have t377t := tkS.lin c376.2.2.2.1
                have t377f := e_Has.get c376.2.1 (c := 275) (k := 88) (lo := 0) (hi := 7) rfl (by decide)
                have wf378 : Hid (w366 275 88 = 0 → wfE w366 N (w366 275 78) (w366 275 94) nt P s (e + 1)) := Hid.mk (fun z => by rw [u369, u375]; exact wfE.pr (wf365.out (by omega)) (prE.up hw366))
                refine e_Ok.rets rfl rfl ?_
                exact ⟨rfl, (show e_fr (mEx (w 275 78) (w 275 94)) w w366 from e_fr.up (show e_fr (mEx (w 275 78) (w 275 94)) w w341 from e_fr.trans f332 (e_fr.mono q343 (fun c k g => by unfold mTq at g; unfold mEx; omega))) hw366 (by first | exact Or.inr (Or.inr ⟨rfl, Or.inr (Or.inl ⟨(by decide), (by decide)⟩)⟩) | (unfold mEx; omega))), c376, by unfold cLn; omega, wf378.out⟩
              · exfalso; omega
            · refine e_Ok.nrm (q := 41) (st' := [(0, 0), (1, 275)]) rfl rfl ?_
              refine e_Ok.callV rfl (e_dq hd rfl) rfl rfl rfl rfl (c_334 (e_dq hd rfl) q331c.1 q331c.2.1 q331c.2.2.1 hNr q331c.2.2.2.1 (by omega)) (fun r379 w380 h381 => ?_)
              obtain ⟨rfl, q382⟩ := h381
              obtain ⟨rfl, q382z⟩ | ⟨q382z, q382b, q382, q382s, q382t⟩ | ⟨q382z, q382b, q382, q382T, q382H, q382r⟩ := q382
              · refine e_Ok.nrm (q := 44) (st' := []) rfl rfl ?_
                refine e_Ok.ps2 (x := (1, 275)) (y := (1, 275)) (q := 46) 2 rfl ?_
                refine e_Ok.getf (z := w327 275 83) rfl (el_o rfl) rfl (ef_o rfl) rfl (by omega) ?_
                refine e_Ok.ps1 (x := (0, 1)) (q := 50) 1 rfl ?_
                refine e_Ok.sub' (z := w327 275 83 - 1) rfl rfl (by omega) ?_
                refine e_Ok.putf rfl (el_o rfl) rfl (ef_o rfl) ?_
                generalize hw383 : e_up w327 275 83 (w327 275 83 - 1) = w383
                have e385 := up83 hw383
                have e3853 := e385.2
                have u386 : w383 275 78 = w327 275 78 := e385.1 275 78 (by omega)
                have u387 : w383 275 84 = w327 275 84 := e385.1 275 84 (by omega)
                have u388 : w383 275 85 = w327 275 85 := e385.1 275 85 (by omega)
                have u389 : w383 275 86 = w327 275 86 := e385.1 275 86 (by omega)
                have u390 : w383 275 87 = w327 275 87 := e385.1 275 87 (by omega)
                have u391 : w383 275 88 = w327 275 88 := e385.1 275 88 (by omega)
                have u392 : w383 275 94 = w327 275 94 := e385.1 275 94 (by omega)
                have c393 := cSt.up q331c hw383
                have t394t := tkS.lin c393.2.2.2.1
                have t394f := e_Has.get c393.2.1 (c := 275) (k := 88) (lo := 0) (hi := 7) rfl (by decide)
                have wf395 : Hid (w383 275 88 = 0 → wfE w383 N (w383 275 78) (w383 275 94) nt P s (e + 1)) := Hid.mk (fun z => by rw [u386, u392]; exact wfE.pr (q331w.out (by omega)) (prE.up hw383))
                refine e_Ok.rets rfl rfl ?_
                exact ⟨rfl, (show e_fr (mEx (w 275 78) (w 275 94)) w w383 from e_fr.up f332 hw383 (by first | exact Or.inr (Or.inr ⟨rfl, Or.inr (Or.inl ⟨(by decide), (by decide)⟩)⟩) | (unfold mEx; omega))), c393, by unfold cLn; omega, (fun z => absurd z (by omega))⟩
              · exfalso; omega
              · refine e_Ok.nrm (q := 44) (st' := []) rfl rfl ?_
                have u396 : w380 275 78 = w327 275 78 := q382 275 78 no_a4_5
                have u397 : w380 275 83 = w327 275 83 := q382 275 83 no_a4_6
                have u398 : w380 275 84 = w327 275 84 := q382 275 84 no_a4_7
                have u399 : w380 275 85 = w327 275 85 := q382 275 85 no_a4_8
                have u400 : w380 275 86 = w327 275 86 := q382 275 86 no_a4_9
                have u401 : w380 275 87 = w327 275 87 := q382 275 87 no_a4_10
                have u402 : w380 275 94 = w327 275 94 := q382 275 94 no_a4_11
                have c404 := cSt.rf q331c q382 q382T q382H
                have t405t := tkS.lin c404.2.2.2.1
                have t405f := e_Has.get c404.2.1 (c := 275) (k := 88) (lo := 0) (hi := 7) rfl (by decide)
                refine e_Ok.ps2 (x := (1, 275)) (y := (1, 275)) (q := 46) 2 rfl ?_
                refine e_Ok.getf (z := w380 275 83) rfl (el_o rfl) rfl (ef_o rfl) rfl (by omega) ?_
                refine e_Ok.ps1 (x := (0, 1)) (q := 50) 1 rfl ?_
                refine e_Ok.sub' (z := w380 275 83 - 1) rfl rfl (by omega) ?_
                refine e_Ok.putf rfl (el_o rfl) rfl (ef_o rfl) ?_
                generalize hw406 : e_up w380 275 83 (w380 275 83 - 1) = w406
                have e408 := up83 hw406
                have e4083 := e408.2
                have u409 : w406 275 78 = w380 275 78 := e408.1 275 78 (by omega)
                have u410 : w406 275 84 = w380 275 84 := e408.1 275 84 (by omega)
                have u411 : w406 275 85 = w380 275 85 := e408.1 275 85 (by omega)
                have u412 : w406 275 86 = w380 275 86 := e408.1 275 86 (by omega)
                have u413 : w406 275 87 = w380 275 87 := e408.1 275 87 (by omega)
                have u414 : w406 275 88 = w380 275 88 := e408.1 275 88 (by omega)
                have u415 : w406 275 94 = w380 275 94 := e408.1 275 94 (by omega)
                have c417 := cSt.up c404 hw406
                have t418t := tkS.lin c417.2.2.2.1
                have t418f := e_Has.get c417.2.1 (c := 275) (k := 88) (lo := 0) (hi := 7) rfl (by decide)
                refine e_Ok.rets rfl rfl ?_
                exact ⟨rfl, (show e_fr (mEx (w 275 78) (w 275 94)) w w406 from e_fr.up (show e_fr (mEx (w 275 78) (w 275 94)) w w380 from e_fr.trans f332 (e_fr.mono q382 (fun c k g => by unfold mRf at g; unfold mEx; omega))) hw406 (by first | exact Or.inr (Or.inr ⟨rfl, Or.inr (Or.inl ⟨(by decide), (by decide)⟩)⟩) | (unfold mEx; omega))), c417, by unfold cLn; omega, (fun z => absurd z (by omega))⟩
          · exfalso; omega
        · refine e_Ok.nrm (q := 27) (st' := [(0, 0), (1, 275)]) rfl rfl ?_
          refine e_Ok.callV rfl (e_dq hd rfl) rfl rfl rfl rfl (c_334 (e_dq hd rfl) hc.1 hc.2.1 hc.2.2.1 hNr hc.2.2.2.1 (by omega)) (fun r419 w420 h421 => ?_)
          obtain ⟨rfl, q422⟩ := h421
          obtain ⟨rfl, q422z⟩ | ⟨q422z, q422b, q422, q422s, q422t⟩ | ⟨q422z, q422b, q422, q422T, q422H, q422r⟩ := q422
          · exfalso; omega
          · exfalso; omega
          · refine e_Ok.nrm (q := 30) (st' := []) rfl rfl ?_
            have u423 : w420 275 78 = w 275 78 := q422 275 78 no_a4_5
            have u424 : w420 275 83 = w 275 83 := q422 275 83 no_a4_6
            have u425 : w420 275 84 = w 275 84 := q422 275 84 no_a4_7
            have u426 : w420 275 85 = w 275 85 := q422 275 85 no_a4_8
            have u427 : w420 275 86 = w 275 86 := q422 275 86 no_a4_9
            have u428 : w420 275 87 = w 275 87 := q422 275 87 no_a4_10
            have u429 : w420 275 94 = w 275 94 := q422 275 94 no_a4_11
            have f430 : e_fr (mEx (w 275 78) (w 275 94)) w w420 := e_fr.trans (e_fr.refl w) (e_fr.mono q422 (fun c k g => by unfold mRf at g; unfold mEx; omega))
            have c431 := cSt.rf hc q422 q422T q422H
            have t432t := tkS.lin c431.2.2.2.1
            have t432f := e_Has.get c431.2.1 (c := 275) (k := 88) (lo := 0) (hi := 7) rfl (by decide)
            refine e_Ok.ps1 (x := (1, 275)) (q := 31) 1 rfl ?_
            refine e_Ok.callV rfl (e_dq hd rfl) rfl rfl rfl rfl (c_339_0 (e_dq hd rfl) c431 (by omega)) (fun r433 w434 h435 => ?_)
            obtain ⟨rfl, rfl⟩ := h435
            refine e_Ok.nrm (q := 34) (st' := []) rfl rfl ?_
            refine e_Ok.ps3 (x := (0, 41)) (y := (1, 275)) (z := (1, 275)) (q := 38) 3 rfl ?_
            refine e_Ok.callV rfl (e_dq hd rfl) rfl rfl rfl rfl (c_331 c431.1 (N := N) c431.2.2.2.1) (fun r436 w437 h438 => ?_)
            obtain ⟨z439, rfl, rfl, q440⟩ := h438
            obtain ⟨rfl, q440, q440b⟩ | ⟨rfl, q440n⟩ := q440
            · refine e_Ok.nrm (q := 41) (st' := [(0, 1), (1, 275)]) rfl rfl ?_
              refine e_Ok.callV rfl (e_dq hd rfl) rfl rfl rfl rfl (c_334 (e_dq hd rfl) c431.1 c431.2.1 c431.2.2.1 hNr c431.2.2.2.1 (by omega)) (fun r441 w442 h443 => ?_)
              obtain ⟨rfl, q444⟩ := h443
              obtain ⟨rfl, q444z⟩ | ⟨q444z, q444b, q444, q444s, q444t⟩ | ⟨q444z, q444b, q444, q444T, q444H, q444r⟩ := q444
              · refine e_Ok.nrm (q := 44) (st' := []) rfl rfl ?_
                refine e_Ok.ps2 (x := (1, 275)) (y := (1, 275)) (q := 46) 2 rfl ?_
                refine e_Ok.getf (z := w420 275 83) rfl (el_o rfl) rfl (ef_o rfl) rfl (by omega) ?_
                refine e_Ok.ps1 (x := (0, 1)) (q := 50) 1 rfl ?_
                refine e_Ok.sub' (z := w420 275 83 - 1) rfl rfl (by omega) ?_
                refine e_Ok.putf rfl (el_o rfl) rfl (ef_o rfl) ?_
                generalize hw445 : e_up w420 275 83 (w420 275 83 - 1) = w445
                have e447 := up83 hw445
                have e4473 := e447.2
                have u448 : w445 275 78 = w420 275 78 := e447.1 275 78 (by omega)
                have u449 : w445 275 84 = w420 275 84 := e447.1 275 84 (by omega)
                have u450 : w445 275 85 = w420 275 85 := e447.1 275 85 (by omega)
                have u451 : w445 275 86 = w420 275 86 := e447.1 275 86 (by omega)
                have u452 : w445 275 87 = w420 275 87 := e447.1 275 87 (by omega)
                have u453 : w445 275 88 = w420 275 88 := e447.1 275 88 (by omega)
                have u454 : w445 275 94 = w420 275 94 := e447.1 275 94 (by omega)
                have c455 := cSt.up c431 hw445
                have t456t := tkS.lin c455.2.2.2.1
                have t456f := e_Has.get c455.2.1 (c := 275) (k := 88) (lo := 0) (hi := 7) rfl (by decide)
                refine e_Ok.rets rfl rfl ?_
                exact ⟨rfl, (show e_fr (mEx (w 275 78) (w 275 94)) w w445 from e_fr.up f430 hw445 (by first | exact Or.inr (Or.inr ⟨rfl, Or.inr (Or.inl ⟨(by decide), (by decide)⟩)⟩) | (unfold mEx; omega))), c455, by unfold cLn; omega, (fun z => absurd z (by omega))⟩
              · exfalso; omega
              · exfalso; omega
            · refine e_Ok.nrm (q := 41) (st' := [(0, 0), (1, 275)]) rfl rfl ?_
              refine e_Ok.callV rfl (e_dq hd rfl) rfl rfl rfl rfl (c_334 (e_dq hd rfl) c431.1 c431.2.1 c431.2.2.1 hNr c431.2.2.2.1 (by omega)) (fun r457 w458 h459 => ?_)
              obtain ⟨rfl, q460⟩ := h459
              obtain ⟨rfl, q460z⟩ | ⟨q460z, q460b, q460, q460s, q460t⟩ | ⟨q460z, q460b, q460, q460T, q460H, q460r⟩ := q460
              · refine e_Ok.nrm (q := 44) (st' := []) rfl rfl ?_
                refine e_Ok.ps2 (x := (1, 275)) (y := (1, 275)) (q := 46) 2 rfl ?_
                refine e_Ok.getf (z := w420 275 83) rfl (el_o rfl) rfl (ef_o rfl) rfl (by omega) ?_
                refine e_Ok.ps1 (x := (0, 1)) (q := 50) 1 rfl ?_
                refine e_Ok.sub' (z := w420 275 83 - 1) rfl rfl (by omega) ?_
                refine e_Ok.putf rfl (el_o rfl) rfl (ef_o rfl) ?_
                generalize hw461 : e_up w420 275 83 (w420 275 83 - 1) = w461
                have e463 := up83 hw461
                have e4633 := e463.2
                have u464 : w461 275 78 = w420 275 78 := e463.1 275 78 (by omega)
                have u465 : w461 275 84 = w420 275 84 := e463.1 275 84 (by omega)
                have u466 : w461 275 85 = w420 275 85 := e463.1 275 85 (by omega)
                have u467 : w461 275 86 = w420 275 86 := e463.1 275 86 (by omega)
                have u468 : w461 275 87 = w420 275 87 := e463.1 275 87 (by omega)
                have u469 : w461 275 88 = w420 275 88 := e463.1 275 88 (by omega)
                have u470 : w461 275 94 = w420 275 94 := e463.1 275 94 (by omega)
                have c471 := cSt.up c431 hw461
                have t472t := tkS.lin c471.2.2.2.1
                have t472f := e_Has.get c471.2.1 (c := 275) (k := 88) (lo := 0) (hi := 7) rfl (by decide)
                refine e_Ok.rets rfl rfl ?_
                exact ⟨rfl, (show e_fr (mEx (w 275 78) (w 275 94)) w w461 from e_fr.up f430 hw461 (by first | exact Or.inr (Or.inr ⟨rfl, Or.inr (Or.inl ⟨(by decide), (by decide)⟩)⟩) | (unfold mEx; omega))), c471, by unfold cLn; omega, (fun z => absurd z (by omega))⟩
              · exfalso; omega
              · exfalso; omega
      · replace h307 : (0 : Int) ≠ 0 := (show ¬ ((0 : Int) = 0) from h307)
        exfalso; omega
end
end
-- part a5
section
noncomputable section
theorem no_a5_0 : ¬ mTq 275 78 := by unfold mTq; omega
theorem no_a5_1 : ¬ mTq 275 83 := by unfold mTq; omega
theorem no_a5_2 : ¬ mTq 275 88 := by unfold mTq; omega
theorem no_a5_3 : ¬ mTq 275 94 := by unfold mTq; omega
theorem no_a5_4 {n : Int} {m : Int} : ¬ mEx n m 275 81 := by unfold mEx; omega
theorem no_a5_5 : ¬ mRf 275 78 := by unfold mRf; omega
theorem no_a5_6 : ¬ mRf 275 83 := by unfold mRf; omega
theorem no_a5_7 : ¬ mRf 275 84 := by unfold mRf; omega
theorem no_a5_8 : ¬ mRf 275 85 := by unfold mRf; omega
theorem no_a5_9 : ¬ mRf 275 86 := by unfold mRf; omega
theorem no_a5_10 : ¬ mRf 275 87 := by unfold mRf; omega
theorem no_a5_11 : ¬ mRf 275 94 := by unfold mRf; omega
theorem no_a5_12 : ¬ mNm 275 78 := by unfold mNm; omega
theorem no_a5_13 : ¬ mNm 275 83 := by unfold mNm; omega
theorem no_a5_14 : ¬ mNm 275 84 := by unfold mNm; omega
theorem no_a5_15 : ¬ mNm 275 85 := by unfold mNm; omega
theorem no_a5_16 : ¬ mNm 275 86 := by unfold mNm; omega
theorem no_a5_17 : ¬ mNm 275 87 := by unfold mNm; omega
theorem no_a5_18 : ¬ mNm 275 88 := by unfold mNm; omega
set_option maxHeartbeats 4000000 in
theorem c_346 {d : Nat} (hd : 47 ≤ d) {w : eW} {N nt s e o F : Int} {P : Int → Prop} (hc : cSt w N) (hNr : 0 ≤ N ∧ N ≤ 4000) (h0 : w 275 88 = 0) (ho : w 275 83 = o) (hs : w 275 81 = s) (hb : 0 ≤ w 275 78 ∧ w 275 78 + 2 * (N - w 275 86) ≤ 8100 ∧ 0 ≤ w 275 94 ∧ w 275 94 + (N - w 275 86) ≤ 4050) (hw : wfE w N (w 275 78) (w 275 94) nt P s e) (he : e ≤ w 275 86) (hor : 0 ≤ o ∧ o ≤ 30) (hF : 0 ≤ F ∧ F ≤ 400) (hF1 : 1 ≤ F) (hS : o < 30 → ∀ k, d = k + 1 → exC 346 (o + 1) (F - 1) k) (hB : ∀ k, d = k + 1 → exC 345 o (F - 1) k) : e_Ok 20 elay ecode eI d 346 (0, [(0, (1, 275))], [], w) (fun r w' => r = [] ∧ exQ w w' N nt P s (e + 1) (F)) := by
  obtain ⟨d, rfl⟩ : ∃ e, d = e + 1 := ⟨d - 1, by omega⟩
  have hct := tkS.lin hc.2.2.2.1
  have hcf := e_Has.get hc.2.1 (c := 275) (k := 88) (lo := 0) (hi := 7) rfl (by decide)
  have hsb := hc.2.2.2.2
  rw [hs] at hsb
  have he0 := hw.2.2.2.2.2.1
  have hwH : Hid (w 275 88 = 0 → wfE w N (w 275 78) (w 275 94) nt P s e) := Hid.mk (fun _ => hw)
  refine e_Ok.run (t' := (1, [(0, (1, 275))], [(1, 275)], w)) 1 rfl ?_
  refine e_Ok.getf (z := w 275 88) rfl (el_o rfl) rfl (ef_o rfl) rfl (by omega) ?_
  refine e_Ok.if1 rfl (fun h1 => ?_) (fun h1 => ?_)
  · replace h1 : (w 275 88 : Int) = 0 := h1
    refine e_Ok.ps2 (x := (0, 45)) (y := (1, 275)) (q := 11) 2 rfl ?_
    refine e_Ok.callV rfl (e_dq hd rfl) rfl rfl rfl rfl (c_331 hc.1 (N := N) hc.2.2.2.1) (fun r2 w3 h4 => ?_)
    obtain ⟨z5, rfl, rfl, q6⟩ := h4
    obtain ⟨rfl, q6, q6b⟩ | ⟨rfl, q6n⟩ := q6
    · refine e_Ok.nrm (q := 14) (st' := [(0, 1)]) rfl rfl ?_
      refine e_Ok.if1 rfl (fun h7 => ?_) (fun h7 => ?_)
      · replace h7 : (1 : Int) = 0 := h7
        exfalso; omega
      · replace h7 : (1 : Int) ≠ 0 := (show ¬ ((1 : Int) = 0) from h7)
        refine e_Ok.ps1 (x := (1, 275)) (q := 18) 1 rfl ?_
        refine e_Ok.callV rfl (e_dq hd rfl) rfl rfl rfl rfl (c_335 (e_dq hd rfl) hc.1 hc.2.1 hc.2.2.1 hNr hc.2.2.2.1 (o := w 275 83) rfl (by omega)) (fun r8 w9 h10 => ?_)
        obtain ⟨rfl, q11o, q11⟩ := h10
        obtain ⟨q11, q11n⟩ | ⟨q11z, q11n, w12, q11u, q11, q11T, q11H, q11r⟩ := q11
        · refine e_Ok.nrm (q := 21) (st' := []) rfl rfl ?_
          have e13 := up83 q11
          have e133 := e13.2
          have u14 : w9 275 78 = w 275 78 := e13.1 275 78 (by omega)
          have u15 : w9 275 84 = w 275 84 := e13.1 275 84 (by omega)
          have u16 : w9 275 85 = w 275 85 := e13.1 275 85 (by omega)
          have u17 : w9 275 86 = w 275 86 := e13.1 275 86 (by omega)
          have u18 : w9 275 87 = w 275 87 := e13.1 275 87 (by omega)
          have u19 : w9 275 88 = w 275 88 := e13.1 275 88 (by omega)
          have u20 : w9 275 94 = w 275 94 := e13.1 275 94 (by omega)
          have c22 := cSt.up hc q11
          have t23t := tkS.lin c22.2.2.2.1
          have t23f := e_Has.get c22.2.1 (c := 275) (k := 88) (lo := 0) (hi := 7) rfl (by decide)
          have wf24 : Hid (w9 275 88 = 0 → wfE w9 N (w9 275 78) (w9 275 94) nt P s (e)) := Hid.mk (fun z => by rw [u14, u20]; exact wfE.pr (hwH.out (by omega)) (prE.up q11))
          refine e_Ok.ps1 (x := (1, 275)) (q := 22) 1 rfl ?_
          refine e_Ok.callV rfl (e_dq hd rfl) rfl rfl rfl rfl (c_327 (e_dq hd rfl) c22.1 c22.2.1 c22.2.2.1 hNr (t := w9 275 87) rfl (by omega)) (fun r25 w26 h27 => ?_)
          have p29 := tkS.pos c22.2.2.2.1 (by omega)
          obtain ⟨rfl, q28, q28s, q28t⟩ := h27
          have u30 : w26 275 78 = w9 275 78 := q28 275 78 no_a5_0
          have u31 : w26 275 83 = w9 275 83 := q28 275 83 no_a5_1
          have u32 : w26 275 88 = w9 275 88 := q28 275 88 no_a5_2
          have u33 : w26 275 94 = w9 275 94 := q28 275 94 no_a5_3
          have f34 : e_fr (mEx (w 275 78) (w 275 94)) w w26 := e_fr.trans (show e_fr (mEx (w 275 78) (w 275 94)) w w9 from e_fr.trans (e_fr.refl w) (fun c k g => e13.1 c k (fun g2 => g (by unfold mEx; omega)))) (e_fr.mono q28 (fun c k g => by unfold mTq at g; unfold mEx; omega))
          have c35 := cSt.tk c22 q28 q28s
          have t36t := tkS.lin c35.2.2.2.1
          have t36f := e_Has.get c35.2.1 (c := 275) (k := 88) (lo := 0) (hi := 7) rfl (by decide)
          have wf37 : Hid (w26 275 88 = 0 → wfE w26 N (w26 275 78) (w26 275 94) nt P s (e)) := Hid.mk (fun z => by rw [u30, u33]; exact wfE.pr (wf24.out (by omega)) (prE.tk q28))
          refine e_Ok.nrm (q := 25) (st' := []) rfl rfl ?_
          refine e_Ok.ps1 (x := (1, 275)) (q := 26) 1 rfl ?_
          refine e_Ok.callV rfl (e_dq hd rfl) rfl rfl rfl rfl ((hS (by omega) d rfl) w26 N nt s (e) P c35 hNr (by omega) (by omega) (Eq.trans (f34 275 81 (by first | exact no_a5_4 | (unfold mEx; omega))) hs) (by omega) (wf37.out (by omega)) (by omega)) (fun r38 w40 h41 => ?_)
          obtain ⟨rfl, q42F, q42c, q42l, q42w⟩ := h41
          unfold cLn at q42l
          replace q42w : Hid (w40 275 88 = 0 → wfE w40 N (w40 275 78) (w40 275 94) nt P s (e + 1)) := Hid.mk (fun z => wfE.d (q42w z) (by omega))
          have t44t := tkS.lin q42c.2.2.2.1
          have t44f := e_Has.get q42c.2.1 (c := 275) (k := 88) (lo := 0) (hi := 7) rfl (by decide)
          refine e_Ok.nrm (q := 29) (st' := []) rfl rfl ?_
          refine e_Ok.ps2 (x := (1, 275)) (y := (1, 275)) (q := 31) 2 rfl ?_
          refine e_Ok.getf (z := w40 275 83) rfl (el_o rfl) rfl (ef_o rfl) rfl (by omega) ?_
          refine e_Ok.ps1 (x := (0, 1)) (q := 35) 1 rfl ?_
          refine e_Ok.sub' (z := w40 275 83 - 1) rfl rfl (by omega) ?_
          refine e_Ok.putf rfl (el_o rfl) rfl (ef_o rfl) ?_
          generalize hw45 : e_up w40 275 83 (w40 275 83 - 1) = w45
          have f46 : e_fr (mEx (w 275 78) (w 275 94)) w w45 := e_fr.up (show e_fr (mEx (w 275 78) (w 275 94)) w w40 from e_fr.trans f34 (e_fr.mono q42F (fun c k g => by unfold mEx at g; unfold mEx; omega))) hw45 (by first | exact Or.inr (Or.inr ⟨rfl, Or.inr (Or.inl ⟨(by decide), (by decide)⟩)⟩) | (unfold mEx; omega))
          have e47 := up83 hw45
          have e473 := e47.2
          have u48 : w45 275 78 = w40 275 78 := e47.1 275 78 (by omega)
          have u49 : w45 275 84 = w40 275 84 := e47.1 275 84 (by omega)
          have u50 : w45 275 85 = w40 275 85 := e47.1 275 85 (by omega)
          have u51 : w45 275 86 = w40 275 86 := e47.1 275 86 (by omega)
          have u52 : w45 275 87 = w40 275 87 := e47.1 275 87 (by omega)
          have u53 : w45 275 88 = w40 275 88 := e47.1 275 88 (by omega)
          have u54 : w45 275 94 = w40 275 94 := e47.1 275 94 (by omega)
          have c55 := cSt.up q42c hw45
          have t56t := tkS.lin c55.2.2.2.1
          have t56f := e_Has.get c55.2.1 (c := 275) (k := 88) (lo := 0) (hi := 7) rfl (by decide)
          have wf57 : Hid (w45 275 88 = 0 → wfE w45 N (w45 275 78) (w45 275 94) nt P s (e + 1)) := Hid.mk (fun z => by rw [u48, u54]; exact wfE.pr (q42w.out (by omega)) (prE.up hw45))
          refine e_Ok.ps3 (x := (0, 0)) (y := (0, 9)) (z := (1, 275)) (q := 43) 3 rfl ?_
          refine e_Ok.callV rfl (e_dq hd rfl) rfl rfl rfl rfl (c_336 c55.1 (n := w45 275 78) rfl (by omega) (s := s) (Eq.trans (f46 275 81 (by first | exact no_a5_4 | (unfold mEx; omega))) hs) (by omega)) (fun r58 w59 h60 => ?_)
          obtain ⟨rfl, q61⟩ := h60
          have u62 : w59 275 78 = w45 275 78 + 1 := q61.2.2.2.2
          have u63 : w59 275 83 = w45 275 83 := q61.1 275 83 (by omega)
          have u64 : w59 275 84 = w45 275 84 := q61.1 275 84 (by omega)
          have u65 : w59 275 85 = w45 275 85 := q61.1 275 85 (by omega)
          have u66 : w59 275 86 = w45 275 86 := q61.1 275 86 (by omega)
          have u67 : w59 275 87 = w45 275 87 := q61.1 275 87 (by omega)
          have u68 : w59 275 88 = w45 275 88 := q61.1 275 88 (by omega)
          have u69 : w59 275 94 = w45 275 94 := q61.1 275 94 (by omega)
          have c71 := cSt.em c55 q61 (by omega) (by omega) (by omega)
          have t72t := tkS.lin c71.2.2.2.1
          have t72f := e_Has.get c71.2.1 (c := 275) (k := 88) (lo := 0) (hi := 7) rfl (by decide)
          have wf73 : Hid (w59 275 88 = 0 → wfE w59 N (w59 275 78) (w59 275 94) nt P s (e + 1)) := Hid.mk (fun z => by rw [u62, u69]; exact wfE.d (wfE.em (wf57.out (by omega)) q61 (by decide) (by decide) (by decide) (by decide) (by unfold iOw; omega) (by rw [show nxD 9 (e + 1) = e + 1 from by unfold nxD; rw [if_neg (by omega), if_neg (by omega), if_neg (by omega)] <;> omega]; omega)) (by unfold nxD; rw [if_neg (by omega), if_neg (by omega), if_neg (by omega)] <;> omega))
          refine e_Ok.nrm (q := 46) (st' := [(0, w45 275 78)]) rfl rfl ?_
          refine e_Ok.run (t' := (242, [(0, (1, 275))], [], w59)) 2 rfl ?_
          refine e_Ok.rets rfl rfl ?_
          exact ⟨rfl, (show e_fr (mEx (w 275 78) (w 275 94)) w w59 from e_fr.trans f46 (fun c k g => q61.1 c k (fun g2 => g (by unfold mEx; omega)))), c71, by unfold cLn; omega, wf73.out⟩
        · refine e_Ok.nrm (q := 21) (st' := []) rfl rfl ?_
          have u74 : w12 275 78 = w 275 78 := q11 275 78 no_a5_5
          have u75 : w12 275 83 = w 275 83 := q11 275 83 no_a5_6
          have u76 : w12 275 84 = w 275 84 := q11 275 84 no_a5_7
          have u77 : w12 275 85 = w 275 85 := q11 275 85 no_a5_8
          have u78 : w12 275 86 = w 275 86 := q11 275 86 no_a5_9
          have u79 : w12 275 87 = w 275 87 := q11 275 87 no_a5_10
          have u80 : w12 275 94 = w 275 94 := q11 275 94 no_a5_11
          have c82 := cSt.rf hc q11 q11T q11H
          have t83t := tkS.lin c82.2.2.2.1
          have t83f := e_Has.get c82.2.1 (c := 275) (k := 88) (lo := 0) (hi := 7) rfl (by decide)
          have e84 := up83 q11u
          have e843 := e84.2
          have u85 : w9 275 78 = w12 275 78 := e84.1 275 78 (by omega)
          have u86 : w9 275 84 = w12 275 84 := e84.1 275 84 (by omega)
          have u87 : w9 275 85 = w12 275 85 := e84.1 275 85 (by omega)
          have u88 : w9 275 86 = w12 275 86 := e84.1 275 86 (by omega)
          have u89 : w9 275 87 = w12 275 87 := e84.1 275 87 (by omega)
          have u90 : w9 275 88 = w12 275 88 := e84.1 275 88 (by omega)
          have u91 : w9 275 94 = w12 275 94 := e84.1 275 94 (by omega)
          have c93 := cSt.up c82 q11u
          have t94t := tkS.lin c93.2.2.2.1
          have t94f := e_Has.get c93.2.1 (c := 275) (k := 88) (lo := 0) (hi := 7) rfl (by decide)
          refine e_Ok.ps1 (x := (1, 275)) (q := 22) 1 rfl ?_
          refine e_Ok.callV rfl (e_dq hd rfl) rfl rfl rfl rfl (c_327 (e_dq hd rfl) c93.1 c93.2.1 c93.2.2.1 hNr (t := w9 275 87) rfl (by omega)) (fun r95 w101 h103 => ?_)
          obtain ⟨rfl, q104, q104s, q104t⟩ := h103
          have u105 : w101 275 78 = w9 275 78 := q104 275 78 no_a5_0
          have u106 : w101 275 83 = w9 275 83 := q104 275 83 no_a5_1
          have u107 : w101 275 88 = w9 275 88 := q104 275 88 no_a5_2
          have u108 : w101 275 94 = w9 275 94 := q104 275 94 no_a5_3
          have c110 := cSt.tk c93 q104 q104s
          have t111t := tkS.lin c110.2.2.2.1
          have t111f := e_Has.get c110.2.1 (c := 275) (k := 88) (lo := 0) (hi := 7) rfl (by decide)
          refine e_Ok.nrm (q := 25) (st' := []) rfl rfl ?_
          refine e_Ok.ps1 (x := (1, 275)) (q := 26) 1 rfl ?_
          refine e_Ok.callV rfl (e_dq hd rfl) rfl rfl rfl rfl (c_346_0 (e_dq hd rfl) c110 (by omega)) (fun r112 w113 h114 => ?_)
          obtain ⟨rfl, rfl⟩ := h114
          refine e_Ok.nrm (q := 29) (st' := []) rfl rfl ?_
          refine e_Ok.ps2 (x := (1, 275)) (y := (1, 275)) (q := 31) 2 rfl ?_
          refine e_Ok.getf (z := w101 275 83) rfl (el_o rfl) rfl (ef_o rfl) rfl (by omega) ?_
          refine e_Ok.ps1 (x := (0, 1)) (q := 35) 1 rfl ?_
          refine e_Ok.sub' (z := w101 275 83 - 1) rfl rfl (by omega) ?_
          refine e_Ok.putf rfl (el_o rfl) rfl (ef_o rfl) ?_
          generalize hw115 : e_up w101 275 83 (w101 275 83 - 1) = w115
          have f116 : e_fr (mEx (w 275 78) (w 275 94)) w w115 := e_fr.up (show e_fr (mEx (w 275 78) (w 275 94)) w w101 from e_fr.trans (show e_fr (mEx (w 275 78) (w 275 94)) w w9 from e_fr.trans (show e_fr (mEx (w 275 78) (w 275 94)) w w12 from e_fr.trans (e_fr.refl w) (e_fr.mono q11 (fun c k g => by unfold mRf at g; unfold mEx; omega))) (fun c k g => e84.1 c k (fun g2 => g (by unfold mEx; omega)))) (e_fr.mono q104 (fun c k g => by unfold mTq at g; unfold mEx; omega))) hw115 (by first | exact Or.inr (Or.inr ⟨rfl, Or.inr (Or.inl ⟨(by decide), (by decide)⟩)⟩) | (unfold mEx; omega))
          have e117 := up83 hw115
          have e1173 := e117.2
          have u118 : w115 275 78 = w101 275 78 := e117.1 275 78 (by omega)
          have u119 : w115 275 84 = w101 275 84 := e117.1 275 84 (by omega)
          have u120 : w115 275 85 = w101 275 85 := e117.1 275 85 (by omega)
          have u121 : w115 275 86 = w101 275 86 := e117.1 275 86 (by omega)
          have u122 : w115 275 87 = w101 275 87 := e117.1 275 87 (by omega)
          have u123 : w115 275 88 = w101 275 88 := e117.1 275 88 (by omega)
          have u124 : w115 275 94 = w101 275 94 := e117.1 275 94 (by omega)
          have c125 := cSt.up c110 hw115
          have t126t := tkS.lin c125.2.2.2.1
          have t126f := e_Has.get c125.2.1 (c := 275) (k := 88) (lo := 0) (hi := 7) rfl (by decide)
          refine e_Ok.ps3 (x := (0, 0)) (y := (0, 9)) (z := (1, 275)) (q := 43) 3 rfl ?_
          refine e_Ok.callV rfl (e_dq hd rfl) rfl rfl rfl rfl (c_336 c125.1 (n := w115 275 78) rfl (by omega) (s := s) (Eq.trans (f116 275 81 (by first | exact no_a5_4 | (unfold mEx; omega))) hs) (by omega)) (fun r127 w128 h129 => ?_)
          obtain ⟨rfl, q130⟩ := h129
          have u131 : w128 275 78 = w115 275 78 + 1 := q130.2.2.2.2
          have u132 : w128 275 83 = w115 275 83 := q130.1 275 83 (by omega)
          have u133 : w128 275 84 = w115 275 84 := q130.1 275 84 (by omega)
          have u134 : w128 275 85 = w115 275 85 := q130.1 275 85 (by omega)
          have u135 : w128 275 86 = w115 275 86 := q130.1 275 86 (by omega)
          have u136 : w128 275 87 = w115 275 87 := q130.1 275 87 (by omega)
          have u137 : w128 275 88 = w115 275 88 := q130.1 275 88 (by omega)
          have u138 : w128 275 94 = w115 275 94 := q130.1 275 94 (by omega)
          have c140 := cSt.em c125 q130 (by omega) (by omega) (by omega)
          have t141t := tkS.lin c140.2.2.2.1
          have t141f := e_Has.get c140.2.1 (c := 275) (k := 88) (lo := 0) (hi := 7) rfl (by decide)
          refine e_Ok.nrm (q := 46) (st' := [(0, w115 275 78)]) rfl rfl ?_
          refine e_Ok.run (t' := (242, [(0, (1, 275))], [], w128)) 2 rfl ?_
          refine e_Ok.rets rfl rfl ?_
          exact ⟨rfl, (show e_fr (mEx (w 275 78) (w 275 94)) w w128 from e_fr.trans f116 (fun c k g => q130.1 c k (fun g2 => g (by unfold mEx; omega)))), c140, by unfold cLn; omega, (fun z => absurd z (by omega))⟩
    · refine e_Ok.nrm (q := 14) (st' := [(0, 0)]) rfl rfl ?_
      refine e_Ok.if1 rfl (fun h142 => ?_) (fun h142 => ?_)
      · replace h142 : (0 : Int) = 0 := h142
        refine e_Ok.ps1 (x := (1, 275)) (q := 51) 1 rfl ?_
        refine e_Ok.getf (z := w 275 84) rfl (el_o rfl) rfl (ef_o rfl) rfl (by omega) ?_
        refine e_Ok.ps1 (x := (0, 2)) (q := 55) 1 rfl ?_
        refine e_Ok.if2 rfl (fun h143 => ?_) (fun h143 => ?_)
        · replace h143 : (w 275 84 : Int) ≠ 2 := h143
          refine e_Ok.ps1 (x := (1, 275)) (q := 76) 1 rfl ?_
          refine e_Ok.getf (z := w 275 84) rfl (el_o rfl) rfl (ef_o rfl) rfl (by omega) ?_
          refine e_Ok.ps1 (x := (0, 1)) (q := 80) 1 rfl ?_
          refine e_Ok.if2 rfl (fun h144 => ?_) (fun h144 => ?_)
          · replace h144 : (w 275 84 : Int) ≠ 1 := h144
            refine e_Ok.ps2 (x := (0, 27)) (y := (1, 275)) (q := 100) 2 rfl ?_
            refine e_Ok.callV rfl (e_dq hd rfl) rfl rfl rfl rfl (c_332 hc.1 (N := N) hc.2.2.2.1) (fun r145 w146 h147 => ?_)
            obtain ⟨z148, rfl, rfl, q149⟩ := h147
            obtain ⟨rfl, q149, q149b⟩ | ⟨rfl, q149n⟩ := q149
            · refine e_Ok.nrm (q := 103) (st' := [(0, 1)]) rfl rfl ?_
              refine e_Ok.if1 rfl (fun h150 => ?_) (fun h150 => ?_)
              · replace h150 : (1 : Int) ≠ 0 := h150
                refine e_Ok.ps1 (x := (1, 275)) (q := 116) 1 rfl ?_
                refine e_Ok.getf (z := w 275 85) rfl (el_o rfl) rfl (ef_o rfl) rfl (by omega) ?_
                refine e_Ok.ps1 (x := (0, 27)) (q := 121) 1 rfl ?_
                refine e_Ok.if2 rfl (fun h151 => ?_) (fun h151 => ?_)
                · replace h151 : (w 275 85 : Int) ≠ 27 := h151
                  exfalso; omega
                · replace h151 : (w 275 85 : Int) = 27 := Classical.not_not.mp (show ¬ ((w 275 85 : Int) ≠ 27) from h151)
                  refine e_Ok.run (t' := (131, [(1, (0, 3)), (0, (1, 275))], [(1, 275)], w)) 4 rfl ?_
                  refine e_Ok.callV rfl (e_dq hd rfl) rfl rfl rfl rfl (c_327 (e_dq hd rfl) hc.1 hc.2.1 hc.2.2.1 hNr (t := w 275 87) rfl (by omega)) (fun r152 w153 h154 => ?_)
                  have p156 := tkS.pos hc.2.2.2.1 (by omega)
                  have p157 := tkS.key hc.2.2.2.1 (by omega)
                  obtain ⟨rfl, q155, q155s, q155t⟩ := h154
                  have u158 : w153 275 78 = w 275 78 := q155 275 78 no_a5_0
                  have u159 : w153 275 83 = w 275 83 := q155 275 83 no_a5_1
                  have u160 : w153 275 88 = w 275 88 := q155 275 88 no_a5_2
                  have u161 : w153 275 94 = w 275 94 := q155 275 94 no_a5_3
                  have f162 : e_fr (mEx (w 275 78) (w 275 94)) w w153 := e_fr.trans (e_fr.refl w) (e_fr.mono q155 (fun c k g => by unfold mTq at g; unfold mEx; omega))
                  have c163 := cSt.tk hc q155 q155s
                  have t164t := tkS.lin c163.2.2.2.1
                  have t164f := e_Has.get c163.2.1 (c := 275) (k := 88) (lo := 0) (hi := 7) rfl (by decide)
                  have wf165 : Hid (w153 275 88 = 0 → wfE w153 N (w153 275 78) (w153 275 94) nt P s (e)) := Hid.mk (fun z => by rw [u158, u161]; exact wfE.pr (hwH.out (by omega)) (prE.tk q155))
                  refine e_Ok.nrm (q := 134) (st' := []) rfl rfl ?_
                  refine e_Ok.ps1 (x := (1, 275)) (q := 135) 1 rfl ?_
                  refine e_Ok.callV rfl (e_dq hd rfl) rfl rfl rfl rfl ((hB d rfl) w153 N nt s (e) P c163 hNr (by omega) (by omega) (Eq.trans (f162 275 81 (by first | exact no_a5_4 | (unfold mEx; omega))) hs) (by omega) (wf165.out (by omega)) (by omega)) (fun r166 w167 h168 => ?_)
                  obtain ⟨rfl, q169F, q169c, q169l, q169w⟩ := h168
                  unfold cLn at q169l
                  replace q169w : Hid (w167 275 88 = 0 → wfE w167 N (w167 275 78) (w167 275 94) nt P s (e + 1)) := Hid.mk (fun z => wfE.d (q169w z) (by omega))
                  have f170 : e_fr (mEx (w 275 78) (w 275 94)) w w167 := e_fr.trans f162 (e_fr.mono q169F (fun c k g => by unfold mEx at g; unfold mEx; omega))
                  have t171t := tkS.lin q169c.2.2.2.1
                  have t171f := e_Has.get q169c.2.1 (c := 275) (k := 88) (lo := 0) (hi := 7) rfl (by decide)
                  refine e_Ok.nrm (q := 138) (st' := []) rfl rfl ?_
                  refine e_Ok.ps3 (x := (0, 0)) (y := (0, 3)) (z := (1, 275)) (q := 141) 3 rfl ?_
                  refine e_Ok.callV rfl (e_dq hd rfl) rfl rfl rfl rfl (c_336 q169c.1 (n := w167 275 78) rfl (by omega) (s := s) (Eq.trans (f170 275 81 (by first | exact no_a5_4 | (unfold mEx; omega))) hs) (by omega)) (fun r172 w173 h174 => ?_)
                  obtain ⟨rfl, q175⟩ := h174
                  have u176 : w173 275 78 = w167 275 78 + 1 := q175.2.2.2.2
                  have u177 : w173 275 83 = w167 275 83 := q175.1 275 83 (by omega)
                  have u178 : w173 275 84 = w167 275 84 := q175.1 275 84 (by omega)
                  have u179 : w173 275 85 = w167 275 85 := q175.1 275 85 (by omega)
                  have u180 : w173 275 86 = w167 275 86 := q175.1 275 86 (by omega)
                  have u181 : w173 275 87 = w167 275 87 := q175.1 275 87 (by omega)
                  have u182 : w173 275 88 = w167 275 88 := q175.1 275 88 (by omega)
                  have u183 : w173 275 94 = w167 275 94 := q175.1 275 94 (by omega)
                  have c185 := cSt.em q169c q175 (by omega) (by omega) (by omega)
                  have t186t := tkS.lin c185.2.2.2.1
                  have t186f := e_Has.get c185.2.1 (c := 275) (k := 88) (lo := 0) (hi := 7) rfl (by decide)
                  have wf187 : Hid (w173 275 88 = 0 → wfE w173 N (w173 275 78) (w173 275 94) nt P s (e + 1)) := Hid.mk (fun z => by rw [u176, u183]; exact wfE.d (wfE.em (q169w.out (by omega)) q175 (by decide) (by decide) (by decide) (by decide) (by unfold iOw; omega) (by rw [show nxD 3 (e + 1) = e + 1 from by unfold nxD; rw [if_neg (by omega), if_neg (by omega), if_neg (by omega)] <;> omega]; omega)) (by unfold nxD; rw [if_neg (by omega), if_neg (by omega), if_neg (by omega)] <;> omega))
                  refine e_Ok.nrm (q := 144) (st' := [(0, w167 275 78)]) rfl rfl ?_
                  refine e_Ok.run (t' := (242, [(1, (0, 3)), (0, (1, 275))], [], w173)) 2 rfl ?_
                  refine e_Ok.rets rfl rfl ?_
                  exact ⟨rfl, (show e_fr (mEx (w 275 78) (w 275 94)) w w173 from e_fr.trans f170 (fun c k g => q175.1 c k (fun g2 => g (by unfold mEx; omega)))), c185, by unfold cLn; omega, wf187.out⟩
              · replace h150 : (1 : Int) = 0 := Classical.not_not.mp (show ¬ ((1 : Int) ≠ 0) from h150)
                exfalso; omega
            · refine e_Ok.nrm (q := 103) (st' := [(0, 0)]) rfl rfl ?_
              refine e_Ok.if1 rfl (fun h188 => ?_) (fun h188 => ?_)
              · replace h188 : (0 : Int) ≠ 0 := h188
                exfalso; omega
              · replace h188 : (0 : Int) = 0 := Classical.not_not.mp (show ¬ ((0 : Int) ≠ 0) from h188)
                refine e_Ok.ps2 (x := (0, 28)) (y := (1, 275)) (q := 109) 2 rfl ?_
                refine e_Ok.callV rfl (e_dq hd rfl) rfl rfl rfl rfl (c_332 hc.1 (N := N) hc.2.2.2.1) (fun r189 w190 h191 => ?_)
                obtain ⟨z192, rfl, rfl, q193⟩ := h191
                obtain ⟨rfl, q193, q193b⟩ | ⟨rfl, q193n⟩ := q193
                · refine e_Ok.nrm (q := 112) (st' := [(0, 1)]) rfl rfl ?_
                  refine e_Ok.if1 rfl (fun h194 => ?_) (fun h194 => ?_)
                  · replace h194 : (1 : Int) = 0 := h194
                    exfalso; omega
                  · replace h194 : (1 : Int) ≠ 0 := (show ¬ ((1 : Int) = 0) from h194)
                    refine e_Ok.ps1 (x := (1, 275)) (q := 116) 1 rfl ?_
                    refine e_Ok.getf (z := w 275 85) rfl (el_o rfl) rfl (ef_o rfl) rfl (by omega) ?_
                    refine e_Ok.ps1 (x := (0, 27)) (q := 121) 1 rfl ?_
                    refine e_Ok.if2 rfl (fun h195 => ?_) (fun h195 => ?_)
                    · replace h195 : (w 275 85 : Int) ≠ 27 := h195
                      refine e_Ok.run (t' := (131, [(1, (0, 4)), (0, (1, 275))], [(1, 275)], w)) 3 rfl ?_
                      refine e_Ok.callV rfl (e_dq hd rfl) rfl rfl rfl rfl (c_327 (e_dq hd rfl) hc.1 hc.2.1 hc.2.2.1 hNr (t := w 275 87) rfl (by omega)) (fun r196 w197 h198 => ?_)
                      have p200 := tkS.pos hc.2.2.2.1 (by omega)
                      have p201 := tkS.key hc.2.2.2.1 (by omega)
                      obtain ⟨rfl, q199, q199s, q199t⟩ := h198
                      have u202 : w197 275 78 = w 275 78 := q199 275 78 no_a5_0
                      have u203 : w197 275 83 = w 275 83 := q199 275 83 no_a5_1
                      have u204 : w197 275 88 = w 275 88 := q199 275 88 no_a5_2
                      have u205 : w197 275 94 = w 275 94 := q199 275 94 no_a5_3
                      have f206 : e_fr (mEx (w 275 78) (w 275 94)) w w197 := e_fr.trans (e_fr.refl w) (e_fr.mono q199 (fun c k g => by unfold mTq at g; unfold mEx; omega))
                      have c207 := cSt.tk hc q199 q199s
                      have t208t := tkS.lin c207.2.2.2.1
                      have t208f := e_Has.get c207.2.1 (c := 275) (k := 88) (lo := 0) (hi := 7) rfl (by decide)
                      have wf209 : Hid (w197 275 88 = 0 → wfE w197 N (w197 275 78) (w197 275 94) nt P s (e)) := Hid.mk (fun z => by rw [u202, u205]; exact wfE.pr (hwH.out (by omega)) (prE.tk q199))
                      refine e_Ok.nrm (q := 134) (st' := []) rfl rfl ?_
                      refine e_Ok.ps1 (x := (1, 275)) (q := 135) 1 rfl ?_
                      refine e_Ok.callV rfl (e_dq hd rfl) rfl rfl rfl rfl ((hB d rfl) w197 N nt s (e) P c207 hNr (by omega) (by omega) (Eq.trans (f206 275 81 (by first | exact no_a5_4 | (unfold mEx; omega))) hs) (by omega) (wf209.out (by omega)) (by omega)) (fun r210 w211 h212 => ?_)
                      obtain ⟨rfl, q213F, q213c, q213l, q213w⟩ := h212
                      unfold cLn at q213l
                      replace q213w : Hid (w211 275 88 = 0 → wfE w211 N (w211 275 78) (w211 275 94) nt P s (e + 1)) := Hid.mk (fun z => wfE.d (q213w z) (by omega))
                      have f214 : e_fr (mEx (w 275 78) (w 275 94)) w w211 := e_fr.trans f206 (e_fr.mono q213F (fun c k g => by unfold mEx at g; unfold mEx; omega))
                      have t215t := tkS.lin q213c.2.2.2.1
                      have t215f := e_Has.get q213c.2.1 (c := 275) (k := 88) (lo := 0) (hi := 7) rfl (by decide)
                      refine e_Ok.nrm (q := 138) (st' := []) rfl rfl ?_
                      refine e_Ok.ps3 (x := (0, 0)) (y := (0, 4)) (z := (1, 275)) (q := 141) 3 rfl ?_
                      refine e_Ok.callV rfl (e_dq hd rfl) rfl rfl rfl rfl (c_336 q213c.1 (n := w211 275 78) rfl (by omega) (s := s) (Eq.trans (f214 275 81 (by first | exact no_a5_4 | (unfold mEx; omega))) hs) (by omega)) (fun r216 w217 h218 => ?_)
                      obtain ⟨rfl, q219⟩ := h218
                      have u220 : w217 275 78 = w211 275 78 + 1 := q219.2.2.2.2
                      have u221 : w217 275 83 = w211 275 83 := q219.1 275 83 (by omega)
                      have u222 : w217 275 84 = w211 275 84 := q219.1 275 84 (by omega)
                      have u223 : w217 275 85 = w211 275 85 := q219.1 275 85 (by omega)
                      have u224 : w217 275 86 = w211 275 86 := q219.1 275 86 (by omega)
                      have u225 : w217 275 87 = w211 275 87 := q219.1 275 87 (by omega)
                      have u226 : w217 275 88 = w211 275 88 := q219.1 275 88 (by omega)
                      have u227 : w217 275 94 = w211 275 94 := q219.1 275 94 (by omega)
                      have c229 := cSt.em q213c q219 (by omega) (by omega) (by omega)
                      have t230t := tkS.lin c229.2.2.2.1
                      have t230f := e_Has.get c229.2.1 (c := 275) (k := 88) (lo := 0) (hi := 7) rfl (by decide)
                      have wf231 : Hid (w217 275 88 = 0 → wfE w217 N (w217 275 78) (w217 275 94) nt P s (e + 1)) := Hid.mk (fun z => by rw [u220, u227]; exact wfE.d (wfE.em (q213w.out (by omega)) q219 (by decide) (by decide) (by decide) (by decide) (by unfold iOw; omega) (by rw [show nxD 4 (e + 1) = e + 1 from by unfold nxD; rw [if_neg (by omega), if_neg (by omega), if_neg (by omega)] <;> omega]; omega)) (by unfold nxD; rw [if_neg (by omega), if_neg (by omega), if_neg (by omega)] <;> omega))
                      refine e_Ok.nrm (q := 144) (st' := [(0, w211 275 78)]) rfl rfl ?_
                      refine e_Ok.run (t' := (242, [(1, (0, 4)), (0, (1, 275))], [], w217)) 2 rfl ?_
                      refine e_Ok.rets rfl rfl ?_
                      exact ⟨rfl, (show e_fr (mEx (w 275 78) (w 275 94)) w w217 from e_fr.trans f214 (fun c k g => q219.1 c k (fun g2 => g (by unfold mEx; omega)))), c229, by unfold cLn; omega, wf231.out⟩
                    · replace h195 : (w 275 85 : Int) = 27 := Classical.not_not.mp (show ¬ ((w 275 85 : Int) ≠ 27) from h195)
                      exfalso; omega
                · refine e_Ok.nrm (q := 112) (st' := [(0, 0)]) rfl rfl ?_
                  refine e_Ok.if1 rfl (fun h232 => ?_) (fun h232 => ?_)
                  · replace h232 : (0 : Int) = 0 := h232
                    refine e_Ok.ps2 (x := (0, 40)) (y := (1, 275)) (q := 151) 2 rfl ?_
                    refine e_Ok.callV rfl (e_dq hd rfl) rfl rfl rfl rfl (c_331 hc.1 (N := N) hc.2.2.2.1) (fun r233 w234 h235 => ?_)
                    obtain ⟨z236, rfl, rfl, q237⟩ := h235
                    obtain ⟨rfl, q237, q237b⟩ | ⟨rfl, q237n⟩ := q237
                    · refine e_Ok.nrm (q := 154) (st' := [(0, 1)]) rfl rfl ?_
                      refine e_Ok.if1 rfl (fun h238 => ?_) (fun h238 => ?_)
                      · replace h238 : (1 : Int) = 0 := h238
                        exfalso; omega
                      · replace h238 : (1 : Int) ≠ 0 := (show ¬ ((1 : Int) = 0) from h238)
                        refine e_Ok.ps1 (x := (1, 275)) (q := 158) 1 rfl ?_
                        refine e_Ok.callV rfl (e_dq hd rfl) rfl rfl rfl rfl ((hB d rfl) w N nt s (e) P hc hNr (by omega) (by omega) hs (by omega) (hwH.out (by omega)) (by omega)) (fun r239 w240 h241 => ?_)
                        obtain ⟨rfl, q242F, q242c, q242l, q242w⟩ := h241
                        unfold cLn at q242l
                        replace q242w : Hid (w240 275 88 = 0 → wfE w240 N (w240 275 78) (w240 275 94) nt P s (e + 1)) := Hid.mk (fun z => wfE.d (q242w z) (by omega))
                        have t244t := tkS.lin q242c.2.2.2.1
                        have t244f := e_Has.get q242c.2.1 (c := 275) (k := 88) (lo := 0) (hi := 7) rfl (by decide)
                        refine e_Ok.nrm (q := 161) (st' := []) rfl rfl ?_
                        refine e_Ok.ps0 (q := 242) 1 rfl ?_
                        refine e_Ok.rets rfl rfl ?_
                        exact ⟨rfl, (show e_fr (mEx (w 275 78) (w 275 94)) w w240 from e_fr.trans (e_fr.refl w) (e_fr.mono q242F (fun c k g => by unfold mEx at g; unfold mEx; omega))), q242c, by unfold cLn; omega, q242w.out⟩
                    · refine e_Ok.nrm (q := 154) (st' := [(0, 0)]) rfl rfl ?_
                      refine e_Ok.if1 rfl (fun h245 => ?_) (fun h245 => ?_)
                      · replace h245 : (0 : Int) = 0 := h245
                        refine e_Ok.ps1 (x := (1, 275)) (q := 165) 1 rfl ?_
                        refine e_Ok.getf (z := w 275 84) rfl (el_o rfl) rfl (ef_o rfl) rfl (by omega) ?_
                        refine e_Ok.ps1 (x := (0, 4)) (q := 169) 1 rfl ?_
                        refine e_Ok.if2 rfl (fun h246 => ?_) (fun h246 => ?_)
                        · replace h246 : (w 275 84 : Int) ≠ 4 := h246
                          refine e_Ok.ps2 (x := (0, 2)) (y := (1, 275)) (q := 239) 2 rfl ?_
                          refine e_Ok.callV rfl (e_dq hd rfl) rfl rfl rfl rfl (c_333 hc.1 hc.2.1 hc.2.2.1 hNr hc.2.2.2.1 (by omega)) (fun r247 w248 h249 => ?_)
                          obtain ⟨rfl, q250⟩ := h249
                          obtain ⟨-, q250x⟩ | ⟨-, q250, q250T, q250H, q250b⟩ := q250
                          · exact absurd (by omega) q250x
                          have u251 : w248 275 78 = w 275 78 := q250 275 78 no_a5_5
                          have u252 : w248 275 83 = w 275 83 := q250 275 83 no_a5_6
                          have u253 : w248 275 84 = w 275 84 := q250 275 84 no_a5_7
                          have u254 : w248 275 85 = w 275 85 := q250 275 85 no_a5_8
                          have u255 : w248 275 86 = w 275 86 := q250 275 86 no_a5_9
                          have u256 : w248 275 87 = w 275 87 := q250 275 87 no_a5_10
                          have u257 : w248 275 94 = w 275 94 := q250 275 94 no_a5_11
                          have c259 := cSt.rf hc q250 q250T q250H
                          have t260t := tkS.lin c259.2.2.2.1
                          have t260f := e_Has.get c259.2.1 (c := 275) (k := 88) (lo := 0) (hi := 7) rfl (by decide)
                          refine e_Ok.nrm (q := 242) (st' := []) rfl rfl ?_
                          refine e_Ok.rets rfl rfl ?_
                          exact ⟨rfl, (show e_fr (mEx (w 275 78) (w 275 94)) w w248 from e_fr.trans (e_fr.refl w) (e_fr.mono q250 (fun c k g => by unfold mRf at g; unfold mEx; omega))), c259, by unfold cLn; omega, (fun z => absurd z (by omega))⟩
                        · replace h246 : (w 275 84 : Int) = 4 := Classical.not_not.mp (show ¬ ((w 275 84 : Int) ≠ 4) from h246)
                          refine e_Ok.ps1 (x := (1, 275)) (q := 173) 1 rfl ?_
                          refine e_Ok.getf (z := w 275 85) rfl (el_o rfl) rfl (ef_o rfl) rfl (by omega) ?_
                          refine e_Ok.ps1 (x := (0, 29)) (q := 178) 1 rfl ?_
                          refine e_Ok.if2 rfl (fun h261 => ?_) (fun h261 => ?_)
                          · replace h261 : (w 275 85 : Int) < 29 := h261
                            refine e_Ok.ps2 (x := (0, 2)) (y := (1, 275)) (q := 239) 2 rfl ?_
                            refine e_Ok.callV rfl (e_dq hd rfl) rfl rfl rfl rfl (c_333 hc.1 hc.2.1 hc.2.2.1 hNr hc.2.2.2.1 (by omega)) (fun r262 w263 h264 => ?_)
                            obtain ⟨rfl, q265⟩ := h264
                            obtain ⟨-, q265x⟩ | ⟨-, q265, q265T, q265H, q265b⟩ := q265
                            · exact absurd (by omega) q265x
                            have u266 : w263 275 78 = w 275 78 := q265 275 78 no_a5_5
                            have u267 : w263 275 83 = w 275 83 := q265 275 83 no_a5_6
                            have u268 : w263 275 84 = w 275 84 := q265 275 84 no_a5_7
                            have u269 : w263 275 85 = w 275 85 := q265 275 85 no_a5_8
                            have u270 : w263 275 86 = w 275 86 := q265 275 86 no_a5_9
                            have u271 : w263 275 87 = w 275 87 := q265 275 87 no_a5_10
                            have u272 : w263 275 94 = w 275 94 := q265 275 94 no_a5_11
                            have c274 := cSt.rf hc q265 q265T q265H
                            have t275t := tkS.lin c274.2.2.2.1
                            have t275f := e_Has.get c274.2.1 (c := 275) (k := 88) (lo := 0) (hi := 7) rfl (by decide)
                            refine e_Ok.nrm (q := 242) (st' := []) rfl rfl ?_
                            refine e_Ok.rets rfl rfl ?_
                            exact ⟨rfl, (show e_fr (mEx (w 275 78) (w 275 94)) w w263 from e_fr.trans (e_fr.refl w) (e_fr.mono q265 (fun c k g => by unfold mRf at g; unfold mEx; omega))), c274, by unfold cLn; omega, (fun z => absurd z (by omega))⟩
                          · replace h261 : (w 275 85 : Int) ≥ 29 := Int.not_lt.mp (show ¬ ((w 275 85 : Int) < 29) from h261)
                            refine e_Ok.ps2 (x := (1, 275)) (y := (1, 275)) (q := 183) 2 rfl ?_
                            refine e_Ok.getf (z := w 275 85) rfl (el_o rfl) rfl (ef_o rfl) rfl (by omega) ?_
                            refine e_Ok.ps1 (x := (0, 29)) (q := 188) 1 rfl ?_
                            refine e_Ok.if2 rfl (fun h276 => ?_) (fun h276 => ?_)
                            · replace h276 : (w 275 85 : Int) ≠ 29 := h276
                              refine e_Ok.ps1 (x := (1, 275)) (q := 196) 1 rfl ?_
                              refine e_Ok.getf (z := w 275 85) rfl (el_o rfl) rfl (ef_o rfl) rfl (by omega) ?_
                              refine e_Ok.ps1 (x := (0, 30)) (q := 201) 1 rfl ?_
                              refine e_Ok.if2 rfl (fun h277 => ?_) (fun h277 => ?_)
                              · replace h277 : (w 275 85 : Int) ≠ 30 := h277
                                refine e_Ok.ps1 (x := (1, 275)) (q := 210) 1 rfl ?_
                                refine e_Ok.getf (z := w 275 85) rfl (el_o rfl) rfl (ef_o rfl) rfl (by omega) ?_
                                refine e_Ok.ps1 (x := (0, 31)) (q := 215) 1 rfl ?_
                                refine e_Ok.if2 rfl (fun h278 => ?_) (fun h278 => ?_)
                                · replace h278 : (w 275 85 : Int) ≠ 31 := h278
                                  refine e_Ok.ps2 (x := (0, 0)) (y := (0, 8)) (q := 226) 2 rfl ?_
                                  refine e_Ok.callV rfl (e_dq hd rfl) rfl rfl rfl rfl (c_336 hc.1 (n := w 275 78) rfl (by omega) (s := s) hs (by omega)) (fun r279 w280 h281 => ?_)
                                  obtain ⟨rfl, q282⟩ := h281
                                  have u283 : w280 275 78 = w 275 78 + 1 := q282.2.2.2.2
                                  have u284 : w280 275 83 = w 275 83 := q282.1 275 83 (by omega)
                                  have u285 : w280 275 84 = w 275 84 := q282.1 275 84 (by omega)
                                  have u286 : w280 275 85 = w 275 85 := q282.1 275 85 (by omega)
                                  have u287 : w280 275 86 = w 275 86 := q282.1 275 86 (by omega)
                                  have u288 : w280 275 87 = w 275 87 := q282.1 275 87 (by omega)
                                  have u289 : w280 275 88 = w 275 88 := q282.1 275 88 (by omega)
                                  have u290 : w280 275 94 = w 275 94 := q282.1 275 94 (by omega)
                                  have c292 := cSt.em hc q282 (by omega) (by omega) (by omega)
                                  have t293t := tkS.lin c292.2.2.2.1
                                  have t293f := e_Has.get c292.2.1 (c := 275) (k := 88) (lo := 0) (hi := 7) rfl (by decide)
                                  have wf294 : Hid (w280 275 88 = 0 → wfE w280 N (w280 275 78) (w280 275 94) nt P s (e + 1)) := Hid.mk (fun z => by rw [u283, u290]; exact wfE.d (wfE.em (hwH.out (by omega)) q282 (by decide) (by decide) (by decide) (by decide) (by unfold iOw; omega) (by rw [show nxD 8 (e) = e + 1 from by unfold nxD; rw [if_pos (by omega)] <;> omega]; omega)) (by unfold nxD; rw [if_pos (by omega)] <;> omega))
                                  refine e_Ok.nrm (q := 229) (st' := [(0, w 275 78)]) rfl rfl ?_
                                  refine e_Ok.run (t' := (231, [(0, (1, 275))], [(1, 275)], w280)) 2 rfl ?_
                                  refine e_Ok.callV rfl (e_dq hd rfl) rfl rfl rfl rfl (c_327 (e_dq hd rfl) c292.1 c292.2.1 c292.2.2.1 hNr (t := w280 275 87) rfl (by omega)) (fun r295 w296 h297 => ?_)
                                  have p299 := tkS.pos c292.2.2.2.1 (by omega)
                                  have p300 := tkS.key c292.2.2.2.1 (by omega)
                                  obtain ⟨rfl, q298, q298s, q298t⟩ := h297
                                  have u301 : w296 275 78 = w280 275 78 := q298 275 78 no_a5_0
                                  have u302 : w296 275 83 = w280 275 83 := q298 275 83 no_a5_1
                                  have u303 : w296 275 88 = w280 275 88 := q298 275 88 no_a5_2
                                  have u304 : w296 275 94 = w280 275 94 := q298 275 94 no_a5_3
                                  have c306 := cSt.tk c292 q298 q298s
                                  have t307t := tkS.lin c306.2.2.2.1
                                  have t307f := e_Has.get c306.2.1 (c := 275) (k := 88) (lo := 0) (hi := 7) rfl (by decide)
                                  have wf308 : Hid (w296 275 88 = 0 → wfE w296 N (w296 275 78) (w296 275 94) nt P s (e + 1)) := Hid.mk (fun z => by rw [u301, u304]; exact wfE.pr (wf294.out (by omega)) (prE.tk q298))
                                  refine e_Ok.nrm (q := 234) (st' := []) rfl rfl ?_
                                  refine e_Ok.ps0 (q := 242) 1 rfl ?_
                                  refine e_Ok.rets rfl rfl ?_
                                  exact ⟨rfl, (show e_fr (mEx (w 275 78) (w 275 94)) w w296 from e_fr.trans (show e_fr (mEx (w 275 78) (w 275 94)) w w280 from e_fr.trans (e_fr.refl w) (fun c k g => q282.1 c k (fun g2 => g (by unfold mEx; omega)))) (e_fr.mono q298 (fun c k g => by unfold mTq at g; unfold mEx; omega))), c306, by unfold cLn; omega, wf308.out⟩
                                · replace h278 : (w 275 85 : Int) = 31 := Classical.not_not.mp (show ¬ ((w 275 85 : Int) ≠ 31) from h278)
                                  refine e_Ok.ps2 (x := (0, 0)) (y := (0, 7)) (q := 226) 3 rfl ?_
                                  refine e_Ok.callV rfl (e_dq hd rfl) rfl rfl rfl rfl (c_336 hc.1 (n := w 275 78) rfl (by omega) (s := s) hs (by omega)) (fun r309 w310 h311 => ?_)
                                  obtain ⟨rfl, q312⟩ := h311
                                  have u313 : w310 275 78 = w 275 78 + 1 := q312.2.2.2.2
                                  have u314 : w310 275 83 = w 275 83 := q312.1 275 83 (by omega)
                                  have u315 : w310 275 84 = w 275 84 := q312.1 275 84 (by omega)
                                  have u316 : w310 275 85 = w 275 85 := q312.1 275 85 (by omega)
                                  have u317 : w310 275 86 = w 275 86 := q312.1 275 86 (by omega)
                                  have u318 : w310 275 87 = w 275 87 := q312.1 275 87 (by omega)
                                  have u319 : w310 275 88 = w 275 88 := q312.1 275 88 (by omega)
                                  have u320 : w310 275 94 = w 275 94 := q312.1 275 94 (by omega)
                                  have c322 := cSt.em hc q312 (by omega) (by omega) (by omega)
                                  have t323t := tkS.lin c322.2.2.2.1
                                  have t323f := e_Has.get c322.2.1 (c := 275) (k := 88) (lo := 0) (hi := 7) rfl (by decide)
                                  have wf324 : Hid (w310 275 88 = 0 → wfE w310 N (w310 275 78) (w310 275 94) nt P s (e + 1)) := Hid.mk (fun z => by rw [u313, u320]; exact wfE.d (wfE.em (hwH.out (by omega)) q312 (by decide) (by decide) (by decide) (by decide) (by unfold iOw; omega) (by rw [show nxD 7 (e) = e + 1 from by unfold nxD; rw [if_pos (by omega)] <;> omega]; omega)) (by unfold nxD; rw [if_pos (by omega)] <;> omega))
                                  refine e_Ok.nrm (q := 229) (st' := [(0, w 275 78)]) rfl rfl ?_
                                  refine e_Ok.run (t' := (231, [(0, (1, 275))], [(1, 275)], w310)) 2 rfl ?_
                                  refine e_Ok.callV rfl (e_dq hd rfl) rfl rfl rfl rfl (c_327 (e_dq hd rfl) c322.1 c322.2.1 c322.2.2.1 hNr (t := w310 275 87) rfl (by omega)) (fun r325 w326 h327 => ?_)
                                  have p331 := tkS.pos c322.2.2.2.1 (by omega)
                                  have p332 := tkS.key c322.2.2.2.1 (by omega)
                                  obtain ⟨rfl, q329, q329s, q329t⟩ := h327
                                  have u333 : w326 275 78 = w310 275 78 := q329 275 78 no_a5_0
                                  have u334 : w326 275 83 = w310 275 83 := q329 275 83 no_a5_1
                                  have u335 : w326 275 88 = w310 275 88 := q329 275 88 no_a5_2
                                  have u336 : w326 275 94 = w310 275 94 := q329 275 94 no_a5_3
                                  have c339 := cSt.tk c322 q329 q329s
                                  have t340t := tkS.lin c339.2.2.2.1
                                  have t340f := e_Has.get c339.2.1 (c := 275) (k := 88) (lo := 0) (hi := 7) rfl (by decide)
                                  have wf341 : Hid (w326 275 88 = 0 → wfE w326 N (w326 275 78) (w326 275 94) nt P s (e + 1)) := Hid.mk (fun z => by rw [u333, u336]; exact wfE.pr (wf324.out (by omega)) (prE.tk q329))
                                  refine e_Ok.nrm (q := 234) (st' := []) rfl rfl ?_
                                  refine e_Ok.ps0 (q := 242) 1 rfl ?_
                                  refine e_Ok.rets rfl rfl ?_
                                  exact ⟨rfl, (show e_fr (mEx (w 275 78) (w 275 94)) w w326 from e_fr.trans (show e_fr (mEx (w 275 78) (w 275 94)) w w310 from e_fr.trans (e_fr.refl w) (fun c k g => q312.1 c k (fun g2 => g (by unfold mEx; omega)))) (e_fr.mono q329 (fun c k g => by unfold mTq at g; unfold mEx; omega))), c339, by unfold cLn; omega, wf341.out⟩
                              · replace h277 : (w 275 85 : Int) = 30 := Classical.not_not.mp (show ¬ ((w 275 85 : Int) ≠ 30) from h277)
                                refine e_Ok.ps2 (x := (0, 0)) (y := (0, 6)) (q := 226) 3 rfl ?_
                                refine e_Ok.callV rfl (e_dq hd rfl) rfl rfl rfl rfl (c_336 hc.1 (n := w 275 78) rfl (by omega) (s := s) hs (by omega)) (fun r342 w343 h344 => ?_)
                                obtain ⟨rfl, q345⟩ := h344
                                have u346 : w343 275 78 = w 275 78 + 1 := q345.2.2.2.2
                                have u347 : w343 275 83 = w 275 83 := q345.1 275 83 (by omega)
                                have u348 : w343 275 84 = w 275 84 := q345.1 275 84 (by omega)
                                have u349 : w343 275 85 = w 275 85 := q345.1 275 85 (by omega)
                                have u350 : w343 275 86 = w 275 86 := q345.1 275 86 (by omega)
                                have u351 : w343 275 87 = w 275 87 := q345.1 275 87 (by omega)
                                have u352 : w343 275 88 = w 275 88 := q345.1 275 88 (by omega)
                                have u353 : w343 275 94 = w 275 94 := q345.1 275 94 (by omega)
                                have c355 := cSt.em hc q345 (by omega) (by omega) (by omega)
                                have t356t := tkS.lin c355.2.2.2.1
                                have t356f := e_Has.get c355.2.1 (c := 275) (k := 88) (lo := 0) (hi := 7) rfl (by decide)
                                have wf357 : Hid (w343 275 88 = 0 → wfE w343 N (w343 275 78) (w343 275 94) nt P s (e + 1)) := Hid.mk (fun z => by rw [u346, u353]; exact wfE.d (wfE.em (hwH.out (by omega)) q345 (by decide) (by decide) (by decide) (by decide) (by unfold iOw; omega) (by rw [show nxD 6 (e) = e + 1 from by unfold nxD; rw [if_pos (by omega)] <;> omega]; omega)) (by unfold nxD; rw [if_pos (by omega)] <;> omega))
                                refine e_Ok.nrm (q := 229) (st' := [(0, w 275 78)]) rfl rfl ?_
                                refine e_Ok.run (t' := (231, [(0, (1, 275))], [(1, 275)], w343)) 2 rfl ?_
                                refine e_Ok.callV rfl (e_dq hd rfl) rfl rfl rfl rfl (c_327 (e_dq hd rfl) c355.1 c355.2.1 c355.2.2.1 hNr (t := w343 275 87) rfl (by omega)) (fun r358 w359 h360 => ?_)
                                have p362 := tkS.pos c355.2.2.2.1 (by omega)
                                have p363 := tkS.key c355.2.2.2.1 (by omega)
                                obtain ⟨rfl, q361, q361s, q361t⟩ := h360
                                have u364 : w359 275 78 = w343 275 78 := q361 275 78 no_a5_0
                                have u365 : w359 275 83 = w343 275 83 := q361 275 83 no_a5_1
                                have u366 : w359 275 88 = w343 275 88 := q361 275 88 no_a5_2
                                have u367 : w359 275 94 = w343 275 94 := q361 275 94 no_a5_3
                                have c369 := cSt.tk c355 q361 q361s
                                have t370t := tkS.lin c369.2.2.2.1
                                have t370f := e_Has.get c369.2.1 (c := 275) (k := 88) (lo := 0) (hi := 7) rfl (by decide)
                                have wf371 : Hid (w359 275 88 = 0 → wfE w359 N (w359 275 78) (w359 275 94) nt P s (e + 1)) := Hid.mk (fun z => by rw [u364, u367]; exact wfE.pr (wf357.out (by omega)) (prE.tk q361))
                                refine e_Ok.nrm (q := 234) (st' := []) rfl rfl ?_
                                refine e_Ok.ps0 (q := 242) 1 rfl ?_
                                refine e_Ok.rets rfl rfl ?_
                                exact ⟨rfl, (show e_fr (mEx (w 275 78) (w 275 94)) w w359 from e_fr.trans (show e_fr (mEx (w 275 78) (w 275 94)) w w343 from e_fr.trans (e_fr.refl w) (fun c k g => q345.1 c k (fun g2 => g (by unfold mEx; omega)))) (e_fr.mono q361 (fun c k g => by unfold mTq at g; unfold mEx; omega))), c369, by unfold cLn; omega, wf371.out⟩
                            · replace h276 : (w 275 85 : Int) = 29 := Classical.not_not.mp (show ¬ ((w 275 85 : Int) ≠ 29) from h276)
                              refine e_Ok.ps2 (x := (0, 0)) (y := (0, 5)) (q := 226) 3 rfl ?_
                              refine e_Ok.callV rfl (e_dq hd rfl) rfl rfl rfl rfl (c_336 hc.1 (n := w 275 78) rfl (by omega) (s := s) hs (by omega)) (fun r372 w373 h374 => ?_)
                              obtain ⟨rfl, q375⟩ := h374
                              have u376 : w373 275 78 = w 275 78 + 1 := q375.2.2.2.2
                              have u377 : w373 275 83 = w 275 83 := q375.1 275 83 (by omega)
                              have u378 : w373 275 84 = w 275 84 := q375.1 275 84 (by omega)
                              have u379 : w373 275 85 = w 275 85 := q375.1 275 85 (by omega)
                              have u380 : w373 275 86 = w 275 86 := q375.1 275 86 (by omega)
                              have u381 : w373 275 87 = w 275 87 := q375.1 275 87 (by omega)
                              have u382 : w373 275 88 = w 275 88 := q375.1 275 88 (by omega)
                              have u383 : w373 275 94 = w 275 94 := q375.1 275 94 (by omega)
                              have c385 := cSt.em hc q375 (by omega) (by omega) (by omega)
                              have t386t := tkS.lin c385.2.2.2.1
                              have t386f := e_Has.get c385.2.1 (c := 275) (k := 88) (lo := 0) (hi := 7) rfl (by decide)
                              have wf387 : Hid (w373 275 88 = 0 → wfE w373 N (w373 275 78) (w373 275 94) nt P s (e + 1)) := Hid.mk (fun z => by rw [u376, u383]; exact wfE.d (wfE.em (hwH.out (by omega)) q375 (by decide) (by decide) (by decide) (by decide) (by unfold iOw; omega) (by rw [show nxD 5 (e) = e + 1 from by unfold nxD; rw [if_pos (by omega)] <;> omega]; omega)) (by unfold nxD; rw [if_pos (by omega)] <;> omega))
                              refine e_Ok.nrm (q := 229) (st' := [(0, w 275 78)]) rfl rfl ?_
                              refine e_Ok.run (t' := (231, [(0, (1, 275))], [(1, 275)], w373)) 2 rfl ?_
                              refine e_Ok.callV rfl (e_dq hd rfl) rfl rfl rfl rfl (c_327 (e_dq hd rfl) c385.1 c385.2.1 c385.2.2.1 hNr (t := w373 275 87) rfl (by omega)) (fun r388 w389 h390 => ?_)
                              have p392 := tkS.pos c385.2.2.2.1 (by omega)
                              have p393 := tkS.key c385.2.2.2.1 (by omega)
                              obtain ⟨rfl, q391, q391s, q391t⟩ := h390
                              have u394 : w389 275 78 = w373 275 78 := q391 275 78 no_a5_0
                              have u395 : w389 275 83 = w373 275 83 := q391 275 83 no_a5_1
                              have u396 : w389 275 88 = w373 275 88 := q391 275 88 no_a5_2
                              have u397 : w389 275 94 = w373 275 94 := q391 275 94 no_a5_3
                              have c399 := cSt.tk c385 q391 q391s
                              have t400t := tkS.lin c399.2.2.2.1
                              have t400f := e_Has.get c399.2.1 (c := 275) (k := 88) (lo := 0) (hi := 7) rfl (by decide)
                              have wf401 : Hid (w389 275 88 = 0 → wfE w389 N (w389 275 78) (w389 275 94) nt P s (e + 1)) := Hid.mk (fun z => by rw [u394, u397]; exact wfE.pr (wf387.out (by omega)) (prE.tk q391))
                              refine e_Ok.nrm (q := 234) (st' := []) rfl rfl ?_
                              refine e_Ok.ps0 (q := 242) 1 rfl ?_
                              refine e_Ok.rets rfl rfl ?_
                              exact ⟨rfl, (show e_fr (mEx (w 275 78) (w 275 94)) w w389 from e_fr.trans (show e_fr (mEx (w 275 78) (w 275 94)) w w373 from e_fr.trans (e_fr.refl w) (fun c k g => q375.1 c k (fun g2 => g (by unfold mEx; omega)))) (e_fr.mono q391 (fun c k g => by unfold mTq at g; unfold mEx; omega))), c399, by unfold cLn; omega, wf401.out⟩
                      · replace h245 : (0 : Int) ≠ 0 := (show ¬ ((0 : Int) = 0) from h245)
                        exfalso; omega
                  · replace h232 : (0 : Int) ≠ 0 := (show ¬ ((0 : Int) = 0) from h232)
                    exfalso; omega
          · replace h144 : (w 275 84 : Int) = 1 := Classical.not_not.mp (show ¬ ((w 275 84 : Int) ≠ 1) from h144)
            refine e_Ok.run (t' := (88, [(0, (1, 275))], [(0, 0), (0, 2), (1, 275), (0, 2), (1, 275)], w)) 5 rfl ?_
            refine e_Ok.callV rfl (e_dq hd rfl) rfl rfl rfl rfl (c_336 hc.1 (n := w 275 78) rfl (by omega) (s := s) hs (by omega)) (fun r402 w403 h404 => ?_)
            obtain ⟨rfl, q405⟩ := h404
            have u406 : w403 275 78 = w 275 78 + 1 := q405.2.2.2.2
            have u407 : w403 275 83 = w 275 83 := q405.1 275 83 (by omega)
            have u408 : w403 275 84 = w 275 84 := q405.1 275 84 (by omega)
            have u409 : w403 275 85 = w 275 85 := q405.1 275 85 (by omega)
            have u410 : w403 275 86 = w 275 86 := q405.1 275 86 (by omega)
            have u411 : w403 275 87 = w 275 87 := q405.1 275 87 (by omega)
            have u412 : w403 275 88 = w 275 88 := q405.1 275 88 (by omega)
            have u413 : w403 275 94 = w 275 94 := q405.1 275 94 (by omega)
            have c415 := cSt.em hc q405 (by omega) (by omega) (by omega)
            have t417t := tkS.lin c415.2.2.2.1
            have t417f := e_Has.get c415.2.1 (c := 275) (k := 88) (lo := 0) (hi := 7) rfl (by decide)
            refine e_Ok.nrm (q := 91) (st' := [(0, w 275 78), (0, 2), (1, 275)]) rfl rfl ?_
            refine e_Ok.callV rfl (e_dq hd rfl) rfl rfl rfl rfl (c_338 (e_dq hd rfl) c415.1 c415.2.1 c415.2.2.1 hNr c415.2.2.2.1 (mm := w403 275 94) rfl (by omega) (by omega) (by omega)) (fun r418 w419 h420 => ?_)
            obtain ⟨rfl, q421⟩ := h420
            obtain ⟨rfl, q421z⟩ | ⟨q421z, q421k, q421, q421T, q421H, q421r⟩ | ⟨q421z, q421k, w422, q421F, q421T, q421H, q421v, q421o, q421, q421s, q421t⟩ := q421
            · exfalso; omega
            · exfalso; omega
            · refine e_Ok.nrm (q := 94) (st' := []) rfl rfl ?_
              have p423 := tkS.pos c415.2.2.2.1 (by omega)
              have u424 : w422 275 78 = w403 275 78 := q421F 275 78 no_a5_12
              have u425 : w422 275 83 = w403 275 83 := q421F 275 83 no_a5_13
              have u426 : w422 275 84 = w403 275 84 := q421F 275 84 no_a5_14
              have u427 : w422 275 85 = w403 275 85 := q421F 275 85 no_a5_15
              have u428 : w422 275 86 = w403 275 86 := q421F 275 86 no_a5_16
              have u429 : w422 275 87 = w403 275 87 := q421F 275 87 no_a5_17
              have u430 : w422 275 88 = w403 275 88 := q421F 275 88 no_a5_18
              have q42194 := q421v.2.2.2.2
              have c432 := cSt.nm c415 q421F
              have t433t := tkS.lin c432.2.2.2.1
              have t433f := e_Has.get c432.2.1 (c := 275) (k := 88) (lo := 0) (hi := 7) rfl (by decide)
              have wf434 : Hid (w422 275 88 = 0 → wfE w422 N (w422 275 78) (w422 275 94) nt P s (e + 1)) := Hid.mk (fun z => by rw [u424, u406, q42194, u413]; exact wfE.d (wfE.read (ta := w403 275 86) (te := w403 275 87) (hwH.out (by omega)) q405 (by omega) ⟨(by rw [← u413]; exact q421v.1), (by rw [← u413]; exact q421v.2.1), (by rw [← u413]; exact q421v.2.2.1), (by rw [← u413]; exact q421v.2.2.2.1)⟩ (fun c k g => q421o c k (by rw [u413] ; exact g)) (by omega) hNr.2 (by omega)) (by omega))
              have u435 : w419 275 78 = w422 275 78 := q421 275 78 no_a5_0
              have u436 : w419 275 83 = w422 275 83 := q421 275 83 no_a5_1
              have u437 : w419 275 88 = w422 275 88 := q421 275 88 no_a5_2
              have u438 : w419 275 94 = w422 275 94 := q421 275 94 no_a5_3
              have c440 := cSt.tk c432 q421 q421s
              have t441t := tkS.lin c440.2.2.2.1
              have t441f := e_Has.get c440.2.1 (c := 275) (k := 88) (lo := 0) (hi := 7) rfl (by decide)
              have wf442 : Hid (w419 275 88 = 0 → wfE w419 N (w419 275 78) (w419 275 94) nt P s (e + 1)) := Hid.mk (fun z => by rw [u435, u438]; exact wfE.pr (wf434.out (by omega)) (prE.tk q421))
              refine e_Ok.ps0 (q := 242) 1 rfl ?_
              refine e_Ok.rets rfl rfl ?_
              exact ⟨rfl, (show e_fr (mEx (w 275 78) (w 275 94)) w w419 from e_fr.trans (show e_fr (mEx (w 275 78) (w 275 94)) w w422 from e_fr.trans (show e_fr (mEx (w 275 78) (w 275 94)) w w403 from e_fr.trans (e_fr.refl w) (fun c k g => q405.1 c k (fun g2 => g (by unfold mEx; omega)))) (fun c k g => q421o c k (fun g2 => g (by unfold mEx; omega)))) (e_fr.mono q421 (fun c k g => by unfold mTq at g; unfold mEx; omega))), c440, by unfold cLn; omega, wf442.out⟩
        · replace h143 : (w 275 84 : Int) = 2 := Classical.not_not.mp (show ¬ ((w 275 84 : Int) ≠ 2) from h143)
          refine e_Ok.ps3 (x := (1, 275)) (y := (0, 1)) (z := (1, 275)) (q := 61) 3 rfl ?_
          refine e_Ok.getf (z := w 275 85) rfl (el_o rfl) rfl (ef_o rfl) rfl (by omega) ?_
          refine e_Ok.callV rfl (e_dq hd rfl) rfl rfl rfl rfl (c_336 hc.1 (n := w 275 78) rfl (by omega) (s := s) hs (by omega)) (fun r443 w444 h445 => ?_)
          obtain ⟨rfl, q446⟩ := h445
          have u447 : w444 275 78 = w 275 78 + 1 := q446.2.2.2.2
          have u448 : w444 275 83 = w 275 83 := q446.1 275 83 (by omega)
          have u449 : w444 275 84 = w 275 84 := q446.1 275 84 (by omega)
          have u450 : w444 275 85 = w 275 85 := q446.1 275 85 (by omega)
          have u451 : w444 275 86 = w 275 86 := q446.1 275 86 (by omega)
          have u452 : w444 275 87 = w 275 87 := q446.1 275 87 (by omega)
          have u453 : w444 275 88 = w 275 88 := q446.1 275 88 (by omega)
          have u454 : w444 275 94 = w 275 94 := q446.1 275 94 (by omega)
          have c456 := cSt.em hc q446 (by omega) (by omega) (by omega)
          have t457t := tkS.lin c456.2.2.2.1
          have t457f := e_Has.get c456.2.1 (c := 275) (k := 88) (lo := 0) (hi := 7) rfl (by decide)
          have wf458 : Hid (w444 275 88 = 0 → wfE w444 N (w444 275 78) (w444 275 94) nt P s (e + 1)) := Hid.mk (fun z => by rw [u447, u454]; exact wfE.d (wfE.em (hwH.out (by omega)) q446 (by decide) (by decide) (by decide) (by decide) (by unfold iOw; omega) (by rw [show nxD 1 (e) = e + 1 from by unfold nxD; rw [if_pos (by omega)] <;> omega]; omega)) (by unfold nxD; rw [if_pos (by omega)] <;> omega))
          refine e_Ok.nrm (q := 67) (st' := [(0, w 275 78)]) rfl rfl ?_
          refine e_Ok.run (t' := (69, [(0, (1, 275))], [(1, 275)], w444)) 2 rfl ?_
          refine e_Ok.callV rfl (e_dq hd rfl) rfl rfl rfl rfl (c_327 (e_dq hd rfl) c456.1 c456.2.1 c456.2.2.1 hNr (t := w444 275 87) rfl (by omega)) (fun r459 w460 h461 => ?_)
          have p463 := tkS.pos c456.2.2.2.1 (by omega)
          obtain ⟨rfl, q462, q462s, q462t⟩ := h461
          have u464 : w460 275 78 = w444 275 78 := q462 275 78 no_a5_0
          have u465 : w460 275 83 = w444 275 83 := q462 275 83 no_a5_1
          have u466 : w460 275 88 = w444 275 88 := q462 275 88 no_a5_2
          have u467 : w460 275 94 = w444 275 94 := q462 275 94 no_a5_3
          have c469 := cSt.tk c456 q462 q462s
          have t470t := tkS.lin c469.2.2.2.1
          have t470f := e_Has.get c469.2.1 (c := 275) (k := 88) (lo := 0) (hi := 7) rfl (by decide)
          have wf471 : Hid (w460 275 88 = 0 → wfE w460 N (w460 275 78) (w460 275 94) nt P s (e + 1)) := Hid.mk (fun z => by rw [u464, u467]; exact wfE.pr (wf458.out (by omega)) (prE.tk q462))
          refine e_Ok.nrm (q := 72) (st' := []) rfl rfl ?_
          refine e_Ok.ps0 (q := 242) 1 rfl ?_
          refine e_Ok.rets rfl rfl ?_
          exact ⟨rfl, (show e_fr (mEx (w 275 78) (w 275 94)) w w460 from e_fr.trans (show e_fr (mEx (w 275 78) (w 275 94)) w w444 from e_fr.trans (e_fr.refl w) (fun c k g => q446.1 c k (fun g2 => g (by unfold mEx; omega)))) (e_fr.mono q462 (fun c k g => by unfold mTq at g; unfold mEx; omega))), c469, by unfold cLn; omega, wf471.out⟩
      · replace h142 : (0 : Int) ≠ 0 := (show ¬ ((0 : Int) = 0) from h142)
        exfalso; omega
  · replace h1 : (w 275 88 : Int) ≠ 0 := (show ¬ ((w 275 88 : Int) = 0) from h1)
    exfalso; omega
end
end
