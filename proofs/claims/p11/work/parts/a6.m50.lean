noncomputable section
theorem no_a6_0 : ¬ mTq 275 78 := by unfold mTq; omega
theorem no_a6_1 : ¬ mTq 275 83 := by unfold mTq; omega
theorem no_a6_2 : ¬ mTq 275 88 := by unfold mTq; omega
theorem no_a6_3 : ¬ mTq 275 94 := by unfold mTq; omega
theorem no_a6_4 {n : Int} {m : Int} : ¬ mEx n m 275 81 := by unfold mEx; omega
theorem no_a6_5 : ¬ mRf 275 78 := by unfold mRf; omega
theorem no_a6_6 : ¬ mRf 275 83 := by unfold mRf; omega
theorem no_a6_7 : ¬ mRf 275 84 := by unfold mRf; omega
theorem no_a6_8 : ¬ mRf 275 85 := by unfold mRf; omega
theorem no_a6_9 : ¬ mRf 275 86 := by unfold mRf; omega
theorem no_a6_10 : ¬ mRf 275 87 := by unfold mRf; omega
theorem no_a6_11 : ¬ mRf 275 94 := by unfold mRf; omega
set_option maxHeartbeats 4000000 in
theorem c_342 {d : Nat} (hd : 47 ≤ d) {w : eW} {N nt s e o F : Int} {P : Int → Prop} (hc : cSt w N) (hNr : 0 ≤ N ∧ N ≤ 4000) (h0 : w 275 88 = 0) (ho : w 275 83 = o) (hs : w 275 81 = s) (hb : 0 ≤ w 275 78 ∧ w 275 78 + 2 * (N - w 275 86) ≤ 8100 ∧ 0 ≤ w 275 94 ∧ w 275 94 + (N - w 275 86) ≤ 4050) (hw : wfE w N (w 275 78) (w 275 94) nt P s e) (he : e ≤ w 275 86) (hor : 0 ≤ o ∧ o ≤ 30) (hF : 0 ≤ F ∧ F ≤ 400) (hS : ∀ k, d = k + 1 → exC 343 o F k) (hN : o < 30 → ∀ k, d = k + 1 → exC 342 (o + 1) F k) : e_Ok 20 elay ecode eI d 342 (0, [(0, (1, 275))], [], w) (fun r w' => r = [] ∧ exQ w w' N nt P s (e + 1) (F + 1)) := by
  obtain ⟨d, rfl⟩ : ∃ e, d = e + 1 := ⟨d - 1, by omega⟩
  have hct := tkS.lin hc.2.2.2.1
  have hcf := e_Has.get hc.2.1 (c := 275) (k := 88) (lo := 0) (hi := 7) rfl (by decide)
  have hsb := hc.2.2.2.2
  rw [hs] at hsb
  have he0 := hw.2.2.2.2.2.1
  have hwH : Hid (w 275 88 = 0 → wfE w N (w 275 78) (w 275 94) nt P s e) := Hid.mk (fun _ => hw)
  refine e_Ok.run (t' := (1, [(0, (1, 275))], [(1, 275)], w)) 1 rfl ?_
  refine e_Ok.getf (z := w 275 88) rfl (el_o rfl) rfl (ef_o rfl) rfl (by omega) ?_
  refine e_Ok.if1 rfl (fun h1 => ?_) (fun h1 => ?_)
  · replace h1 : (w 275 88 : Int) ≠ 0 := h1
    exfalso; omega
  · replace h1 : (w 275 88 : Int) = 0 := Classical.not_not.mp (show ¬ ((w 275 88 : Int) ≠ 0) from h1)
    refine e_Ok.ps2 (x := (0, 26)) (y := (1, 275)) (q := 10) 2 rfl ?_
    refine e_Ok.callV rfl (e_dq hd rfl) rfl rfl rfl rfl (c_332 hc.1 (N := N) hc.2.2.2.1) (fun r2 w3 h4 => ?_)
    obtain ⟨z5, rfl, rfl, q6⟩ := h4
    obtain ⟨rfl, q6, q6b⟩ | ⟨rfl, q6n⟩ := q6
    · refine e_Ok.nrm (q := 13) (st' := [(0, 1)]) rfl rfl ?_
      refine e_Ok.if1 rfl (fun h7 => ?_) (fun h7 => ?_)
      · replace h7 : (1 : Int) = 0 := h7
        exfalso; omega
      · replace h7 : (1 : Int) ≠ 0 := (show ¬ ((1 : Int) = 0) from h7)
        refine e_Ok.ps1 (x := (1, 275)) (q := 17) 1 rfl ?_
        refine e_Ok.callV rfl (e_dq hd rfl) rfl rfl rfl rfl (c_335 (e_dq hd rfl) hc.1 hc.2.1 hc.2.2.1 hNr hc.2.2.2.1 (o := w 275 83) rfl (by omega)) (fun r8 w9 h10 => ?_)
        obtain ⟨rfl, q11o, q11⟩ := h10
        obtain ⟨q11, q11n⟩ | ⟨q11z, q11n, w12, q11u, q11, q11T, q11H, q11r⟩ := q11
        · refine e_Ok.nrm (q := 20) (st' := []) rfl rfl ?_
          have e13 := up83 q11
          have e133 := e13.2
          have u14 : w9 275 78 = w 275 78 := e13.1 275 78 (by omega)
          have u15 : w9 275 84 = w 275 84 := e13.1 275 84 (by omega)
          have u16 : w9 275 85 = w 275 85 := e13.1 275 85 (by omega)
          have u17 : w9 275 86 = w 275 86 := e13.1 275 86 (by omega)
          have u18 : w9 275 87 = w 275 87 := e13.1 275 87 (by omega)
          have u19 : w9 275 88 = w 275 88 := e13.1 275 88 (by omega)
          have u20 : w9 275 94 = w 275 94 := e13.1 275 94 (by omega)
          have c22 := cSt.up hc q11
          have t23t := tkS.lin c22.2.2.2.1
          have t23f := e_Has.get c22.2.1 (c := 275) (k := 88) (lo := 0) (hi := 7) rfl (by decide)
          have wf24 : Hid (w9 275 88 = 0 → wfE w9 N (w9 275 78) (w9 275 94) nt P s (e)) := Hid.mk (fun z => by rw [u14, u20]; exact wfE.pr (hwH.out (by omega)) (prE.up q11))
          refine e_Ok.ps1 (x := (1, 275)) (q := 21) 1 rfl ?_
          refine e_Ok.callV rfl (e_dq hd rfl) rfl rfl rfl rfl (c_327 (e_dq hd rfl) c22.1 c22.2.1 c22.2.2.1 hNr (t := w9 275 87) rfl (by omega)) (fun r25 w26 h27 => ?_)
          have p29 := tkS.pos c22.2.2.2.1 (by omega)
          have p30 := tkS.key c22.2.2.2.1 (by omega)
          obtain ⟨rfl, q28, q28s, q28t⟩ := h27
          have u31 : w26 275 78 = w9 275 78 := q28 275 78 no_a6_0
          have u32 : w26 275 83 = w9 275 83 := q28 275 83 no_a6_1
          have u33 : w26 275 88 = w9 275 88 := q28 275 88 no_a6_2
          have u34 : w26 275 94 = w9 275 94 := q28 275 94 no_a6_3
          have f35 : e_fr (mEx (w 275 78) (w 275 94)) w w26 := e_fr.trans (show e_fr (mEx (w 275 78) (w 275 94)) w w9 from e_fr.trans (e_fr.refl w) (fun c k g => e13.1 c k (fun g2 => g (by unfold mEx; omega)))) (e_fr.mono q28 (fun c k g => by unfold mTq at g; unfold mEx; omega))
          have c36 := cSt.tk c22 q28 q28s
          have t37t := tkS.lin c36.2.2.2.1
          have t37f := e_Has.get c36.2.1 (c := 275) (k := 88) (lo := 0) (hi := 7) rfl (by decide)
          have wf38 : Hid (w26 275 88 = 0 → wfE w26 N (w26 275 78) (w26 275 94) nt P s (e)) := Hid.mk (fun z => by rw [u31, u34]; exact wfE.pr (wf24.out (by omega)) (prE.tk q28))
          refine e_Ok.nrm (q := 24) (st' := []) rfl rfl ?_
          refine e_Ok.ps1 (x := (1, 275)) (q := 25) 1 rfl ?_
          refine e_Ok.callV rfl (e_dq hd rfl) rfl rfl rfl rfl ((hN (by omega) d rfl) w26 N nt s (e) P c36 hNr (by omega) (by omega) (Eq.trans (f35 275 81 (by first | exact no_a6_4 | (unfold mEx; omega))) hs) (by omega) (wf38.out (by omega)) (by omega)) (fun r40 w41 h42 => ?_)
          obtain ⟨rfl, q43F, q43c, q43l, q43w⟩ := h42
          unfold cLn at q43l
          replace q43w : Hid (w41 275 88 = 0 → wfE w41 N (w41 275 78) (w41 275 94) nt P s (e + 1)) := Hid.mk (fun z => wfE.d (q43w z) (by omega))
          have t45t := tkS.lin q43c.2.2.2.1
          have t45f := e_Has.get q43c.2.1 (c := 275) (k := 88) (lo := 0) (hi := 7) rfl (by decide)
          refine e_Ok.nrm (q := 28) (st' := []) rfl rfl ?_
          refine e_Ok.ps2 (x := (1, 275)) (y := (1, 275)) (q := 30) 2 rfl ?_
          refine e_Ok.getf (z := w41 275 83) rfl (el_o rfl) rfl (ef_o rfl) rfl (by omega) ?_
          refine e_Ok.ps1 (x := (0, 1)) (q := 34) 1 rfl ?_
          refine e_Ok.sub' (z := w41 275 83 - 1) rfl rfl (by omega) ?_
          refine e_Ok.putf rfl (el_o rfl) rfl (ef_o rfl) ?_
          generalize hw46 : e_up w41 275 83 (w41 275 83 - 1) = w46
          have f47 : e_fr (mEx (w 275 78) (w 275 94)) w w46 := e_fr.up (show e_fr (mEx (w 275 78) (w 275 94)) w w41 from e_fr.trans f35 (e_fr.mono q43F (fun c k g => by unfold mEx at g; unfold mEx; omega))) hw46 (by first | exact Or.inr (Or.inr ⟨rfl, Or.inr (Or.inl ⟨(by decide), (by decide)⟩)⟩) | (unfold mEx; omega))
          have e48 := up83 hw46
          have e483 := e48.2
          have u49 : w46 275 78 = w41 275 78 := e48.1 275 78 (by omega)
          have u50 : w46 275 84 = w41 275 84 := e48.1 275 84 (by omega)
          have u51 : w46 275 85 = w41 275 85 := e48.1 275 85 (by omega)
          have u52 : w46 275 86 = w41 275 86 := e48.1 275 86 (by omega)
          have u53 : w46 275 87 = w41 275 87 := e48.1 275 87 (by omega)
          have u54 : w46 275 88 = w41 275 88 := e48.1 275 88 (by omega)
          have u55 : w46 275 94 = w41 275 94 := e48.1 275 94 (by omega)
          have c56 := cSt.up q43c hw46
          have t57t := tkS.lin c56.2.2.2.1
          have t57f := e_Has.get c56.2.1 (c := 275) (k := 88) (lo := 0) (hi := 7) rfl (by decide)
          have wf58 : Hid (w46 275 88 = 0 → wfE w46 N (w46 275 78) (w46 275 94) nt P s (e + 1)) := Hid.mk (fun z => by rw [u49, u55]; exact wfE.pr (q43w.out (by omega)) (prE.up hw46))
          refine e_Ok.ps3 (x := (0, 0)) (y := (0, 21)) (z := (1, 275)) (q := 42) 3 rfl ?_
          refine e_Ok.callV rfl (e_dq hd rfl) rfl rfl rfl rfl (c_336 c56.1 (n := w46 275 78) rfl (by omega) (s := s) (Eq.trans (f47 275 81 (by first | exact no_a6_4 | (unfold mEx; omega))) hs) (by omega)) (fun r59 w60 h61 => ?_)
          obtain ⟨rfl, q62⟩ := h61
          have u63 : w60 275 78 = w46 275 78 + 1 := q62.2.2.2.2
          have u64 : w60 275 83 = w46 275 83 := q62.1 275 83 (by omega)
          have u65 : w60 275 84 = w46 275 84 := q62.1 275 84 (by omega)
          have u66 : w60 275 85 = w46 275 85 := q62.1 275 85 (by omega)
          have u67 : w60 275 86 = w46 275 86 := q62.1 275 86 (by omega)
          have u68 : w60 275 87 = w46 275 87 := q62.1 275 87 (by omega)
          have u69 : w60 275 88 = w46 275 88 := q62.1 275 88 (by omega)
          have u70 : w60 275 94 = w46 275 94 := q62.1 275 94 (by omega)
          have c72 := cSt.em c56 q62 (by omega) (by omega) (by omega)
          have t73t := tkS.lin c72.2.2.2.1
          have t73f := e_Has.get c72.2.1 (c := 275) (k := 88) (lo := 0) (hi := 7) rfl (by decide)
          have wf74 : Hid (w60 275 88 = 0 → wfE w60 N (w60 275 78) (w60 275 94) nt P s (e + 1)) := Hid.mk (fun z => by rw [u63, u70]; exact wfE.d (wfE.em (wf58.out (by omega)) q62 (by decide) (by decide) (by decide) (by decide) (by unfold iOw; omega) (by rw [show nxD 21 (e + 1) = e + 1 from by unfold nxD; rw [if_neg (by omega), if_neg (by omega), if_neg (by omega)] <;> omega]; omega)) (by unfold nxD; rw [if_neg (by omega), if_neg (by omega), if_neg (by omega)] <;> omega))
          refine e_Ok.nrm (q := 45) (st' := [(0, w46 275 78)]) rfl rfl ?_
          refine e_Ok.run (t' := (46, [(0, (1, 275))], [], w60)) 1 rfl ?_
          refine e_Ok.rets rfl rfl ?_
          exact ⟨rfl, (show e_fr (mEx (w 275 78) (w 275 94)) w w60 from e_fr.trans f47 (fun c k g => q62.1 c k (fun g2 => g (by unfold mEx; omega)))), c72, by unfold cLn; omega, wf74.out⟩
        · refine e_Ok.nrm (q := 20) (st' := []) rfl rfl ?_
          have u75 : w12 275 78 = w 275 78 := q11 275 78 no_a6_5
          have u76 : w12 275 83 = w 275 83 := q11 275 83 no_a6_6
          have u77 : w12 275 84 = w 275 84 := q11 275 84 no_a6_7
          have u78 : w12 275 85 = w 275 85 := q11 275 85 no_a6_8
          have u79 : w12 275 86 = w 275 86 := q11 275 86 no_a6_9
          have u80 : w12 275 87 = w 275 87 := q11 275 87 no_a6_10
          have u81 : w12 275 94 = w 275 94 := q11 275 94 no_a6_11
          have c83 := cSt.rf hc q11 q11T q11H
          have t84t := tkS.lin c83.2.2.2.1
          have t84f := e_Has.get c83.2.1 (c := 275) (k := 88) (lo := 0) (hi := 7) rfl (by decide)
          have e85 := up83 q11u
          have e853 := e85.2
          have u86 : w9 275 78 = w12 275 78 := e85.1 275 78 (by omega)
          have u87 : w9 275 84 = w12 275 84 := e85.1 275 84 (by omega)
          have u88 : w9 275 85 = w12 275 85 := e85.1 275 85 (by omega)
          have u89 : w9 275 86 = w12 275 86 := e85.1 275 86 (by omega)
          have u90 : w9 275 87 = w12 275 87 := e85.1 275 87 (by omega)
          have u91 : w9 275 88 = w12 275 88 := e85.1 275 88 (by omega)
          have u92 : w9 275 94 = w12 275 94 := e85.1 275 94 (by omega)
          have c94 := cSt.up c83 q11u
          have t95t := tkS.lin c94.2.2.2.1
          have t95f := e_Has.get c94.2.1 (c := 275) (k := 88) (lo := 0) (hi := 7) rfl (by decide)
          refine e_Ok.ps1 (x := (1, 275)) (q := 21) 1 rfl ?_
          refine e_Ok.callV rfl (e_dq hd rfl) rfl rfl rfl rfl (c_327 (e_dq hd rfl) c94.1 c94.2.1 c94.2.2.1 hNr (t := w9 275 87) rfl (by omega)) (fun r101 w103 h104 => ?_)
          obtain ⟨rfl, q105, q105s, q105t⟩ := h104
          have u106 : w103 275 78 = w9 275 78 := q105 275 78 no_a6_0
          have u107 : w103 275 83 = w9 275 83 := q105 275 83 no_a6_1
          have u108 : w103 275 88 = w9 275 88 := q105 275 88 no_a6_2
          have u109 : w103 275 94 = w9 275 94 := q105 275 94 no_a6_3
          have c111 := cSt.tk c94 q105 q105s
          have t112t := tkS.lin c111.2.2.2.1
          have t112f := e_Has.get c111.2.1 (c := 275) (k := 88) (lo := 0) (hi := 7) rfl (by decide)
          refine e_Ok.nrm (q := 24) (st' := []) rfl rfl ?_
          refine e_Ok.ps1 (x := (1, 275)) (q := 25) 1 rfl ?_
          refine e_Ok.callV rfl (e_dq hd rfl) rfl rfl rfl rfl (c_342_0 (e_dq hd rfl) c111 (by omega)) (fun r113 w114 h115 => ?_)
          obtain ⟨rfl, rfl⟩ := h115
          refine e_Ok.nrm (q := 28) (st' := []) rfl rfl ?_
          refine e_Ok.ps2 (x := (1, 275)) (y := (1, 275)) (q := 30) 2 rfl ?_
          refine e_Ok.getf (z := w103 275 83) rfl (el_o rfl) rfl (ef_o rfl) rfl (by omega) ?_
          refine e_Ok.ps1 (x := (0, 1)) (q := 34) 1 rfl ?_
          refine e_Ok.sub' (z := w103 275 83 - 1) rfl rfl (by omega) ?_
          refine e_Ok.putf rfl (el_o rfl) rfl (ef_o rfl) ?_
          generalize hw116 : e_up w103 275 83 (w103 275 83 - 1) = w116
          have f117 : e_fr (mEx (w 275 78) (w 275 94)) w w116 := e_fr.up (show e_fr (mEx (w 275 78) (w 275 94)) w w103 from e_fr.trans (show e_fr (mEx (w 275 78) (w 275 94)) w w9 from e_fr.trans (show e_fr (mEx (w 275 78) (w 275 94)) w w12 from e_fr.trans (e_fr.refl w) (e_fr.mono q11 (fun c k g => by unfold mRf at g; unfold mEx; omega))) (fun c k g => e85.1 c k (fun g2 => g (by unfold mEx; omega)))) (e_fr.mono q105 (fun c k g => by unfold mTq at g; unfold mEx; omega))) hw116 (by first | exact Or.inr (Or.inr ⟨rfl, Or.inr (Or.inl ⟨(by decide), (by decide)⟩)⟩) | (unfold mEx; omega))
          have e118 := up83 hw116
          have e1183 := e118.2
          have u119 : w116 275 78 = w103 275 78 := e118.1 275 78 (by omega)
          have u120 : w116 275 84 = w103 275 84 := e118.1 275 84 (by omega)
          have u121 : w116 275 85 = w103 275 85 := e118.1 275 85 (by omega)
          have u122 : w116 275 86 = w103 275 86 := e118.1 275 86 (by omega)
          have u123 : w116 275 87 = w103 275 87 := e118.1 275 87 (by omega)
          have u124 : w116 275 88 = w103 275 88 := e118.1 275 88 (by omega)
          have u125 : w116 275 94 = w103 275 94 := e118.1 275 94 (by omega)
          have c126 := cSt.up c111 hw116
          have t127t := tkS.lin c126.2.2.2.1
          have t127f := e_Has.get c126.2.1 (c := 275) (k := 88) (lo := 0) (hi := 7) rfl (by decide)
          refine e_Ok.ps3 (x := (0, 0)) (y := (0, 21)) (z := (1, 275)) (q := 42) 3 rfl ?_
          refine e_Ok.callV rfl (e_dq hd rfl) rfl rfl rfl rfl (c_336 c126.1 (n := w116 275 78) rfl (by omega) (s := s) (Eq.trans (f117 275 81 (by first | exact no_a6_4 | (unfold mEx; omega))) hs) (by omega)) (fun r128 w129 h130 => ?_)
          obtain ⟨rfl, q131⟩ := h130
          have u132 : w129 275 78 = w116 275 78 + 1 := q131.2.2.2.2
          have u133 : w129 275 83 = w116 275 83 := q131.1 275 83 (by omega)
          have u134 : w129 275 84 = w116 275 84 := q131.1 275 84 (by omega)
          have u135 : w129 275 85 = w116 275 85 := q131.1 275 85 (by omega)
          have u136 : w129 275 86 = w116 275 86 := q131.1 275 86 (by omega)
          have u137 : w129 275 87 = w116 275 87 := q131.1 275 87 (by omega)
          have u138 : w129 275 88 = w116 275 88 := q131.1 275 88 (by omega)
          have u139 : w129 275 94 = w116 275 94 := q131.1 275 94 (by omega)
          have c141 := cSt.em c126 q131 (by omega) (by omega) (by omega)
          have t142t := tkS.lin c141.2.2.2.1
          have t142f := e_Has.get c141.2.1 (c := 275) (k := 88) (lo := 0) (hi := 7) rfl (by decide)
          refine e_Ok.nrm (q := 45) (st' := [(0, w116 275 78)]) rfl rfl ?_
          refine e_Ok.run (t' := (46, [(0, (1, 275))], [], w129)) 1 rfl ?_
          refine e_Ok.rets rfl rfl ?_
          exact ⟨rfl, (show e_fr (mEx (w 275 78) (w 275 94)) w w129 from e_fr.trans f117 (fun c k g => q131.1 c k (fun g2 => g (by unfold mEx; omega)))), c141, by unfold cLn; omega, (fun z => absurd z (by omega))⟩
    · refine e_Ok.nrm (q := 13) (st' := [(0, 0)]) rfl rfl ?_
      refine e_Ok.if1 rfl (fun h143 => ?_) (fun h143 => ?_)
      · replace h143 : (0 : Int) = 0 := h143
        refine e_Ok.ps1 (x := (1, 275)) (q := 48) 1 rfl ?_
        refine e_Ok.callV rfl (e_dq hd rfl) rfl rfl rfl rfl ((hS d rfl) w N nt s (e) P hc hNr (by omega) (by omega) hs (by omega) (hwH.out (by omega)) (by omega)) (fun r144 w145 h146 => ?_)
        obtain ⟨rfl, q147F, q147c, q147l, q147w⟩ := h146
        unfold cLn at q147l
        replace q147w : Hid (w145 275 88 = 0 → wfE w145 N (w145 275 78) (w145 275 94) nt P s (e + 1)) := Hid.mk (fun z => wfE.d (q147w z) (by omega))
        have f148 : e_fr (mEx (w 275 78) (w 275 94)) w w145 := e_fr.trans (e_fr.refl w) (e_fr.mono q147F (fun c k g => by unfold mEx at g; unfold mEx; omega))
        have t149t := tkS.lin q147c.2.2.2.1
        have t149f := e_Has.get q147c.2.1 (c := 275) (k := 88) (lo := 0) (hi := 7) rfl (by decide)
        refine e_Ok.nrm (q := 51) (st' := []) rfl rfl ?_
        refine e_Ok.ps1 (x := (1, 275)) (q := 52) 1 rfl ?_
        refine e_Ok.getf (z := w145 275 88) rfl (el_o rfl) rfl (ef_o rfl) rfl (by omega) ?_
        refine e_Ok.if1 rfl (fun h150 => ?_) (fun h150 => ?_)
        · replace h150 : (w145 275 88 : Int) ≠ 0 := h150
          refine e_Ok.run (t' := (157, [(1, (0, 0)), (0, (1, 275))], [(0, 0)], w145)) 4 rfl ?_
          refine e_Ok.if1 rfl (fun h151 => ?_) (fun h151 => ?_)
          · replace h151 : (0 : Int) = 0 := h151
            refine e_Ok.rets rfl rfl ?_
            exact ⟨rfl, f148, q147c, by unfold cLn; omega, (fun z => absurd z (by omega))⟩
          · replace h151 : (0 : Int) ≠ 0 := (show ¬ ((0 : Int) = 0) from h151)
            exfalso; omega
        · replace h150 : (w145 275 88 : Int) = 0 := Classical.not_not.mp (show ¬ ((w145 275 88 : Int) ≠ 0) from h150)
          refine e_Ok.ps1 (x := (1, 275)) (q := 59) 1 rfl ?_
          refine e_Ok.getf (z := w145 275 84) rfl (el_o rfl) rfl (ef_o rfl) rfl (by omega) ?_
          refine e_Ok.ps1 (x := (0, 3)) (q := 63) 1 rfl ?_
          refine e_Ok.if2 rfl (fun h152 => ?_) (fun h152 => ?_)
          · replace h152 : (w145 275 84 : Int) = 3 := h152
            refine e_Ok.ps1 (x := (1, 275)) (q := 71) 1 rfl ?_
            refine e_Ok.getf (z := w145 275 85) rfl (el_o rfl) rfl (ef_o rfl) rfl (by omega) ?_
            refine e_Ok.ps1 (x := (0, 61)) (q := 76) 1 rfl ?_
            refine e_Ok.if2 rfl (fun h153 => ?_) (fun h153 => ?_)
            · replace h153 : (w145 275 85 : Int) ≠ 61 := h153
              refine e_Ok.ps1 (x := (1, 275)) (q := 85) 1 rfl ?_
              refine e_Ok.getf (z := w145 275 85) rfl (el_o rfl) rfl (ef_o rfl) rfl (by omega) ?_
              refine e_Ok.ps1 (x := (0, 110)) (q := 90) 1 rfl ?_
              refine e_Ok.if2 rfl (fun h154 => ?_) (fun h154 => ?_)
              · replace h154 : (w145 275 85 : Int) ≠ 110 := h154
                refine e_Ok.ps1 (x := (1, 275)) (q := 99) 1 rfl ?_
                refine e_Ok.getf (z := w145 275 85) rfl (el_o rfl) rfl (ef_o rfl) rfl (by omega) ?_
                refine e_Ok.ps1 (x := (0, 60)) (q := 104) 1 rfl ?_
                refine e_Ok.if2 rfl (fun h155 => ?_) (fun h155 => ?_)
                · replace h155 : (w145 275 85 : Int) ≠ 60 := h155
                  refine e_Ok.ps1 (x := (1, 275)) (q := 113) 1 rfl ?_
                  refine e_Ok.getf (z := w145 275 85) rfl (el_o rfl) rfl (ef_o rfl) rfl (by omega) ?_
                  refine e_Ok.ps1 (x := (0, 108)) (q := 118) 1 rfl ?_
                  refine e_Ok.if2 rfl (fun h156 => ?_) (fun h156 => ?_)
                  · replace h156 : (w145 275 85 : Int) ≠ 108 := h156
                    refine e_Ok.ps1 (x := (1, 275)) (q := 127) 1 rfl ?_
                    refine e_Ok.getf (z := w145 275 85) rfl (el_o rfl) rfl (ef_o rfl) rfl (by omega) ?_
                    refine e_Ok.ps1 (x := (0, 62)) (q := 132) 1 rfl ?_
                    refine e_Ok.if2 rfl (fun h157 => ?_) (fun h157 => ?_)
                    · replace h157 : (w145 275 85 : Int) ≠ 62 := h157
                      refine e_Ok.ps1 (x := (1, 275)) (q := 141) 1 rfl ?_
                      refine e_Ok.getf (z := w145 275 85) rfl (el_o rfl) rfl (ef_o rfl) rfl (by omega) ?_
                      refine e_Ok.ps1 (x := (0, 103)) (q := 146) 1 rfl ?_
                      refine e_Ok.if2 rfl (fun h158 => ?_) (fun h158 => ?_)
                      · replace h158 : (w145 275 85 : Int) ≠ 103 := h158
                        refine e_Ok.run (t' := (157, [(1, (0, 0)), (0, (1, 275))], [(0, 0)], w145)) 3 rfl ?_
                        refine e_Ok.if1 rfl (fun h159 => ?_) (fun h159 => ?_)
                        · replace h159 : (0 : Int) = 0 := h159
                          refine e_Ok.rets rfl rfl ?_
                          exact ⟨rfl, f148, q147c, by unfold cLn; omega, q147w.out⟩
                        · replace h159 : (0 : Int) ≠ 0 := (show ¬ ((0 : Int) = 0) from h159)
                          exfalso; omega
                      · replace h158 : (w145 275 85 : Int) = 103 := Classical.not_not.mp (show ¬ ((w145 275 85 : Int) ≠ 103) from h158)
                        refine e_Ok.run (t' := (157, [(1, (0, 20)), (0, (1, 275))], [(0, 20)], w145)) 4 rfl ?_
                        refine e_Ok.if1 rfl (fun h160 => ?_) (fun h160 => ?_)
                        · replace h160 : (20 : Int) = 0 := h160
                          exfalso; omega
                        · replace h160 : (20 : Int) ≠ 0 := (show ¬ ((20 : Int) = 0) from h160)
                          refine e_Ok.ps1 (x := (1, 275)) (q := 161) 1 rfl ?_
                          refine e_Ok.callV rfl (e_dq hd rfl) rfl rfl rfl rfl (c_327 (e_dq hd rfl) q147c.1 q147c.2.1 q147c.2.2.1 hNr (t := w145 275 87) rfl (by omega)) (fun r161 w162 h163 => ?_)
                          have p165 := tkS.pos q147c.2.2.2.1 (by omega)
                          obtain ⟨rfl, q164, q164s, q164t⟩ := h163
                          have u166 : w162 275 78 = w145 275 78 := q164 275 78 no_a6_0
                          have u167 : w162 275 83 = w145 275 83 := q164 275 83 no_a6_1
                          have u168 : w162 275 88 = w145 275 88 := q164 275 88 no_a6_2
                          have u169 : w162 275 94 = w145 275 94 := q164 275 94 no_a6_3
                          have f170 : e_fr (mEx (w 275 78) (w 275 94)) w w162 := e_fr.trans f148 (e_fr.mono q164 (fun c k g => by unfold mTq at g; unfold mEx; omega))
                          have c171 := cSt.tk q147c q164 q164s
                          have t172t := tkS.lin c171.2.2.2.1
                          have t172f := e_Has.get c171.2.1 (c := 275) (k := 88) (lo := 0) (hi := 7) rfl (by decide)
                          have wf173 : Hid (w162 275 88 = 0 → wfE w162 N (w162 275 78) (w162 275 94) nt P s (e + 1)) := Hid.mk (fun z => by rw [u166, u169]; exact wfE.pr (q147w.out (by omega)) (prE.tk q164))
                          refine e_Ok.nrm (q := 164) (st' := []) rfl rfl ?_
                          refine e_Ok.ps1 (x := (1, 275)) (q := 165) 1 rfl ?_
                          refine e_Ok.callV rfl (e_dq hd rfl) rfl rfl rfl rfl ((hS d rfl) w162 N nt s (e + 1) P c171 hNr (by omega) (by omega) (Eq.trans (f170 275 81 (by first | exact no_a6_4 | (unfold mEx; omega))) hs) (by omega) (wf173.out (by omega)) (by omega)) (fun r174 w175 h176 => ?_)
                          obtain ⟨rfl, q177F, q177c, q177l, q177w⟩ := h176
                          unfold cLn at q177l
                          replace q177w : Hid (w175 275 88 = 0 → wfE w175 N (w175 275 78) (w175 275 94) nt P s (e + 2)) := Hid.mk (fun z => wfE.d (q177w z) (by omega))
                          have f178 : e_fr (mEx (w 275 78) (w 275 94)) w w175 := e_fr.trans f170 (e_fr.mono q177F (fun c k g => by unfold mEx at g; unfold mEx; omega))
                          have t179t := tkS.lin q177c.2.2.2.1
                          have t179f := e_Has.get q177c.2.1 (c := 275) (k := 88) (lo := 0) (hi := 7) rfl (by decide)
                          refine e_Ok.nrm (q := 168) (st' := []) rfl rfl ?_
                          refine e_Ok.ps3 (x := (0, 0)) (y := (0, 20)) (z := (1, 275)) (q := 171) 3 rfl ?_
                          refine e_Ok.callV rfl (e_dq hd rfl) rfl rfl rfl rfl (c_336 q177c.1 (n := w175 275 78) rfl (by omega) (s := s) (Eq.trans (f178 275 81 (by first | exact no_a6_4 | (unfold mEx; omega))) hs) (by omega)) (fun r180 w181 h182 => ?_)
                          obtain ⟨rfl, q183⟩ := h182
                          have u184 : w181 275 78 = w175 275 78 + 1 := q183.2.2.2.2
                          have u185 : w181 275 83 = w175 275 83 := q183.1 275 83 (by omega)
                          have u186 : w181 275 84 = w175 275 84 := q183.1 275 84 (by omega)
                          have u187 : w181 275 85 = w175 275 85 := q183.1 275 85 (by omega)
                          have u188 : w181 275 86 = w175 275 86 := q183.1 275 86 (by omega)
                          have u189 : w181 275 87 = w175 275 87 := q183.1 275 87 (by omega)
                          have u190 : w181 275 88 = w175 275 88 := q183.1 275 88 (by omega)
                          have u191 : w181 275 94 = w175 275 94 := q183.1 275 94 (by omega)
                          have c193 := cSt.em q177c q183 (by omega) (by omega) (by omega)
                          have t194t := tkS.lin c193.2.2.2.1
                          have t194f := e_Has.get c193.2.1 (c := 275) (k := 88) (lo := 0) (hi := 7) rfl (by decide)
                          have wf195 : Hid (w181 275 88 = 0 → wfE w181 N (w181 275 78) (w181 275 94) nt P s (e + 1)) := Hid.mk (fun z => by rw [u184, u191]; exact wfE.d (wfE.em (q177w.out (by omega)) q183 (by decide) (by decide) (by decide) (by decide) (by unfold iOw; omega) (by rw [show nxD 20 (e + 2) = e + 1 from by unfold nxD; rw [if_neg (by omega), if_neg (by omega), if_pos (by omega)] <;> omega]; omega)) (by unfold nxD; rw [if_neg (by omega), if_neg (by omega), if_pos (by omega)] <;> omega))
                          refine e_Ok.nrm (q := 174) (st' := [(0, w175 275 78)]) rfl rfl ?_
                          refine e_Ok.run (t' := (175, [(1, (0, 20)), (0, (1, 275))], [], w181)) 1 rfl ?_
                          refine e_Ok.rets rfl rfl ?_
                          exact ⟨rfl, (show e_fr (mEx (w 275 78) (w 275 94)) w w181 from e_fr.trans f178 (fun c k g => q183.1 c k (fun g2 => g (by unfold mEx; omega)))), c193, by unfold cLn; omega, wf195.out⟩
                    · replace h157 : (w145 275 85 : Int) = 62 := Classical.not_not.mp (show ¬ ((w145 275 85 : Int) ≠ 62) from h157)
                      refine e_Ok.run (t' := (157, [(1, (0, 19)), (0, (1, 275))], [(0, 19)], w145)) 4 rfl ?_
                      refine e_Ok.if1 rfl (fun h196 => ?_) (fun h196 => ?_)
                      · replace h196 : (19 : Int) = 0 := h196
                        exfalso; omega
                      · replace h196 : (19 : Int) ≠ 0 := (show ¬ ((19 : Int) = 0) from h196)
                        refine e_Ok.ps1 (x := (1, 275)) (q := 161) 1 rfl ?_
                        refine e_Ok.callV rfl (e_dq hd rfl) rfl rfl rfl rfl (c_327 (e_dq hd rfl) q147c.1 q147c.2.1 q147c.2.2.1 hNr (t := w145 275 87) rfl (by omega)) (fun r197 w198 h199 => ?_)
                        have p201 := tkS.pos q147c.2.2.2.1 (by omega)
                        obtain ⟨rfl, q200, q200s, q200t⟩ := h199
                        have u202 : w198 275 78 = w145 275 78 := q200 275 78 no_a6_0
                        have u203 : w198 275 83 = w145 275 83 := q200 275 83 no_a6_1
                        have u204 : w198 275 88 = w145 275 88 := q200 275 88 no_a6_2
                        have u205 : w198 275 94 = w145 275 94 := q200 275 94 no_a6_3
                        have f206 : e_fr (mEx (w 275 78) (w 275 94)) w w198 := e_fr.trans f148 (e_fr.mono q200 (fun c k g => by unfold mTq at g; unfold mEx; omega))
                        have c207 := cSt.tk q147c q200 q200s
                        have t208t := tkS.lin c207.2.2.2.1
                        have t208f := e_Has.get c207.2.1 (c := 275) (k := 88) (lo := 0) (hi := 7) rfl (by decide)
                        have wf209 : Hid (w198 275 88 = 0 → wfE w198 N (w198 275 78) (w198 275 94) nt P s (e + 1)) := Hid.mk (fun z => by rw [u202, u205]; exact wfE.pr (q147w.out (by omega)) (prE.tk q200))
                        refine e_Ok.nrm (q := 164) (st' := []) rfl rfl ?_
                        refine e_Ok.ps1 (x := (1, 275)) (q := 165) 1 rfl ?_
                        refine e_Ok.callV rfl (e_dq hd rfl) rfl rfl rfl rfl ((hS d rfl) w198 N nt s (e + 1) P c207 hNr (by omega) (by omega) (Eq.trans (f206 275 81 (by first | exact no_a6_4 | (unfold mEx; omega))) hs) (by omega) (wf209.out (by omega)) (by omega)) (fun r210 w211 h212 => ?_)
                        obtain ⟨rfl, q213F, q213c, q213l, q213w⟩ := h212
                        unfold cLn at q213l
                        replace q213w : Hid (w211 275 88 = 0 → wfE w211 N (w211 275 78) (w211 275 94) nt P s (e + 2)) := Hid.mk (fun z => wfE.d (q213w z) (by omega))
                        have f214 : e_fr (mEx (w 275 78) (w 275 94)) w w211 := e_fr.trans f206 (e_fr.mono q213F (fun c k g => by unfold mEx at g; unfold mEx; omega))
                        have t215t := tkS.lin q213c.2.2.2.1
                        have t215f := e_Has.get q213c.2.1 (c := 275) (k := 88) (lo := 0) (hi := 7) rfl (by decide)
                        refine e_Ok.nrm (q := 168) (st' := []) rfl rfl ?_
                        refine e_Ok.ps3 (x := (0, 0)) (y := (0, 19)) (z := (1, 275)) (q := 171) 3 rfl ?_
                        refine e_Ok.callV rfl (e_dq hd rfl) rfl rfl rfl rfl (c_336 q213c.1 (n := w211 275 78) rfl (by omega) (s := s) (Eq.trans (f214 275 81 (by first | exact no_a6_4 | (unfold mEx; omega))) hs) (by omega)) (fun r216 w217 h218 => ?_)
                        obtain ⟨rfl, q219⟩ := h218
                        have u220 : w217 275 78 = w211 275 78 + 1 := q219.2.2.2.2
                        have u221 : w217 275 83 = w211 275 83 := q219.1 275 83 (by omega)
                        have u222 : w217 275 84 = w211 275 84 := q219.1 275 84 (by omega)
                        have u223 : w217 275 85 = w211 275 85 := q219.1 275 85 (by omega)
                        have u224 : w217 275 86 = w211 275 86 := q219.1 275 86 (by omega)
                        have u225 : w217 275 87 = w211 275 87 := q219.1 275 87 (by omega)
                        have u226 : w217 275 88 = w211 275 88 := q219.1 275 88 (by omega)
                        have u227 : w217 275 94 = w211 275 94 := q219.1 275 94 (by omega)
                        have c229 := cSt.em q213c q219 (by omega) (by omega) (by omega)
                        have t230t := tkS.lin c229.2.2.2.1
                        have t230f := e_Has.get c229.2.1 (c := 275) (k := 88) (lo := 0) (hi := 7) rfl (by decide)
                        have wf231 : Hid (w217 275 88 = 0 → wfE w217 N (w217 275 78) (w217 275 94) nt P s (e + 1)) := Hid.mk (fun z => by rw [u220, u227]; exact wfE.d (wfE.em (q213w.out (by omega)) q219 (by decide) (by decide) (by decide) (by decide) (by unfold iOw; omega) (by rw [show nxD 19 (e + 2) = e + 1 from by unfold nxD; rw [if_neg (by omega), if_neg (by omega), if_pos (by omega)] <;> omega]; omega)) (by unfold nxD; rw [if_neg (by omega), if_neg (by omega), if_pos (by omega)] <;> omega))
                        refine e_Ok.nrm (q := 174) (st' := [(0, w211 275 78)]) rfl rfl ?_
                        refine e_Ok.run (t' := (175, [(1, (0, 19)), (0, (1, 275))], [], w217)) 1 rfl ?_
                        refine e_Ok.rets rfl rfl ?_
                        exact ⟨rfl, (show e_fr (mEx (w 275 78) (w 275 94)) w w217 from e_fr.trans f214 (fun c k g => q219.1 c k (fun g2 => g (by unfold mEx; omega)))), c229, by unfold cLn; omega, wf231.out⟩
                  · replace h156 : (w145 275 85 : Int) = 108 := Classical.not_not.mp (show ¬ ((w145 275 85 : Int) ≠ 108) from h156)
                    refine e_Ok.run (t' := (157, [(1, (0, 18)), (0, (1, 275))], [(0, 18)], w145)) 4 rfl ?_
                    refine e_Ok.if1 rfl (fun h232 => ?_) (fun h232 => ?_)
                    · replace h232 : (18 : Int) = 0 := h232
                      exfalso; omega
                    · replace h232 : (18 : Int) ≠ 0 := (show ¬ ((18 : Int) = 0) from h232)
                      refine e_Ok.ps1 (x := (1, 275)) (q := 161) 1 rfl ?_
                      refine e_Ok.callV rfl (e_dq hd rfl) rfl rfl rfl rfl (c_327 (e_dq hd rfl) q147c.1 q147c.2.1 q147c.2.2.1 hNr (t := w145 275 87) rfl (by omega)) (fun r233 w234 h235 => ?_)
                      have p237 := tkS.pos q147c.2.2.2.1 (by omega)
                      obtain ⟨rfl, q236, q236s, q236t⟩ := h235
                      have u238 : w234 275 78 = w145 275 78 := q236 275 78 no_a6_0
                      have u239 : w234 275 83 = w145 275 83 := q236 275 83 no_a6_1
                      have u240 : w234 275 88 = w145 275 88 := q236 275 88 no_a6_2
                      have u241 : w234 275 94 = w145 275 94 := q236 275 94 no_a6_3
                      have f242 : e_fr (mEx (w 275 78) (w 275 94)) w w234 := e_fr.trans f148 (e_fr.mono q236 (fun c k g => by unfold mTq at g; unfold mEx; omega))
                      have c243 := cSt.tk q147c q236 q236s
                      have t244t := tkS.lin c243.2.2.2.1
                      have t244f := e_Has.get c243.2.1 (c := 275) (k := 88) (lo := 0) (hi := 7) rfl (by decide)
                      have wf245 : Hid (w234 275 88 = 0 → wfE w234 N (w234 275 78) (w234 275 94) nt P s (e + 1)) := Hid.mk (fun z => by rw [u238, u241]; exact wfE.pr (q147w.out (by omega)) (prE.tk q236))
                      refine e_Ok.nrm (q := 164) (st' := []) rfl rfl ?_
                      refine e_Ok.ps1 (x := (1, 275)) (q := 165) 1 rfl ?_
                      refine e_Ok.callV rfl (e_dq hd rfl) rfl rfl rfl rfl ((hS d rfl) w234 N nt s (e + 1) P c243 hNr (by omega) (by omega) (Eq.trans (f242 275 81 (by first | exact no_a6_4 | (unfold mEx; omega))) hs) (by omega) (wf245.out (by omega)) (by omega)) (fun r246 w247 h248 => ?_)
                      obtain ⟨rfl, q249F, q249c, q249l, q249w⟩ := h248
                      unfold cLn at q249l
                      replace q249w : Hid (w247 275 88 = 0 → wfE w247 N (w247 275 78) (w247 275 94) nt P s (e + 2)) := Hid.mk (fun z => wfE.d (q249w z) (by omega))
                      have f250 : e_fr (mEx (w 275 78) (w 275 94)) w w247 := e_fr.trans f242 (e_fr.mono q249F (fun c k g => by unfold mEx at g; unfold mEx; omega))
                      have t251t := tkS.lin q249c.2.2.2.1
                      have t251f := e_Has.get q249c.2.1 (c := 275) (k := 88) (lo := 0) (hi := 7) rfl (by decide)
                      refine e_Ok.nrm (q := 168) (st' := []) rfl rfl ?_
                      refine e_Ok.ps3 (x := (0, 0)) (y := (0, 18)) (z := (1, 275)) (q := 171) 3 rfl ?_
                      refine e_Ok.callV rfl (e_dq hd rfl) rfl rfl rfl rfl (c_336 q249c.1 (n := w247 275 78) rfl (by omega) (s := s) (Eq.trans (f250 275 81 (by first | exact no_a6_4 | (unfold mEx; omega))) hs) (by omega)) (fun r252 w253 h254 => ?_)
                      obtain ⟨rfl, q255⟩ := h254
                      have u256 : w253 275 78 = w247 275 78 + 1 := q255.2.2.2.2
                      have u257 : w253 275 83 = w247 275 83 := q255.1 275 83 (by omega)
                      have u258 : w253 275 84 = w247 275 84 := q255.1 275 84 (by omega)
                      have u259 : w253 275 85 = w247 275 85 := q255.1 275 85 (by omega)
                      have u260 : w253 275 86 = w247 275 86 := q255.1 275 86 (by omega)
                      have u261 : w253 275 87 = w247 275 87 := q255.1 275 87 (by omega)
                      have u262 : w253 275 88 = w247 275 88 := q255.1 275 88 (by omega)
                      have u263 : w253 275 94 = w247 275 94 := q255.1 275 94 (by omega)
                      have c265 := cSt.em q249c q255 (by omega) (by omega) (by omega)
                      have t266t := tkS.lin c265.2.2.2.1
                      have t266f := e_Has.get c265.2.1 (c := 275) (k := 88) (lo := 0) (hi := 7) rfl (by decide)
                      have wf267 : Hid (w253 275 88 = 0 → wfE w253 N (w253 275 78) (w253 275 94) nt P s (e + 1)) := Hid.mk (fun z => by rw [u256, u263]; exact wfE.d (wfE.em (q249w.out (by omega)) q255 (by decide) (by decide) (by decide) (by decide) (by unfold iOw; omega) (by rw [show nxD 18 (e + 2) = e + 1 from by unfold nxD; rw [if_neg (by omega), if_neg (by omega), if_pos (by omega)] <;> omega]; omega)) (by unfold nxD; rw [if_neg (by omega), if_neg (by omega), if_pos (by omega)] <;> omega))
                      refine e_Ok.nrm (q := 174) (st' := [(0, w247 275 78)]) rfl rfl ?_
                      refine e_Ok.run (t' := (175, [(1, (0, 18)), (0, (1, 275))], [], w253)) 1 rfl ?_
                      refine e_Ok.rets rfl rfl ?_
                      exact ⟨rfl, (show e_fr (mEx (w 275 78) (w 275 94)) w w253 from e_fr.trans f250 (fun c k g => q255.1 c k (fun g2 => g (by unfold mEx; omega)))), c265, by unfold cLn; omega, wf267.out⟩
                · replace h155 : (w145 275 85 : Int) = 60 := Classical.not_not.mp (show ¬ ((w145 275 85 : Int) ≠ 60) from h155)
                  refine e_Ok.run (t' := (157, [(1, (0, 17)), (0, (1, 275))], [(0, 17)], w145)) 4 rfl ?_
                  refine e_Ok.if1 rfl (fun h268 => ?_) (fun h268 => ?_)
                  · replace h268 : (17 : Int) = 0 := h268
                    exfalso; omega
                  · replace h268 : (17 : Int) ≠ 0 := (show ¬ ((17 : Int) = 0) from h268)
                    refine e_Ok.ps1 (x := (1, 275)) (q := 161) 1 rfl ?_
                    refine e_Ok.callV rfl (e_dq hd rfl) rfl rfl rfl rfl (c_327 (e_dq hd rfl) q147c.1 q147c.2.1 q147c.2.2.1 hNr (t := w145 275 87) rfl (by omega)) (fun r269 w270 h271 => ?_)
                    have p273 := tkS.pos q147c.2.2.2.1 (by omega)
                    obtain ⟨rfl, q272, q272s, q272t⟩ := h271
                    have u274 : w270 275 78 = w145 275 78 := q272 275 78 no_a6_0
                    have u275 : w270 275 83 = w145 275 83 := q272 275 83 no_a6_1
                    have u276 : w270 275 88 = w145 275 88 := q272 275 88 no_a6_2
                    have u277 : w270 275 94 = w145 275 94 := q272 275 94 no_a6_3
                    have f278 : e_fr (mEx (w 275 78) (w 275 94)) w w270 := e_fr.trans f148 (e_fr.mono q272 (fun c k g => by unfold mTq at g; unfold mEx; omega))
                    have c279 := cSt.tk q147c q272 q272s
                    have t280t := tkS.lin c279.2.2.2.1
                    have t280f := e_Has.get c279.2.1 (c := 275) (k := 88) (lo := 0) (hi := 7) rfl (by decide)
                    have wf281 : Hid (w270 275 88 = 0 → wfE w270 N (w270 275 78) (w270 275 94) nt P s (e + 1)) := Hid.mk (fun z => by rw [u274, u277]; exact wfE.pr (q147w.out (by omega)) (prE.tk q272))
                    refine e_Ok.nrm (q := 164) (st' := []) rfl rfl ?_
                    refine e_Ok.ps1 (x := (1, 275)) (q := 165) 1 rfl ?_
                    refine e_Ok.callV rfl (e_dq hd rfl) rfl rfl rfl rfl ((hS d rfl) w270 N nt s (e + 1) P c279 hNr (by omega) (by omega) (Eq.trans (f278 275 81 (by first | exact no_a6_4 | (unfold mEx; omega))) hs) (by omega) (wf281.out (by omega)) (by omega)) (fun r282 w283 h284 => ?_)
                    obtain ⟨rfl, q285F, q285c, q285l, q285w⟩ := h284
                    unfold cLn at q285l
                    replace q285w : Hid (w283 275 88 = 0 → wfE w283 N (w283 275 78) (w283 275 94) nt P s (e + 2)) := Hid.mk (fun z => wfE.d (q285w z) (by omega))
                    have f286 : e_fr (mEx (w 275 78) (w 275 94)) w w283 := e_fr.trans f278 (e_fr.mono q285F (fun c k g => by unfold mEx at g; unfold mEx; omega))
                    have t287t := tkS.lin q285c.2.2.2.1
                    have t287f := e_Has.get q285c.2.1 (c := 275) (k := 88) (lo := 0) (hi := 7) rfl (by decide)
                    refine e_Ok.nrm (q := 168) (st' := []) rfl rfl ?_
                    refine e_Ok.ps3 (x := (0, 0)) (y := (0, 17)) (z := (1, 275)) (q := 171) 3 rfl ?_
                    refine e_Ok.callV rfl (e_dq hd rfl) rfl rfl rfl rfl (c_336 q285c.1 (n := w283 275 78) rfl (by omega) (s := s) (Eq.trans (f286 275 81 (by first | exact no_a6_4 | (unfold mEx; omega))) hs) (by omega)) (fun r288 w289 h290 => ?_)
                    obtain ⟨rfl, q291⟩ := h290
                    have u292 : w289 275 78 = w283 275 78 + 1 := q291.2.2.2.2
                    have u293 : w289 275 83 = w283 275 83 := q291.1 275 83 (by omega)
                    have u294 : w289 275 84 = w283 275 84 := q291.1 275 84 (by omega)
                    have u295 : w289 275 85 = w283 275 85 := q291.1 275 85 (by omega)
                    have u296 : w289 275 86 = w283 275 86 := q291.1 275 86 (by omega)
                    have u297 : w289 275 87 = w283 275 87 := q291.1 275 87 (by omega)
                    have u298 : w289 275 88 = w283 275 88 := q291.1 275 88 (by omega)
                    have u299 : w289 275 94 = w283 275 94 := q291.1 275 94 (by omega)
                    have c301 := cSt.em q285c q291 (by omega) (by omega) (by omega)
                    have t302t := tkS.lin c301.2.2.2.1
                    have t302f := e_Has.get c301.2.1 (c := 275) (k := 88) (lo := 0) (hi := 7) rfl (by decide)
                    have wf303 : Hid (w289 275 88 = 0 → wfE w289 N (w289 275 78) (w289 275 94) nt P s (e + 1)) := Hid.mk (fun z => by rw [u292, u299]; exact wfE.d (wfE.em (q285w.out (by omega)) q291 (by decide) (by decide) (by decide) (by decide) (by unfold iOw; omega) (by rw [show nxD 17 (e + 2) = e + 1 from by unfold nxD; rw [if_neg (by omega), if_neg (by omega), if_pos (by omega)] <;> omega]; omega)) (by unfold nxD; rw [if_neg (by omega), if_neg (by omega), if_pos (by omega)] <;> omega))
                    refine e_Ok.nrm (q := 174) (st' := [(0, w283 275 78)]) rfl rfl ?_
                    refine e_Ok.run (t' := (175, [(1, (0, 17)), (0, (1, 275))], [], w289)) 1 rfl ?_
                    refine e_Ok.rets rfl rfl ?_
                    exact ⟨rfl, (show e_fr (mEx (w 275 78) (w 275 94)) w w289 from e_fr.trans f286 (fun c k g => q291.1 c k (fun g2 => g (by unfold mEx; omega)))), c301, by unfold cLn; omega, wf303.out⟩
              · replace h154 : (w145 275 85 : Int) = 110 := Classical.not_not.mp (show ¬ ((w145 275 85 : Int) ≠ 110) from h154)
                refine e_Ok.run (t' := (157, [(1, (0, 16)), (0, (1, 275))], [(0, 16)], w145)) 4 rfl ?_
                refine e_Ok.if1 rfl (fun h304 => ?_) (fun h304 => ?_)
                · replace h304 : (16 : Int) = 0 := h304
                  exfalso; omega
                · replace h304 : (16 : Int) ≠ 0 := (show ¬ ((16 : Int) = 0) from h304)
                  refine e_Ok.ps1 (x := (1, 275)) (q := 161) 1 rfl ?_
                  refine e_Ok.callV rfl (e_dq hd rfl) rfl rfl rfl rfl (c_327 (e_dq hd rfl) q147c.1 q147c.2.1 q147c.2.2.1 hNr (t := w145 275 87) rfl (by omega)) (fun r305 w306 h307 => ?_)
                  have p309 := tkS.pos q147c.2.2.2.1 (by omega)
                  obtain ⟨rfl, q308, q308s, q308t⟩ := h307
                  have u310 : w306 275 78 = w145 275 78 := q308 275 78 no_a6_0
                  have u311 : w306 275 83 = w145 275 83 := q308 275 83 no_a6_1
                  have u312 : w306 275 88 = w145 275 88 := q308 275 88 no_a6_2
                  have u313 : w306 275 94 = w145 275 94 := q308 275 94 no_a6_3
                  have f314 : e_fr (mEx (w 275 78) (w 275 94)) w w306 := e_fr.trans f148 (e_fr.mono q308 (fun c k g => by unfold mTq at g; unfold mEx; omega))
                  have c315 := cSt.tk q147c q308 q308s
                  have t316t := tkS.lin c315.2.2.2.1
                  have t316f := e_Has.get c315.2.1 (c := 275) (k := 88) (lo := 0) (hi := 7) rfl (by decide)
                  have wf317 : Hid (w306 275 88 = 0 → wfE w306 N (w306 275 78) (w306 275 94) nt P s (e + 1)) := Hid.mk (fun z => by rw [u310, u313]; exact wfE.pr (q147w.out (by omega)) (prE.tk q308))
                  refine e_Ok.nrm (q := 164) (st' := []) rfl rfl ?_
                  refine e_Ok.ps1 (x := (1, 275)) (q := 165) 1 rfl ?_
                  refine e_Ok.callV rfl (e_dq hd rfl) rfl rfl rfl rfl ((hS d rfl) w306 N nt s (e + 1) P c315 hNr (by omega) (by omega) (Eq.trans (f314 275 81 (by first | exact no_a6_4 | (unfold mEx; omega))) hs) (by omega) (wf317.out (by omega)) (by omega)) (fun r318 w319 h320 => ?_)
                  obtain ⟨rfl, q321F, q321c, q321l, q321w⟩ := h320
                  unfold cLn at q321l
                  replace q321w : Hid (w319 275 88 = 0 → wfE w319 N (w319 275 78) (w319 275 94) nt P s (e + 2)) := Hid.mk (fun z => wfE.d (q321w z) (by omega))
                  have f322 : e_fr (mEx (w 275 78) (w 275 94)) w w319 := e_fr.trans f314 (e_fr.mono q321F (fun c k g => by unfold mEx at g; unfold mEx; omega))
                  have t323t := tkS.lin q321c.2.2.2.1
                  have t323f := e_Has.get q321c.2.1 (c := 275) (k := 88) (lo := 0) (hi := 7) rfl (by decide)
                  refine e_Ok.nrm (q := 168) (st' := []) rfl rfl ?_
                  refine e_Ok.ps3 (x := (0, 0)) (y := (0, 16)) (z := (1, 275)) (q := 171) 3 rfl ?_
                  refine e_Ok.callV rfl (e_dq hd rfl) rfl rfl rfl rfl (c_336 q321c.1 (n := w319 275 78) rfl (by omega) (s := s) (Eq.trans (f322 275 81 (by first | exact no_a6_4 | (unfold mEx; omega))) hs) (by omega)) (fun r324 w325 h326 => ?_)
                  obtain ⟨rfl, q327⟩ := h326
                  have u329 : w325 275 78 = w319 275 78 + 1 := q327.2.2.2.2
                  have u331 : w325 275 83 = w319 275 83 := q327.1 275 83 (by omega)
                  have u332 : w325 275 84 = w319 275 84 := q327.1 275 84 (by omega)
                  have u333 : w325 275 85 = w319 275 85 := q327.1 275 85 (by omega)
                  have u334 : w325 275 86 = w319 275 86 := q327.1 275 86 (by omega)
                  have u335 : w325 275 87 = w319 275 87 := q327.1 275 87 (by omega)
                  have u336 : w325 275 88 = w319 275 88 := q327.1 275 88 (by omega)
                  have u337 : w325 275 94 = w319 275 94 := q327.1 275 94 (by omega)
                  have c340 := cSt.em q321c q327 (by omega) (by omega) (by omega)
                  have t341t := tkS.lin c340.2.2.2.1
                  have t341f := e_Has.get c340.2.1 (c := 275) (k := 88) (lo := 0) (hi := 7) rfl (by decide)
                  have wf342 : Hid (w325 275 88 = 0 → wfE w325 N (w325 275 78) (w325 275 94) nt P s (e + 1)) := Hid.mk (fun z => by rw [u329, u337]; exact wfE.d (wfE.em (q321w.out (by omega)) q327 (by decide) (by decide) (by decide) (by decide) (by unfold iOw; omega) (by rw [show nxD 16 (e + 2) = e + 1 from by unfold nxD; rw [if_neg (by omega), if_neg (by omega), if_pos (by omega)] <;> omega]; omega)) (by unfold nxD; rw [if_neg (by omega), if_neg (by omega), if_pos (by omega)] <;> omega))
                  refine e_Ok.nrm (q := 174) (st' := [(0, w319 275 78)]) rfl rfl ?_
                  refine e_Ok.run (t' := (175, [(1, (0, 16)), (0, (1, 275))], [], w325)) 1 rfl ?_
                  refine e_Ok.rets rfl rfl ?_
                  exact ⟨rfl, (show e_fr (mEx (w 275 78) (w 275 94)) w w325 from e_fr.trans f322 (fun c k g => q327.1 c k (fun g2 => g (by unfold mEx; omega)))), c340, by unfold cLn; omega, wf342.out⟩
            · replace h153 : (w145 275 85 : Int) = 61 := Classical.not_not.mp (show ¬ ((w145 275 85 : Int) ≠ 61) from h153)
              refine e_Ok.run (t' := (157, [(1, (0, 15)), (0, (1, 275))], [(0, 15)], w145)) 4 rfl ?_
              refine e_Ok.if1 rfl (fun h343 => ?_) (fun h343 => ?_)
              · replace h343 : (15 : Int) = 0 := h343
                exfalso; omega
              · replace h343 : (15 : Int) ≠ 0 := (show ¬ ((15 : Int) = 0) from h343)
                refine e_Ok.ps1 (x := (1, 275)) (q := 161) 1 rfl ?_
                refine e_Ok.callV rfl (e_dq hd rfl) rfl rfl rfl rfl (c_327 (e_dq hd rfl) q147c.1 q147c.2.1 q147c.2.2.1 hNr (t := w145 275 87) rfl (by omega)) (fun r344 w345 h346 => ?_)
                have p348 := tkS.pos q147c.2.2.2.1 (by omega)
                obtain ⟨rfl, q347, q347s, q347t⟩ := h346
                have u349 : w345 275 78 = w145 275 78 := q347 275 78 no_a6_0
                have u350 : w345 275 83 = w145 275 83 := q347 275 83 no_a6_1
                have u351 : w345 275 88 = w145 275 88 := q347 275 88 no_a6_2
                have u352 : w345 275 94 = w145 275 94 := q347 275 94 no_a6_3
                have f353 : e_fr (mEx (w 275 78) (w 275 94)) w w345 := e_fr.trans f148 (e_fr.mono q347 (fun c k g => by unfold mTq at g; unfold mEx; omega))
                have c354 := cSt.tk q147c q347 q347s
                have t355t := tkS.lin c354.2.2.2.1
                have t355f := e_Has.get c354.2.1 (c := 275) (k := 88) (lo := 0) (hi := 7) rfl (by decide)
                have wf356 : Hid (w345 275 88 = 0 → wfE w345 N (w345 275 78) (w345 275 94) nt P s (e + 1)) := Hid.mk (fun z => by rw [u349, u352]; exact wfE.pr (q147w.out (by omega)) (prE.tk q347))
                refine e_Ok.nrm (q := 164) (st' := []) rfl rfl ?_
                refine e_Ok.ps1 (x := (1, 275)) (q := 165) 1 rfl ?_
                refine e_Ok.callV rfl (e_dq hd rfl) rfl rfl rfl rfl ((hS d rfl) w345 N nt s (e + 1) P c354 hNr (by omega) (by omega) (Eq.trans (f353 275 81 (by first | exact no_a6_4 | (unfold mEx; omega))) hs) (by omega) (wf356.out (by omega)) (by omega)) (fun r357 w358 h359 => ?_)
                obtain ⟨rfl, q360F, q360c, q360l, q360w⟩ := h359
                unfold cLn at q360l
                replace q360w : Hid (w358 275 88 = 0 → wfE w358 N (w358 275 78) (w358 275 94) nt P s (e + 2)) := Hid.mk (fun z => wfE.d (q360w z) (by omega))
                have f361 : e_fr (mEx (w 275 78) (w 275 94)) w w358 := e_fr.trans f353 (e_fr.mono q360F (fun c k g => by unfold mEx at g; unfold mEx; omega))
                have t362t := tkS.lin q360c.2.2.2.1
                have t362f := e_Has.get q360c.2.1 (c := 275) (k := 88) (lo := 0) (hi := 7) rfl (by decide)
                refine e_Ok.nrm (q := 168) (st' := []) rfl rfl ?_
                refine e_Ok.ps3 (x := (0, 0)) (y := (0, 15)) (z := (1, 275)) (q := 171) 3 rfl ?_
                refine e_Ok.callV rfl (e_dq hd rfl) rfl rfl rfl rfl (c_336 q360c.1 (n := w358 275 78) rfl (by omega) (s := s) (Eq.trans (f361 275 81 (by first | exact no_a6_4 | (unfold mEx; omega))) hs) (by omega)) (fun r363 w364 h365 => ?_)
                obtain ⟨rfl, q366⟩ := h365
                have u367 : w364 275 78 = w358 275 78 + 1 := q366.2.2.2.2
                have u368 : w364 275 83 = w358 275 83 := q366.1 275 83 (by omega)
                have u369 : w364 275 84 = w358 275 84 := q366.1 275 84 (by omega)
                have u370 : w364 275 85 = w358 275 85 := q366.1 275 85 (by omega)
                have u371 : w364 275 86 = w358 275 86 := q366.1 275 86 (by omega)
                have u372 : w364 275 87 = w358 275 87 := q366.1 275 87 (by omega)
                have u373 : w364 275 88 = w358 275 88 := q366.1 275 88 (by omega)
                have u374 : w364 275 94 = w358 275 94 := q366.1 275 94 (by omega)
                have c376 := cSt.em q360c q366 (by omega) (by omega) (by omega)
                have t377t := tkS.lin c376.2.2.2.1
                have t377f := e_Has.get c376.2.1 (c := 275) (k := 88) (lo := 0) (hi := 7) rfl (by decide)
                have wf378 : Hid (w364 275 88 = 0 → wfE w364 N (w364 275 78) (w364 275 94) nt P s (e + 1)) := Hid.mk (fun z => by rw [u367, u374]; exact wfE.d (wfE.em (q360w.out (by omega)) q366 (by decide) (by decide) (by decide) (by decide) (by unfold iOw; omega) (by rw [show nxD 15 (e + 2) = e + 1 from by unfold nxD; rw [if_neg (by omega), if_neg (by omega), if_pos (by omega)] <;> omega]; omega)) (by unfold nxD; rw [if_neg (by omega), if_neg (by omega), if_pos (by omega)] <;> omega))
                refine e_Ok.nrm (q := 174) (st' := [(0, w358 275 78)]) rfl rfl ?_
                refine e_Ok.run (t' := (175, [(1, (0, 15)), (0, (1, 275))], [], w364)) 1 rfl ?_
                refine e_Ok.rets rfl rfl ?_
                exact ⟨rfl, (show e_fr (mEx (w 275 78) (w 275 94)) w w364 from e_fr.trans f361 (fun c k g => q366.1 c k (fun g2 => g (by unfold mEx; omega)))), c376, by unfold cLn; omega, wf378.out⟩
          · replace h152 : (w145 275 84 : Int) ≠ 3 := (show ¬ ((w145 275 84 : Int) = 3) from h152)
            refine e_Ok.run (t' := (157, [(1, (0, 0)), (0, (1, 275))], [(0, 0)], w145)) 4 rfl ?_
            refine e_Ok.if1 rfl (fun h379 => ?_) (fun h379 => ?_)
            · replace h379 : (0 : Int) = 0 := h379
              refine e_Ok.rets rfl rfl ?_
              exact ⟨rfl, f148, q147c, by unfold cLn; omega, q147w.out⟩
            · replace h379 : (0 : Int) ≠ 0 := (show ¬ ((0 : Int) = 0) from h379)
              exfalso; omega
      · replace h143 : (0 : Int) ≠ 0 := (show ¬ ((0 : Int) = 0) from h143)
        exfalso; omega
end
