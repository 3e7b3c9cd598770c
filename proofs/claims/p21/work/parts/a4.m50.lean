noncomputable section
set_option maxHeartbeats 4000000 in
theorem c_345 {d : Nat} (hd : 47 ≤ d) {w : eW} {N nt s e o F : Int} {P : Int → Prop} (hc : cSt w N) (hNr : 0 ≤ N ∧ N ≤ 4000) (h0 : w 275 88 = 0) (ho : w 275 83 = o) (hs : w 275 81 = s) (hb : 0 ≤ w 275 78 ∧ w 275 78 + 2 * (N - w 275 86) ≤ 8100 ∧ 0 ≤ w 275 94 ∧ w 275 94 + (N - w 275 86) ≤ 4050) (hw : wfE w N (w 275 78) (w 275 94) nt P s e) (he : e ≤ w 275 86) (hor : 0 ≤ o ∧ o ≤ 30) (hF : 0 ≤ F ∧ F ≤ 400) (hS : o < 30 → ∀ k, d = k + 1 → exC 339 (o + 1) F k) : e_Ok 20 elay ecode eI d 345 (0, [(0, (1, 275))], [], w) (fun r w' => r = [] ∧ exQ w w' N nt P s (e + 1) (F)) := by
  obtain ⟨d, rfl⟩ : ∃ e, d = e + 1 := ⟨d - 1, by omega⟩
  have hct := tkS.lin hc.2.2.2.1
  have hcf := e_Has.get hc.2.1 (c := 275) (k := 88) (lo := 0) (hi := 7) rfl (by decide)
  have hsb := hc.2.2.2.2
  rw [hs] at hsb
  have he0 := hw.2.2.2.2.2.1
  have hwH : Hid (w 275 88 = 0 → wfE w N (w 275 78) (w 275 94) nt P s e) := Hid.mk (fun _ => hw)
  refine e_Ok.run (t' := (1, [(0, (1, 275))], [(1, 275)], w)) 1 rfl ?_
  refine e_Ok.getf (z := w 275 88) rfl (el_o rfl) rfl rfl rfl (by omega) ?_
  refine e_Ok.if1 rfl (fun h1 => ?_) (fun h1 => ?_)
  · replace h1 : (w 275 88 : Int) ≠ 0 := h1
    exfalso; omega
  · replace h1 : (w 275 88 : Int) = 0 := by have q : ¬ ((w 275 88 : Int) ≠ 0) := h1; omega
    refine e_Ok.run (t' := (10, [(0, (1, 275))], [(0, 40), (1, 275)], w)) 2 rfl ?_
    refine e_Ok.callV rfl (by omega) rfl rfl rfl rfl (c_331 hc.1 (N := N) hc.2.2.2.1) (fun r2 w3 h4 => ?_)
    obtain ⟨z5, rfl, rfl, q6⟩ := h4
    obtain ⟨rfl, q6, q6b⟩ | ⟨rfl, q6n⟩ := q6
    · show e_Ok 20 elay ecode eI (d + 1) 345 (13, [(0, (1, 275))], [(0, 1)], w) _
      refine e_Ok.if1 rfl (fun h7 => ?_) (fun h7 => ?_)
      · replace h7 : (1 : Int) = 0 := h7
        exfalso; omega
      · replace h7 : (1 : Int) ≠ 0 := by have q : ¬ ((1 : Int) = 0) := h7; omega
        refine e_Ok.run (t' := (17, [(0, (1, 275))], [(1, 275)], w)) 1 rfl ?_
        refine e_Ok.callV rfl (by omega) rfl rfl rfl rfl (c_335 (by omega) hc.1 hc.2.1 hc.2.2.1 hNr hc.2.2.2.1 (o := w 275 83) rfl (by omega)) (fun r8 w9 h10 => ?_)
        obtain ⟨rfl, q11o, q11⟩ := h10
        obtain ⟨q11, q11n⟩ | ⟨q11z, q11n, w12, q11u, q11, q11T, q11H, q11r⟩ := q11
        · show e_Ok 20 elay ecode eI (d + 1) 345 (20, [(0, (1, 275))], [], w9) _
          have e13 := up83 q11
          have e133 := e13.2
          have u14 : w9 275 78 = w 275 78 := e13.1 275 78 (by omega)
          have u15 : w9 275 84 = w 275 84 := e13.1 275 84 (by omega)
          have u16 : w9 275 85 = w 275 85 := e13.1 275 85 (by omega)
          have u17 : w9 275 86 = w 275 86 := e13.1 275 86 (by omega)
          have u18 : w9 275 87 = w 275 87 := e13.1 275 87 (by omega)
          have u19 : w9 275 88 = w 275 88 := e13.1 275 88 (by omega)
          have u20 : w9 275 94 = w 275 94 := e13.1 275 94 (by omega)
          have f21 : e_fr (mEx (w 275 78) (w 275 94)) w w9 := e_fr.trans (e_fr.refl w) (fun c k g => e13.1 c k (fun g2 => g (by unfold mEx; omega)))
          have c22 := cSt.up hc q11
          have t23t := tkS.lin c22.2.2.2.1
          have t23f := e_Has.get c22.2.1 (c := 275) (k := 88) (lo := 0) (hi := 7) rfl (by decide)
          have wf24 : Hid (w9 275 88 = 0 → wfE w9 N (w9 275 78) (w9 275 94) nt P s (e)) := Hid.mk (fun z => by rw [u14, u20]; exact wfE.pr (hwH.out (by omega)) (prE.up q11))
          refine e_Ok.run (t' := (24, [(0, (1, 275))], [(0, 40), (1, 275), (1, 275)], w9)) 3 rfl ?_
          refine e_Ok.callV rfl (by omega) rfl rfl rfl rfl (c_331 c22.1 (N := N) c22.2.2.2.1) (fun r25 w26 h27 => ?_)
          obtain ⟨z28, rfl, rfl, q29⟩ := h27
          obtain ⟨rfl, q29, q29b⟩ | ⟨rfl, q29n⟩ := q29
          · show e_Ok 20 elay ecode eI (d + 1) 345 (27, [(0, (1, 275))], [(0, 1), (1, 275)], w9) _
            refine e_Ok.callV rfl (by omega) rfl rfl rfl rfl (c_334 (by omega) c22.1 c22.2.1 c22.2.2.1 hNr c22.2.2.2.1 (by omega)) (fun r30 w31 h32 => ?_)
            obtain ⟨rfl, q33⟩ := h32
            obtain ⟨rfl, q33z⟩ | ⟨q33z, q33b, q33, q33s, q33t⟩ | ⟨q33z, q33b, q33, q33T, q33H, q33r⟩ := q33
            · exfalso; omega
            · show e_Ok 20 elay ecode eI (d + 1) 345 (30, [(0, (1, 275))], [], w31) _
              have p34 := tkS.pos c22.2.2.2.1 (by omega)
              have u35 : w31 275 78 = w9 275 78 := q33 275 78 (by unfold mTq; omega)
              have u36 : w31 275 83 = w9 275 83 := q33 275 83 (by unfold mTq; omega)
              have u37 : w31 275 88 = w9 275 88 := q33 275 88 (by unfold mTq; omega)
              have u38 : w31 275 94 = w9 275 94 := q33 275 94 (by unfold mTq; omega)
              have f40 : e_fr (mEx (w 275 78) (w 275 94)) w w31 := e_fr.trans f21 (e_fr.mono q33 (fun c k g => by unfold mTq at g; unfold mEx; omega))
              have c41 := cSt.tk c22 q33 q33s
              have t42t := tkS.lin c41.2.2.2.1
              have t42f := e_Has.get c41.2.1 (c := 275) (k := 88) (lo := 0) (hi := 7) rfl (by decide)
              have wf43 : Hid (w31 275 88 = 0 → wfE w31 N (w31 275 78) (w31 275 94) nt P s (e)) := Hid.mk (fun z => by rw [u35, u38]; exact wfE.pr (wf24.out (by omega)) (prE.tk q33))
              refine e_Ok.run (t' := (31, [(0, (1, 275))], [(1, 275)], w31)) 1 rfl ?_
              refine e_Ok.callV rfl (by omega) rfl rfl rfl rfl ((hS (by omega) d rfl) w31 N nt s (e) P c41 hNr (by omega) (by omega) (Eq.trans (f40 275 81 (by unfold mEx; omega)) hs) (by omega) (wf43.out (by omega)) (by omega)) (fun r44 w45 h46 => ?_)
              obtain ⟨rfl, q47F, q47c, q47l, q47w⟩ := h46
              unfold cLn at q47l
              replace q47w : Hid (w45 275 88 = 0 → wfE w45 N (w45 275 78) (w45 275 94) nt P s (e + 1)) := Hid.mk (fun z => wfE.d (q47w z) (by omega))
              have f48 : e_fr (mEx (w 275 78) (w 275 94)) w w45 := e_fr.trans f40 (e_fr.mono q47F (fun c k g => by unfold mEx at g; unfold mEx; omega))
              have t49t := tkS.lin q47c.2.2.2.1
              have t49f := e_Has.get q47c.2.1 (c := 275) (k := 88) (lo := 0) (hi := 7) rfl (by decide)
              show e_Ok 20 elay ecode eI (d + 1) 345 (34, [(0, (1, 275))], [], w45) _
              refine e_Ok.run (t' := (38, [(0, (1, 275))], [(0, 41), (1, 275), (1, 275)], w45)) 3 rfl ?_
              refine e_Ok.callV rfl (by omega) rfl rfl rfl rfl (c_331 q47c.1 (N := N) q47c.2.2.2.1) (fun r50 w51 h52 => ?_)
              obtain ⟨z53, rfl, rfl, q54⟩ := h52
              obtain ⟨rfl, q54, q54b⟩ | ⟨rfl, q54n⟩ := q54
              · show e_Ok 20 elay ecode eI (d + 1) 345 (41, [(0, (1, 275))], [(0, 1), (1, 275)], w45) _
                refine e_Ok.callV rfl (by omega) rfl rfl rfl rfl (c_334 (by omega) q47c.1 q47c.2.1 q47c.2.2.1 hNr q47c.2.2.2.1 (by omega)) (fun r55 w56 h57 => ?_)
                obtain ⟨rfl, q58⟩ := h57
                obtain ⟨rfl, q58z⟩ | ⟨q58z, q58b, q58, q58s, q58t⟩ | ⟨q58z, q58b, q58, q58T, q58H, q58r⟩ := q58
                · show e_Ok 20 elay ecode eI (d + 1) 345 (44, [(0, (1, 275))], [], w45) _
                  refine e_Ok.run (t' := (46, [(0, (1, 275))], [(1, 275), (1, 275)], w45)) 2 rfl ?_
                  refine e_Ok.getf (z := w45 275 83) rfl (el_o rfl) rfl rfl rfl (by omega) ?_
                  refine e_Ok.run (t' := (50, [(0, (1, 275))], [(0, 1), (0, w45 275 83), (1, 275)], w45)) 1 rfl ?_
                  refine e_Ok.sub' (z := w45 275 83 - 1) rfl (by omega) (by omega) ?_
                  refine e_Ok.putf rfl (el_o rfl) rfl rfl ?_
                  generalize hw59 : e_up w45 275 83 (w45 275 83 - 1) = w59
                  have f60 : e_fr (mEx (w 275 78) (w 275 94)) w w59 := e_fr.up f48 hw59 (by unfold mEx; omega)
                  have e61 := up83 hw59
                  have e613 := e61.2
                  have u62 : w59 275 78 = w45 275 78 := e61.1 275 78 (by omega)
                  have u63 : w59 275 84 = w45 275 84 := e61.1 275 84 (by omega)
                  have u64 : w59 275 85 = w45 275 85 := e61.1 275 85 (by omega)
                  have u65 : w59 275 86 = w45 275 86 := e61.1 275 86 (by omega)
                  have u66 : w59 275 87 = w45 275 87 := e61.1 275 87 (by omega)
                  have u67 : w59 275 88 = w45 275 88 := e61.1 275 88 (by omega)
                  have u68 : w59 275 94 = w45 275 94 := e61.1 275 94 (by omega)
                  have c69 := cSt.up q47c hw59
                  have t70t := tkS.lin c69.2.2.2.1
                  have t70f := e_Has.get c69.2.1 (c := 275) (k := 88) (lo := 0) (hi := 7) rfl (by decide)
                  have wf71 : Hid (w59 275 88 = 0 → wfE w59 N (w59 275 78) (w59 275 94) nt P s (e + 1)) := Hid.mk (fun z => by rw [u62, u68]; exact wfE.pr (q47w.out (by omega)) (prE.up hw59))
                  refine e_Ok.rets rfl rfl ?_
                  exact ⟨rfl, f60, c69, by unfold cLn; omega, (fun z => absurd z (by omega))⟩
                · show e_Ok 20 elay ecode eI (d + 1) 345 (44, [(0, (1, 275))], [], w56) _
                  have p72 := tkS.pos q47c.2.2.2.1 (by omega)
                  have u73 : w56 275 78 = w45 275 78 := q58 275 78 (by unfold mTq; omega)
                  have u74 : w56 275 83 = w45 275 83 := q58 275 83 (by unfold mTq; omega)
                  have u75 : w56 275 88 = w45 275 88 := q58 275 88 (by unfold mTq; omega)
                  have u76 : w56 275 94 = w45 275 94 := q58 275 94 (by unfold mTq; omega)
                  have f77 : e_fr (mEx (w 275 78) (w 275 94)) w w56 := e_fr.trans f48 (e_fr.mono q58 (fun c k g => by unfold mTq at g; unfold mEx; omega))
                  have c78 := cSt.tk q47c q58 q58s
                  have t79t := tkS.lin c78.2.2.2.1
                  have t79f := e_Has.get c78.2.1 (c := 275) (k := 88) (lo := 0) (hi := 7) rfl (by decide)
                  have wf80 : Hid (w56 275 88 = 0 → wfE w56 N (w56 275 78) (w56 275 94) nt P s (e + 1)) := Hid.mk (fun z => by rw [u73, u76]; exact wfE.pr (q47w.out (by omega)) (prE.tk q58))
                  refine e_Ok.run (t' := (46, [(0, (1, 275))], [(1, 275), (1, 275)], w56)) 2 rfl ?_
                  refine e_Ok.getf (z := w56 275 83) rfl (el_o rfl) rfl rfl rfl (by omega) ?_
                  refine e_Ok.run (t' := (50, [(0, (1, 275))], [(0, 1), (0, w56 275 83), (1, 275)], w56)) 1 rfl ?_
                  refine e_Ok.sub' (z := w56 275 83 - 1) rfl (by omega) (by omega) ?_
                  refine e_Ok.putf rfl (el_o rfl) rfl rfl ?_
                  generalize hw81 : e_up w56 275 83 (w56 275 83 - 1) = w81
                  have f82 : e_fr (mEx (w 275 78) (w 275 94)) w w81 := e_fr.up f77 hw81 (by unfold mEx; omega)
                  have e83 := up83 hw81
                  have e833 := e83.2
                  have u84 : w81 275 78 = w56 275 78 := e83.1 275 78 (by omega)
                  have u85 : w81 275 84 = w56 275 84 := e83.1 275 84 (by omega)
                  have u86 : w81 275 85 = w56 275 85 := e83.1 275 85 (by omega)
                  have u87 : w81 275 86 = w56 275 86 := e83.1 275 86 (by omega)
                  have u88 : w81 275 87 = w56 275 87 := e83.1 275 87 (by omega)
                  have u89 : w81 275 88 = w56 275 88 := e83.1 275 88 (by omega)
                  have u90 : w81 275 94 = w56 275 94 := e83.1 275 94 (by omega)
                  have c91 := cSt.up c78 hw81
                  have t92t := tkS.lin c91.2.2.2.1
                  have t92f := e_Has.get c91.2.1 (c := 275) (k := 88) (lo := 0) (hi := 7) rfl (by decide)
                  have wf93 : Hid (w81 275 88 = 0 → wfE w81 N (w81 275 78) (w81 275 94) nt P s (e + 1)) := Hid.mk (fun z => by rw [u84, u90]; exact wfE.pr (wf80.out (by omega)) (prE.up hw81))
                  refine e_Ok.rets rfl rfl ?_
                  exact ⟨rfl, f82, c91, by unfold cLn; omega, wf93.out⟩
                · exfalso; omega
              · show e_Ok 20 elay ecode eI (d + 1) 345 (41, [(0, (1, 275))], [(0, 0), (1, 275)], w45) _
                refine e_Ok.callV rfl (by omega) rfl rfl rfl rfl (c_334 (by omega) q47c.1 q47c.2.1 q47c.2.2.1 hNr q47c.2.2.2.1 (by omega)) (fun r94 w95 h101 => ?_)
                obtain ⟨rfl, q103⟩ := h101
                obtain ⟨rfl, q103z⟩ | ⟨q103z, q103b, q103, q103s, q103t⟩ | ⟨q103z, q103b, q103, q103T, q103H, q103r⟩ := q103
                · show e_Ok 20 elay ecode eI (d + 1) 345 (44, [(0, (1, 275))], [], w45) _
                  refine e_Ok.run (t' := (46, [(0, (1, 275))], [(1, 275), (1, 275)], w45)) 2 rfl ?_
                  refine e_Ok.getf (z := w45 275 83) rfl (el_o rfl) rfl rfl rfl (by omega) ?_
                  refine e_Ok.run (t' := (50, [(0, (1, 275))], [(0, 1), (0, w45 275 83), (1, 275)], w45)) 1 rfl ?_
                  refine e_Ok.sub' (z := w45 275 83 - 1) rfl (by omega) (by omega) ?_
                  refine e_Ok.putf rfl (el_o rfl) rfl rfl ?_
                  generalize hw104 : e_up w45 275 83 (w45 275 83 - 1) = w104
                  have f105 : e_fr (mEx (w 275 78) (w 275 94)) w w104 := e_fr.up f48 hw104 (by unfold mEx; omega)
                  have e106 := up83 hw104
                  have e1063 := e106.2
                  have u107 : w104 275 78 = w45 275 78 := e106.1 275 78 (by omega)
                  have u108 : w104 275 84 = w45 275 84 := e106.1 275 84 (by omega)
                  have u109 : w104 275 85 = w45 275 85 := e106.1 275 85 (by omega)
                  have u110 : w104 275 86 = w45 275 86 := e106.1 275 86 (by omega)
                  have u111 : w104 275 87 = w45 275 87 := e106.1 275 87 (by omega)
                  have u112 : w104 275 88 = w45 275 88 := e106.1 275 88 (by omega)
                  have u113 : w104 275 94 = w45 275 94 := e106.1 275 94 (by omega)
                  have c114 := cSt.up q47c hw104
                  have t115t := tkS.lin c114.2.2.2.1
                  have t115f := e_Has.get c114.2.1 (c := 275) (k := 88) (lo := 0) (hi := 7) rfl (by decide)
                  have wf116 : Hid (w104 275 88 = 0 → wfE w104 N (w104 275 78) (w104 275 94) nt P s (e + 1)) := Hid.mk (fun z => by rw [u107, u113]; exact wfE.pr (q47w.out (by omega)) (prE.up hw104))
                  refine e_Ok.rets rfl rfl ?_
                  exact ⟨rfl, f105, c114, by unfold cLn; omega, (fun z => absurd z (by omega))⟩
                · exfalso; omega
                · show e_Ok 20 elay ecode eI (d + 1) 345 (44, [(0, (1, 275))], [], w95) _
                  have u117 : w95 275 78 = w45 275 78 := q103 275 78 (by unfold mRf; omega)
                  have u118 : w95 275 83 = w45 275 83 := q103 275 83 (by unfold mRf; omega)
                  have u119 : w95 275 84 = w45 275 84 := q103 275 84 (by unfold mRf; omega)
                  have u120 : w95 275 85 = w45 275 85 := q103 275 85 (by unfold mRf; omega)
                  have u121 : w95 275 86 = w45 275 86 := q103 275 86 (by unfold mRf; omega)
                  have u122 : w95 275 87 = w45 275 87 := q103 275 87 (by unfold mRf; omega)
                  have u123 : w95 275 94 = w45 275 94 := q103 275 94 (by unfold mRf; omega)
                  have f124 : e_fr (mEx (w 275 78) (w 275 94)) w w95 := e_fr.trans f48 (e_fr.mono q103 (fun c k g => by unfold mRf at g; unfold mEx; omega))
                  have c125 := cSt.rf q47c q103 q103T q103H
                  have t126t := tkS.lin c125.2.2.2.1
                  have t126f := e_Has.get c125.2.1 (c := 275) (k := 88) (lo := 0) (hi := 7) rfl (by decide)
                  refine e_Ok.run (t' := (46, [(0, (1, 275))], [(1, 275), (1, 275)], w95)) 2 rfl ?_
                  refine e_Ok.getf (z := w95 275 83) rfl (el_o rfl) rfl rfl rfl (by omega) ?_
                  refine e_Ok.run (t' := (50, [(0, (1, 275))], [(0, 1), (0, w95 275 83), (1, 275)], w95)) 1 rfl ?_
                  refine e_Ok.sub' (z := w95 275 83 - 1) rfl (by omega) (by omega) ?_
                  refine e_Ok.putf rfl (el_o rfl) rfl rfl ?_
                  generalize hw127 : e_up w95 275 83 (w95 275 83 - 1) = w127
                  have f128 : e_fr (mEx (w 275 78) (w 275 94)) w w127 := e_fr.up f124 hw127 (by unfold mEx; omega)
                  have e129 := up83 hw127
                  have e1293 := e129.2
                  have u130 : w127 275 78 = w95 275 78 := e129.1 275 78 (by omega)
                  have u131 : w127 275 84 = w95 275 84 := e129.1 275 84 (by omega)
                  have u132 : w127 275 85 = w95 275 85 := e129.1 275 85 (by omega)
                  have u133 : w127 275 86 = w95 275 86 := e129.1 275 86 (by omega)
                  have u134 : w127 275 87 = w95 275 87 := e129.1 275 87 (by omega)
                  have u135 : w127 275 88 = w95 275 88 := e129.1 275 88 (by omega)
                  have u136 : w127 275 94 = w95 275 94 := e129.1 275 94 (by omega)
                  have c137 := cSt.up c125 hw127
                  have t138t := tkS.lin c137.2.2.2.1
                  have t138f := e_Has.get c137.2.1 (c := 275) (k := 88) (lo := 0) (hi := 7) rfl (by decide)
                  refine e_Ok.rets rfl rfl ?_
                  exact ⟨rfl, f128, c137, by unfold cLn; omega, (fun z => absurd z (by omega))⟩
            · exfalso; omega
          · show e_Ok 20 elay ecode eI (d + 1) 345 (27, [(0, (1, 275))], [(0, 0), (1, 275)], w9) _
            refine e_Ok.callV rfl (by omega) rfl rfl rfl rfl (c_334 (by omega) c22.1 c22.2.1 c22.2.2.1 hNr c22.2.2.2.1 (by omega)) (fun r139 w140 h141 => ?_)
            obtain ⟨rfl, q142⟩ := h141
            obtain ⟨rfl, q142z⟩ | ⟨q142z, q142b, q142, q142s, q142t⟩ | ⟨q142z, q142b, q142, q142T, q142H, q142r⟩ := q142
            · exfalso; omega
            · exfalso; omega
            · show e_Ok 20 elay ecode eI (d + 1) 345 (30, [(0, (1, 275))], [], w140) _
              have u143 : w140 275 78 = w9 275 78 := q142 275 78 (by unfold mRf; omega)
              have u144 : w140 275 83 = w9 275 83 := q142 275 83 (by unfold mRf; omega)
              have u145 : w140 275 84 = w9 275 84 := q142 275 84 (by unfold mRf; omega)
              have u146 : w140 275 85 = w9 275 85 := q142 275 85 (by unfold mRf; omega)
              have u147 : w140 275 86 = w9 275 86 := q142 275 86 (by unfold mRf; omega)
              have u148 : w140 275 87 = w9 275 87 := q142 275 87 (by unfold mRf; omega)
              have u149 : w140 275 94 = w9 275 94 := q142 275 94 (by unfold mRf; omega)
              have f150 : e_fr (mEx (w 275 78) (w 275 94)) w w140 := e_fr.trans f21 (e_fr.mono q142 (fun c k g => by unfold mRf at g; unfold mEx; omega))
              have c151 := cSt.rf c22 q142 q142T q142H
              have t152t := tkS.lin c151.2.2.2.1
              have t152f := e_Has.get c151.2.1 (c := 275) (k := 88) (lo := 0) (hi := 7) rfl (by decide)
              refine e_Ok.run (t' := (31, [(0, (1, 275))], [(1, 275)], w140)) 1 rfl ?_
              refine e_Ok.callV rfl (by omega) rfl rfl rfl rfl (c_339_0 (by omega) c151 (by omega)) (fun r153 w154 h155 => ?_)
              obtain ⟨rfl, rfl⟩ := h155
              show e_Ok 20 elay ecode eI (d + 1) 345 (34, [(0, (1, 275))], [], w140) _
              refine e_Ok.run (t' := (38, [(0, (1, 275))], [(0, 41), (1, 275), (1, 275)], w140)) 3 rfl ?_
              refine e_Ok.callV rfl (by omega) rfl rfl rfl rfl (c_331 c151.1 (N := N) c151.2.2.2.1) (fun r156 w157 h158 => ?_)
              obtain ⟨z159, rfl, rfl, q160⟩ := h158
              obtain ⟨rfl, q160, q160b⟩ | ⟨rfl, q160n⟩ := q160
              · show e_Ok 20 elay ecode eI (d + 1) 345 (41, [(0, (1, 275))], [(0, 1), (1, 275)], w140) _
                refine e_Ok.callV rfl (by omega) rfl rfl rfl rfl (c_334 (by omega) c151.1 c151.2.1 c151.2.2.1 hNr c151.2.2.2.1 (by omega)) (fun r161 w162 h163 => ?_)
                obtain ⟨rfl, q164⟩ := h163
                obtain ⟨rfl, q164z⟩ | ⟨q164z, q164b, q164, q164s, q164t⟩ | ⟨q164z, q164b, q164, q164T, q164H, q164r⟩ := q164
                · show e_Ok 20 elay ecode eI (d + 1) 345 (44, [(0, (1, 275))], [], w140) _
                  refine e_Ok.run (t' := (46, [(0, (1, 275))], [(1, 275), (1, 275)], w140)) 2 rfl ?_
                  refine e_Ok.getf (z := w140 275 83) rfl (el_o rfl) rfl rfl rfl (by omega) ?_
                  refine e_Ok.run (t' := (50, [(0, (1, 275))], [(0, 1), (0, w140 275 83), (1, 275)], w140)) 1 rfl ?_
                  refine e_Ok.sub' (z := w140 275 83 - 1) rfl (by omega) (by omega) ?_
                  refine e_Ok.putf rfl (el_o rfl) rfl rfl ?_
                  generalize hw165 : e_up w140 275 83 (w140 275 83 - 1) = w165
                  have f166 : e_fr (mEx (w 275 78) (w 275 94)) w w165 := e_fr.up f150 hw165 (by unfold mEx; omega)
                  have e167 := up83 hw165
                  have e1673 := e167.2
                  have u168 : w165 275 78 = w140 275 78 := e167.1 275 78 (by omega)
                  have u169 : w165 275 84 = w140 275 84 := e167.1 275 84 (by omega)
                  have u170 : w165 275 85 = w140 275 85 := e167.1 275 85 (by omega)
                  have u171 : w165 275 86 = w140 275 86 := e167.1 275 86 (by omega)
                  have u172 : w165 275 87 = w140 275 87 := e167.1 275 87 (by omega)
                  have u173 : w165 275 88 = w140 275 88 := e167.1 275 88 (by omega)
                  have u174 : w165 275 94 = w140 275 94 := e167.1 275 94 (by omega)
                  have c175 := cSt.up c151 hw165
                  have t176t := tkS.lin c175.2.2.2.1
                  have t176f := e_Has.get c175.2.1 (c := 275) (k := 88) (lo := 0) (hi := 7) rfl (by decide)
                  refine e_Ok.rets rfl rfl ?_
                  exact ⟨rfl, f166, c175, by unfold cLn; omega, (fun z => absurd z (by omega))⟩
                · exfalso; omega
                · exfalso; omega
              · show e_Ok 20 elay ecode eI (d + 1) 345 (41, [(0, (1, 275))], [(0, 0), (1, 275)], w140) _
                refine e_Ok.callV rfl (by omega) rfl rfl rfl rfl (c_334 (by omega) c151.1 c151.2.1 c151.2.2.1 hNr c151.2.2.2.1 (by omega)) (fun r177 w178 h179 => ?_)
                obtain ⟨rfl, q180⟩ := h179
                obtain ⟨rfl, q180z⟩ | ⟨q180z, q180b, q180, q180s, q180t⟩ | ⟨q180z, q180b, q180, q180T, q180H, q180r⟩ := q180
                · show e_Ok 20 elay ecode eI (d + 1) 345 (44, [(0, (1, 275))], [], w140) _
                  refine e_Ok.run (t' := (46, [(0, (1, 275))], [(1, 275), (1, 275)], w140)) 2 rfl ?_
                  refine e_Ok.getf (z := w140 275 83) rfl (el_o rfl) rfl rfl rfl (by omega) ?_
                  refine e_Ok.run (t' := (50, [(0, (1, 275))], [(0, 1), (0, w140 275 83), (1, 275)], w140)) 1 rfl ?_
                  refine e_Ok.sub' (z := w140 275 83 - 1) rfl (by omega) (by omega) ?_
                  refine e_Ok.putf rfl (el_o rfl) rfl rfl ?_
                  generalize hw181 : e_up w140 275 83 (w140 275 83 - 1) = w181
                  have f182 : e_fr (mEx (w 275 78) (w 275 94)) w w181 := e_fr.up f150 hw181 (by unfold mEx; omega)
                  have e183 := up83 hw181
                  have e1833 := e183.2
                  have u184 : w181 275 78 = w140 275 78 := e183.1 275 78 (by omega)
                  have u185 : w181 275 84 = w140 275 84 := e183.1 275 84 (by omega)
                  have u186 : w181 275 85 = w140 275 85 := e183.1 275 85 (by omega)
                  have u187 : w181 275 86 = w140 275 86 := e183.1 275 86 (by omega)
                  have u188 : w181 275 87 = w140 275 87 := e183.1 275 87 (by omega)
                  have u189 : w181 275 88 = w140 275 88 := e183.1 275 88 (by omega)
                  have u190 : w181 275 94 = w140 275 94 := e183.1 275 94 (by omega)
                  have c191 := cSt.up c151 hw181
                  have t192t := tkS.lin c191.2.2.2.1
                  have t192f := e_Has.get c191.2.1 (c := 275) (k := 88) (lo := 0) (hi := 7) rfl (by decide)
                  refine e_Ok.rets rfl rfl ?_
                  exact ⟨rfl, f182, c191, by unfold cLn; omega, (fun z => absurd z (by omega))⟩
                · exfalso; omega
                · exfalso; omega
        · show e_Ok 20 elay ecode eI (d + 1) 345 (20, [(0, (1, 275))], [], w9) _
          have u193 : w12 275 78 = w 275 78 := q11 275 78 (by unfold mRf; omega)
          have u194 : w12 275 83 = w 275 83 := q11 275 83 (by unfold mRf; omega)
          have u195 : w12 275 84 = w 275 84 := q11 275 84 (by unfold mRf; omega)
          have u196 : w12 275 85 = w 275 85 := q11 275 85 (by unfold mRf; omega)
          have u197 : w12 275 86 = w 275 86 := q11 275 86 (by unfold mRf; omega)
          have u198 : w12 275 87 = w 275 87 := q11 275 87 (by unfold mRf; omega)
          have u199 : w12 275 94 = w 275 94 := q11 275 94 (by unfold mRf; omega)
          have f200 : e_fr (mEx (w 275 78) (w 275 94)) w w12 := e_fr.trans (e_fr.refl w) (e_fr.mono q11 (fun c k g => by unfold mRf at g; unfold mEx; omega))
          have c201 := cSt.rf hc q11 q11T q11H
          have t202t := tkS.lin c201.2.2.2.1
          have t202f := e_Has.get c201.2.1 (c := 275) (k := 88) (lo := 0) (hi := 7) rfl (by decide)
          have e203 := up83 q11u
          have e2033 := e203.2
          have u204 : w9 275 78 = w12 275 78 := e203.1 275 78 (by omega)
          have u205 : w9 275 84 = w12 275 84 := e203.1 275 84 (by omega)
          have u206 : w9 275 85 = w12 275 85 := e203.1 275 85 (by omega)
          have u207 : w9 275 86 = w12 275 86 := e203.1 275 86 (by omega)
          have u208 : w9 275 87 = w12 275 87 := e203.1 275 87 (by omega)
          have u209 : w9 275 88 = w12 275 88 := e203.1 275 88 (by omega)
          have u210 : w9 275 94 = w12 275 94 := e203.1 275 94 (by omega)
          have f211 : e_fr (mEx (w 275 78) (w 275 94)) w w9 := e_fr.trans f200 (fun c k g => e203.1 c k (fun g2 => g (by unfold mEx; omega)))
          have c212 := cSt.up c201 q11u
          have t213t := tkS.lin c212.2.2.2.1
          have t213f := e_Has.get c212.2.1 (c := 275) (k := 88) (lo := 0) (hi := 7) rfl (by decide)
          refine e_Ok.run (t' := (24, [(0, (1, 275))], [(0, 40), (1, 275), (1, 275)], w9)) 3 rfl ?_
          refine e_Ok.callV rfl (by omega) rfl rfl rfl rfl (c_331 c212.1 (N := N) c212.2.2.2.1) (fun r214 w215 h216 => ?_)
          obtain ⟨z217, rfl, rfl, q218⟩ := h216
          obtain ⟨rfl, q218, q218b⟩ | ⟨rfl, q218n⟩ := q218
          · show e_Ok 20 elay ecode eI (d + 1) 345 (27, [(0, (1, 275))], [(0, 1), (1, 275)], w9) _
            refine e_Ok.callV rfl (by omega) rfl rfl rfl rfl (c_334 (by omega) c212.1 c212.2.1 c212.2.2.1 hNr c212.2.2.2.1 (by omega)) (fun r219 w220 h221 => ?_)
            obtain ⟨rfl, q222⟩ := h221
            obtain ⟨rfl, q222z⟩ | ⟨q222z, q222b, q222, q222s, q222t⟩ | ⟨q222z, q222b, q222, q222T, q222H, q222r⟩ := q222
            · show e_Ok 20 elay ecode eI (d + 1) 345 (30, [(0, (1, 275))], [], w9) _
              refine e_Ok.run (t' := (31, [(0, (1, 275))], [(1, 275)], w9)) 1 rfl ?_
              refine e_Ok.callV rfl (by omega) rfl rfl rfl rfl (c_339_0 (by omega) c212 (by omega)) (fun r223 w224 h225 => ?_)
              obtain ⟨rfl, rfl⟩ := h225
              show e_Ok 20 elay ecode eI (d + 1) 345 (34, [(0, (1, 275))], [], w9) _
              refine e_Ok.run (t' := (38, [(0, (1, 275))], [(0, 41), (1, 275), (1, 275)], w9)) 3 rfl ?_
              refine e_Ok.callV rfl (by omega) rfl rfl rfl rfl (c_331 c212.1 (N := N) c212.2.2.2.1) (fun r226 w227 h228 => ?_)
              obtain ⟨z229, rfl, rfl, q230⟩ := h228
              obtain ⟨rfl, q230, q230b⟩ | ⟨rfl, q230n⟩ := q230
              · show e_Ok 20 elay ecode eI (d + 1) 345 (41, [(0, (1, 275))], [(0, 1), (1, 275)], w9) _
                refine e_Ok.callV rfl (by omega) rfl rfl rfl rfl (c_334 (by omega) c212.1 c212.2.1 c212.2.2.1 hNr c212.2.2.2.1 (by omega)) (fun r231 w232 h233 => ?_)
                obtain ⟨rfl, q234⟩ := h233
                obtain ⟨rfl, q234z⟩ | ⟨q234z, q234b, q234, q234s, q234t⟩ | ⟨q234z, q234b, q234, q234T, q234H, q234r⟩ := q234
                · show e_Ok 20 elay ecode eI (d + 1) 345 (44, [(0, (1, 275))], [], w9) _
                  refine e_Ok.run (t' := (46, [(0, (1, 275))], [(1, 275), (1, 275)], w9)) 2 rfl ?_
                  refine e_Ok.getf (z := w9 275 83) rfl (el_o rfl) rfl rfl rfl (by omega) ?_
                  refine e_Ok.run (t' := (50, [(0, (1, 275))], [(0, 1), (0, w9 275 83), (1, 275)], w9)) 1 rfl ?_
                  refine e_Ok.sub' (z := w9 275 83 - 1) rfl (by omega) (by omega) ?_
                  refine e_Ok.putf rfl (el_o rfl) rfl rfl ?_
                  generalize hw235 : e_up w9 275 83 (w9 275 83 - 1) = w235
                  have f236 : e_fr (mEx (w 275 78) (w 275 94)) w w235 := e_fr.up f211 hw235 (by unfold mEx; omega)
                  have e237 := up83 hw235
                  have e2373 := e237.2
                  have u238 : w235 275 78 = w9 275 78 := e237.1 275 78 (by omega)
                  have u239 : w235 275 84 = w9 275 84 := e237.1 275 84 (by omega)
                  have u240 : w235 275 85 = w9 275 85 := e237.1 275 85 (by omega)
                  have u241 : w235 275 86 = w9 275 86 := e237.1 275 86 (by omega)
                  have u242 : w235 275 87 = w9 275 87 := e237.1 275 87 (by omega)
                  have u243 : w235 275 88 = w9 275 88 := e237.1 275 88 (by omega)
                  have u244 : w235 275 94 = w9 275 94 := e237.1 275 94 (by omega)
                  have c245 := cSt.up c212 hw235
                  have t246t := tkS.lin c245.2.2.2.1
                  have t246f := e_Has.get c245.2.1 (c := 275) (k := 88) (lo := 0) (hi := 7) rfl (by decide)
                  refine e_Ok.rets rfl rfl ?_
                  exact ⟨rfl, f236, c245, by unfold cLn; omega, (fun z => absurd z (by omega))⟩
                · exfalso; omega
                · exfalso; omega
              · show e_Ok 20 elay ecode eI (d + 1) 345 (41, [(0, (1, 275))], [(0, 0), (1, 275)], w9) _
                refine e_Ok.callV rfl (by omega) rfl rfl rfl rfl (c_334 (by omega) c212.1 c212.2.1 c212.2.2.1 hNr c212.2.2.2.1 (by omega)) (fun r247 w248 h249 => ?_)
                obtain ⟨rfl, q250⟩ := h249
                obtain ⟨rfl, q250z⟩ | ⟨q250z, q250b, q250, q250s, q250t⟩ | ⟨q250z, q250b, q250, q250T, q250H, q250r⟩ := q250
                · show e_Ok 20 elay ecode eI (d + 1) 345 (44, [(0, (1, 275))], [], w9) _
                  refine e_Ok.run (t' := (46, [(0, (1, 275))], [(1, 275), (1, 275)], w9)) 2 rfl ?_
                  refine e_Ok.getf (z := w9 275 83) rfl (el_o rfl) rfl rfl rfl (by omega) ?_
                  refine e_Ok.run (t' := (50, [(0, (1, 275))], [(0, 1), (0, w9 275 83), (1, 275)], w9)) 1 rfl ?_
                  refine e_Ok.sub' (z := w9 275 83 - 1) rfl (by omega) (by omega) ?_
                  refine e_Ok.putf rfl (el_o rfl) rfl rfl ?_
                  generalize hw251 : e_up w9 275 83 (w9 275 83 - 1) = w251
                  have f252 : e_fr (mEx (w 275 78) (w 275 94)) w w251 := e_fr.up f211 hw251 (by unfold mEx; omega)
                  have e253 := up83 hw251
                  have e2533 := e253.2
                  have u254 : w251 275 78 = w9 275 78 := e253.1 275 78 (by omega)
                  have u255 : w251 275 84 = w9 275 84 := e253.1 275 84 (by omega)
                  have u256 : w251 275 85 = w9 275 85 := e253.1 275 85 (by omega)
                  have u257 : w251 275 86 = w9 275 86 := e253.1 275 86 (by omega)
                  have u258 : w251 275 87 = w9 275 87 := e253.1 275 87 (by omega)
                  have u259 : w251 275 88 = w9 275 88 := e253.1 275 88 (by omega)
                  have u260 : w251 275 94 = w9 275 94 := e253.1 275 94 (by omega)
                  have c261 := cSt.up c212 hw251
                  have t262t := tkS.lin c261.2.2.2.1
                  have t262f := e_Has.get c261.2.1 (c := 275) (k := 88) (lo := 0) (hi := 7) rfl (by decide)
                  refine e_Ok.rets rfl rfl ?_
                  exact ⟨rfl, f252, c261, by unfold cLn; omega, (fun z => absurd z (by omega))⟩
                · exfalso; omega
                · exfalso; omega
            · exfalso; omega
            · exfalso; omega
          · show e_Ok 20 elay ecode eI (d + 1) 345 (27, [(0, (1, 275))], [(0, 0), (1, 275)], w9) _
            refine e_Ok.callV rfl (by omega) rfl rfl rfl rfl (c_334 (by omega) c212.1 c212.2.1 c212.2.2.1 hNr c212.2.2.2.1 (by omega)) (fun r263 w264 h265 => ?_)
            obtain ⟨rfl, q266⟩ := h265
            obtain ⟨rfl, q266z⟩ | ⟨q266z, q266b, q266, q266s, q266t⟩ | ⟨q266z, q266b, q266, q266T, q266H, q266r⟩ := q266
            · show e_Ok 20 elay ecode eI (d + 1) 345 (30, [(0, (1, 275))], [], w9) _
              refine e_Ok.run (t' := (31, [(0, (1, 275))], [(1, 275)], w9)) 1 rfl ?_
              refine e_Ok.callV rfl (by omega) rfl rfl rfl rfl (c_339_0 (by omega) c212 (by omega)) (fun r267 w268 h269 => ?_)
              obtain ⟨rfl, rfl⟩ := h269
              show e_Ok 20 elay ecode eI (d + 1) 345 (34, [(0, (1, 275))], [], w9) _
              refine e_Ok.run (t' := (38, [(0, (1, 275))], [(0, 41), (1, 275), (1, 275)], w9)) 3 rfl ?_
              refine e_Ok.callV rfl (by omega) rfl rfl rfl rfl (c_331 c212.1 (N := N) c212.2.2.2.1) (fun r270 w271 h272 => ?_)
              obtain ⟨z273, rfl, rfl, q274⟩ := h272
              obtain ⟨rfl, q274, q274b⟩ | ⟨rfl, q274n⟩ := q274
              · show e_Ok 20 elay ecode eI (d + 1) 345 (41, [(0, (1, 275))], [(0, 1), (1, 275)], w9) _
                refine e_Ok.callV rfl (by omega) rfl rfl rfl rfl (c_334 (by omega) c212.1 c212.2.1 c212.2.2.1 hNr c212.2.2.2.1 (by omega)) (fun r275 w276 h277 => ?_)
                obtain ⟨rfl, q278⟩ := h277
                obtain ⟨rfl, q278z⟩ | ⟨q278z, q278b, q278, q278s, q278t⟩ | ⟨q278z, q278b, q278, q278T, q278H, q278r⟩ := q278
                · show e_Ok 20 elay ecode eI (d + 1) 345 (44, [(0, (1, 275))], [], w9) _
                  refine e_Ok.run (t' := (46, [(0, (1, 275))], [(1, 275), (1, 275)], w9)) 2 rfl ?_
                  refine e_Ok.getf (z := w9 275 83) rfl (el_o rfl) rfl rfl rfl (by omega) ?_
                  refine e_Ok.run (t' := (50, [(0, (1, 275))], [(0, 1), (0, w9 275 83), (1, 275)], w9)) 1 rfl ?_
                  refine e_Ok.sub' (z := w9 275 83 - 1) rfl (by omega) (by omega) ?_
                  refine e_Ok.putf rfl (el_o rfl) rfl rfl ?_
                  generalize hw279 : e_up w9 275 83 (w9 275 83 - 1) = w279
                  have f280 : e_fr (mEx (w 275 78) (w 275 94)) w w279 := e_fr.up f211 hw279 (by unfold mEx; omega)
                  have e281 := up83 hw279
                  have e2813 := e281.2
                  have u282 : w279 275 78 = w9 275 78 := e281.1 275 78 (by omega)
                  have u283 : w279 275 84 = w9 275 84 := e281.1 275 84 (by omega)
                  have u284 : w279 275 85 = w9 275 85 := e281.1 275 85 (by omega)
                  have u285 : w279 275 86 = w9 275 86 := e281.1 275 86 (by omega)
                  have u286 : w279 275 87 = w9 275 87 := e281.1 275 87 (by omega)
                  have u287 : w279 275 88 = w9 275 88 := e281.1 275 88 (by omega)
                  have u288 : w279 275 94 = w9 275 94 := e281.1 275 94 (by omega)
                  have c289 := cSt.up c212 hw279
                  have t290t := tkS.lin c289.2.2.2.1
                  have t290f := e_Has.get c289.2.1 (c := 275) (k := 88) (lo := 0) (hi := 7) rfl (by decide)
                  refine e_Ok.rets rfl rfl ?_
                  exact ⟨rfl, f280, c289, by unfold cLn; omega, (fun z => absurd z (by omega))⟩
                · exfalso; omega
                · exfalso; omega
              · show e_Ok 20 elay ecode eI (d + 1) 345 (41, [(0, (1, 275))], [(0, 0), (1, 275)], w9) _
                refine e_Ok.callV rfl (by omega) rfl rfl rfl rfl (c_334 (by omega) c212.1 c212.2.1 c212.2.2.1 hNr c212.2.2.2.1 (by omega)) (fun r291 w292 h293 => ?_)
                obtain ⟨rfl, q294⟩ := h293
                obtain ⟨rfl, q294z⟩ | ⟨q294z, q294b, q294, q294s, q294t⟩ | ⟨q294z, q294b, q294, q294T, q294H, q294r⟩ := q294
                · show e_Ok 20 elay ecode eI (d + 1) 345 (44, [(0, (1, 275))], [], w9) _
                  refine e_Ok.run (t' := (46, [(0, (1, 275))], [(1, 275), (1, 275)], w9)) 2 rfl ?_
                  refine e_Ok.getf (z := w9 275 83) rfl (el_o rfl) rfl rfl rfl (by omega) ?_
                  refine e_Ok.run (t' := (50, [(0, (1, 275))], [(0, 1), (0, w9 275 83), (1, 275)], w9)) 1 rfl ?_
                  refine e_Ok.sub' (z := w9 275 83 - 1) rfl (by omega) (by omega) ?_
                  refine e_Ok.putf rfl (el_o rfl) rfl rfl ?_
                  generalize hw295 : e_up w9 275 83 (w9 275 83 - 1) = w295
                  have f296 : e_fr (mEx (w 275 78) (w 275 94)) w w295 := e_fr.up f211 hw295 (by unfold mEx; omega)
                  have e297 := up83 hw295
                  have e2973 := e297.2
                  have u298 : w295 275 78 = w9 275 78 := e297.1 275 78 (by omega)
                  have u299 : w295 275 84 = w9 275 84 := e297.1 275 84 (by omega)
                  have u300 : w295 275 85 = w9 275 85 := e297.1 275 85 (by omega)
                  have u301 : w295 275 86 = w9 275 86 := e297.1 275 86 (by omega)
                  have u302 : w295 275 87 = w9 275 87 := e297.1 275 87 (by omega)
                  have u303 : w295 275 88 = w9 275 88 := e297.1 275 88 (by omega)
                  have u304 : w295 275 94 = w9 275 94 := e297.1 275 94 (by omega)
                  have c305 := cSt.up c212 hw295
                  have t306t := tkS.lin c305.2.2.2.1
                  have t306f := e_Has.get c305.2.1 (c := 275) (k := 88) (lo := 0) (hi := 7) rfl (by decide)
                  refine e_Ok.rets rfl rfl ?_
                  exact ⟨rfl, f296, c305, by unfold cLn; omega, (fun z => absurd z (by omega))⟩
                · exfalso; omega
                · exfalso; omega
            · exfalso; omega
            · exfalso; omega
    · show e_Ok 20 elay ecode eI (d + 1) 345 (13, [(0, (1, 275))], [(0, 0)], w) _
      refine e_Ok.if1 rfl (fun h307 => ?_) (fun h307 => ?_)
      · replace h307 : (0 : Int) = 0 := h307
        refine e_Ok.run (t' := (24, [(0, (1, 275))], [(0, 40), (1, 275), (1, 275)], w)) 3 rfl ?_
        refine e_Ok.callV rfl (by omega) rfl rfl rfl rfl (c_331 hc.1 (N := N) hc.2.2.2.1) (fun r308 w309 h310 => ?_)
        obtain ⟨z311, rfl, rfl, q312⟩ := h310
        obtain ⟨rfl, q312, q312b⟩ | ⟨rfl, q312n⟩ := q312
        · show e_Ok 20 elay ecode eI (d + 1) 345 (27, [(0, (1, 275))], [(0, 1), (1, 275)], w) _
          refine e_Ok.callV rfl (by omega) rfl rfl rfl rfl (c_334 (by omega) hc.1 hc.2.1 hc.2.2.1 hNr hc.2.2.2.1 (by omega)) (fun r313 w314 h315 => ?_)
          obtain ⟨rfl, q316⟩ := h315
          obtain ⟨rfl, q316z⟩ | ⟨q316z, q316b, q316, q316s, q316t⟩ | ⟨q316z, q316b, q316, q316T, q316H, q316r⟩ := q316
          · exfalso; omega
          · show e_Ok 20 elay ecode eI (d + 1) 345 (30, [(0, (1, 275))], [], w314) _
            have p317 := tkS.pos hc.2.2.2.1 (by omega)
            have u318 : w314 275 78 = w 275 78 := q316 275 78 (by unfold mTq; omega)
            have u319 : w314 275 83 = w 275 83 := q316 275 83 (by unfold mTq; omega)
            have u320 : w314 275 88 = w 275 88 := q316 275 88 (by unfold mTq; omega)
            have u321 : w314 275 94 = w 275 94 := q316 275 94 (by unfold mTq; omega)
            have f322 : e_fr (mEx (w 275 78) (w 275 94)) w w314 := e_fr.trans (e_fr.refl w) (e_fr.mono q316 (fun c k g => by unfold mTq at g; unfold mEx; omega))
            have c323 := cSt.tk hc q316 q316s
            have t324t := tkS.lin c323.2.2.2.1
            have t324f := e_Has.get c323.2.1 (c := 275) (k := 88) (lo := 0) (hi := 7) rfl (by decide)
            have wf325 : Hid (w314 275 88 = 0 → wfE w314 N (w314 275 78) (w314 275 94) nt P s (e)) := Hid.mk (fun z => by rw [u318, u321]; exact wfE.pr (hwH.out (by omega)) (prE.tk q316))
            refine e_Ok.run (t' := (31, [(0, (1, 275))], [(1, 275)], w314)) 1 rfl ?_
            refine e_Ok.callV rfl (by omega) rfl rfl rfl rfl ((hS (by omega) d rfl) w314 N nt s (e) P c323 hNr (by omega) (by omega) (Eq.trans (f322 275 81 (by unfold mEx; omega)) hs) (by omega) (wf325.out (by omega)) (by omega)) (fun r326 w327 h329 => ?_)
            obtain ⟨rfl, q331F, q331c, q331l, q331w⟩ := h329
            unfold cLn at q331l
            replace q331w : Hid (w327 275 88 = 0 → wfE w327 N (w327 275 78) (w327 275 94) nt P s (e + 1)) := Hid.mk (fun z => wfE.d (q331w z) (by omega))
            have f332 : e_fr (mEx (w 275 78) (w 275 94)) w w327 := e_fr.trans f322 (e_fr.mono q331F (fun c k g => by unfold mEx at g; unfold mEx; omega))
            have t333t := tkS.lin q331c.2.2.2.1
            have t333f := e_Has.get q331c.2.1 (c := 275) (k := 88) (lo := 0) (hi := 7) rfl (by decide)
            show e_Ok 20 elay ecode eI (d + 1) 345 (34, [(0, (1, 275))], [], w327) _
            refine e_Ok.run (t' := (38, [(0, (1, 275))], [(0, 41), (1, 275), (1, 275)], w327)) 3 rfl ?_
            refine e_Ok.callV rfl (by omega) rfl rfl rfl rfl (c_331 q331c.1 (N := N) q331c.2.2.2.1) (fun r334 w335 h336 => ?_)
            obtain ⟨z337, rfl, rfl, q339⟩ := h336
            obtain ⟨rfl, q339, q339b⟩ | ⟨rfl, q339n⟩ := q339
            · show e_Ok 20 elay ecode eI (d + 1) 345 (41, [(0, (1, 275))], [(0, 1), (1, 275)], w327) _
              refine e_Ok.callV rfl (by omega) rfl rfl rfl rfl (c_334 (by omega) q331c.1 q331c.2.1 q331c.2.2.1 hNr q331c.2.2.2.1 (by omega)) (fun r340 w341 h342 => ?_)
              obtain ⟨rfl, q343⟩ := h342
              obtain ⟨rfl, q343z⟩ | ⟨q343z, q343b, q343, q343s, q343t⟩ | ⟨q343z, q343b, q343, q343T, q343H, q343r⟩ := q343
              · show e_Ok 20 elay ecode eI (d + 1) 345 (44, [(0, (1, 275))], [], w327) _
                refine e_Ok.run (t' := (46, [(0, (1, 275))], [(1, 275), (1, 275)], w327)) 2 rfl ?_
                refine e_Ok.getf (z := w327 275 83) rfl (el_o rfl) rfl rfl rfl (by omega) ?_
                refine e_Ok.run (t' := (50, [(0, (1, 275))], [(0, 1), (0, w327 275 83), (1, 275)], w327)) 1 rfl ?_
                refine e_Ok.sub' (z := w327 275 83 - 1) rfl (by omega) (by omega) ?_
                refine e_Ok.putf rfl (el_o rfl) rfl rfl ?_
                generalize hw344 : e_up w327 275 83 (w327 275 83 - 1) = w344
                have f345 : e_fr (mEx (w 275 78) (w 275 94)) w w344 := e_fr.up f332 hw344 (by unfold mEx; omega)
                have e346 := up83 hw344
                have e3463 := e346.2
                have u347 : w344 275 78 = w327 275 78 := e346.1 275 78 (by omega)
                have u348 : w344 275 84 = w327 275 84 := e346.1 275 84 (by omega)
                have u349 : w344 275 85 = w327 275 85 := e346.1 275 85 (by omega)
                have u350 : w344 275 86 = w327 275 86 := e346.1 275 86 (by omega)
                have u351 : w344 275 87 = w327 275 87 := e346.1 275 87 (by omega)
                have u352 : w344 275 88 = w327 275 88 := e346.1 275 88 (by omega)
                have u353 : w344 275 94 = w327 275 94 := e346.1 275 94 (by omega)
                have c354 := cSt.up q331c hw344
                have t355t := tkS.lin c354.2.2.2.1
                have t355f := e_Has.get c354.2.1 (c := 275) (k := 88) (lo := 0) (hi := 7) rfl (by decide)
                have wf356 : Hid (w344 275 88 = 0 → wfE w344 N (w344 275 78) (w344 275 94) nt P s (e + 1)) := Hid.mk (fun z => by rw [u347, u353]; exact wfE.pr (q331w.out (by omega)) (prE.up hw344))
                refine e_Ok.rets rfl rfl ?_
                exact ⟨rfl, f345, c354, by unfold cLn; omega, (fun z => absurd z (by omega))⟩
              · show e_Ok 20 elay ecode eI (d + 1) 345 (44, [(0, (1, 275))], [], w341) _
                have p357 := tkS.pos q331c.2.2.2.1 (by omega)
                have u358 : w341 275 78 = w327 275 78 := q343 275 78 (by unfold mTq; omega)
                have u359 : w341 275 83 = w327 275 83 := q343 275 83 (by unfold mTq; omega)
                have u360 : w341 275 88 = w327 275 88 := q343 275 88 (by unfold mTq; omega)
                have u361 : w341 275 94 = w327 275 94 := q343 275 94 (by unfold mTq; omega)
                have f362 : e_fr (mEx (w 275 78) (w 275 94)) w w341 := e_fr.trans f332 (e_fr.mono q343 (fun c k g => by unfold mTq at g; unfold mEx; omega))
                have c363 := cSt.tk q331c q343 q343s
                have t364t := tkS.lin c363.2.2.2.1
                have t364f := e_Has.get c363.2.1 (c := 275) (k := 88) (lo := 0) (hi := 7) rfl (by decide)
                have wf365 : Hid (w341 275 88 = 0 → wfE w341 N (w341 275 78) (w341 275 94) nt P s (e + 1)) := Hid.mk (fun z => by rw [u358, u361]; exact wfE.pr (q331w.out (by omega)) (prE.tk q343))
                refine e_Ok.run (t' := (46, [(0, (1, 275))], [(1, 275), (1, 275)], w341)) 2 rfl ?_
                refine e_Ok.getf (z := w341 275 83) rfl (el_o rfl) rfl rfl rfl (by omega) ?_
                refine e_Ok.run (t' := (50, [(0, (1, 275))], [(0, 1), (0, w341 275 83), (1, 275)], w341)) 1 rfl ?_
                refine e_Ok.sub' (z := w341 275 83 - 1) rfl (by omega) (by omega) ?_
                refine e_Ok.putf rfl (el_o rfl) rfl rfl ?_
                generalize hw366 : e_up w341 275 83 (w341 275 83 - 1) = w366
                have f367 : e_fr (mEx (w 275 78) (w 275 94)) w w366 := e_fr.up f362 hw366 (by unfold mEx; omega)
                have e368 := up83 hw366
                have e3683 := e368.2
                have u369 : w366 275 78 = w341 275 78 := e368.1 275 78 (by omega)
                have u370 : w366 275 84 = w341 275 84 := e368.1 275 84 (by omega)
                have u371 : w366 275 85 = w341 275 85 := e368.1 275 85 (by omega)
                have u372 : w366 275 86 = w341 275 86 := e368.1 275 86 (by omega)
                have u373 : w366 275 87 = w341 275 87 := e368.1 275 87 (by omega)
                have u374 : w366 275 88 = w341 275 88 := e368.1 275 88 (by omega)
                have u375 : w366 275 94 = w341 275 94 := e368.1 275 94 (by omega)
                have c376 := cSt.up c363 hw366
                have t377t := tkS.lin c376.2.2.2.1
                have t377f := e_Has.get c376.2.1 (c := 275) (k := 88) (lo := 0) (hi := 7) rfl (by decide)
                have wf378 : Hid (w366 275 88 = 0 → wfE w366 N (w366 275 78) (w366 275 94) nt P s (e + 1)) := Hid.mk (fun z => by rw [u369, u375]; exact wfE.pr (wf365.out (by omega)) (prE.up hw366))
                refine e_Ok.rets rfl rfl ?_
                exact ⟨rfl, f367, c376, by unfold cLn; omega, wf378.out⟩
              · exfalso; omega
            · show e_Ok 20 elay ecode eI (d + 1) 345 (41, [(0, (1, 275))], [(0, 0), (1, 275)], w327) _
              refine e_Ok.callV rfl (by omega) rfl rfl rfl rfl (c_334 (by omega) q331c.1 q331c.2.1 q331c.2.2.1 hNr q331c.2.2.2.1 (by omega)) (fun r379 w380 h381 => ?_)
              obtain ⟨rfl, q382⟩ := h381
              obtain ⟨rfl, q382z⟩ | ⟨q382z, q382b, q382, q382s, q382t⟩ | ⟨q382z, q382b, q382, q382T, q382H, q382r⟩ := q382
              · show e_Ok 20 elay ecode eI (d + 1) 345 (44, [(0, (1, 275))], [], w327) _
                refine e_Ok.run (t' := (46, [(0, (1, 275))], [(1, 275), (1, 275)], w327)) 2 rfl ?_
                refine e_Ok.getf (z := w327 275 83) rfl (el_o rfl) rfl rfl rfl (by omega) ?_
                refine e_Ok.run (t' := (50, [(0, (1, 275))], [(0, 1), (0, w327 275 83), (1, 275)], w327)) 1 rfl ?_
                refine e_Ok.sub' (z := w327 275 83 - 1) rfl (by omega) (by omega) ?_
                refine e_Ok.putf rfl (el_o rfl) rfl rfl ?_
                generalize hw383 : e_up w327 275 83 (w327 275 83 - 1) = w383
                have f384 : e_fr (mEx (w 275 78) (w 275 94)) w w383 := e_fr.up f332 hw383 (by unfold mEx; omega)
                have e385 := up83 hw383
                have e3853 := e385.2
                have u386 : w383 275 78 = w327 275 78 := e385.1 275 78 (by omega)
                have u387 : w383 275 84 = w327 275 84 := e385.1 275 84 (by omega)
                have u388 : w383 275 85 = w327 275 85 := e385.1 275 85 (by omega)
                have u389 : w383 275 86 = w327 275 86 := e385.1 275 86 (by omega)
                have u390 : w383 275 87 = w327 275 87 := e385.1 275 87 (by omega)
                have u391 : w383 275 88 = w327 275 88 := e385.1 275 88 (by omega)
                have u392 : w383 275 94 = w327 275 94 := e385.1 275 94 (by omega)
                have c393 := cSt.up q331c hw383
                have t394t := tkS.lin c393.2.2.2.1
                have t394f := e_Has.get c393.2.1 (c := 275) (k := 88) (lo := 0) (hi := 7) rfl (by decide)
                have wf395 : Hid (w383 275 88 = 0 → wfE w383 N (w383 275 78) (w383 275 94) nt P s (e + 1)) := Hid.mk (fun z => by rw [u386, u392]; exact wfE.pr (q331w.out (by omega)) (prE.up hw383))
                refine e_Ok.rets rfl rfl ?_
                exact ⟨rfl, f384, c393, by unfold cLn; omega, (fun z => absurd z (by omega))⟩
              · exfalso; omega
              · show e_Ok 20 elay ecode eI (d + 1) 345 (44, [(0, (1, 275))], [], w380) _
                have u396 : w380 275 78 = w327 275 78 := q382 275 78 (by unfold mRf; omega)
                have u397 : w380 275 83 = w327 275 83 := q382 275 83 (by unfold mRf; omega)
                have u398 : w380 275 84 = w327 275 84 := q382 275 84 (by unfold mRf; omega)
                have u399 : w380 275 85 = w327 275 85 := q382 275 85 (by unfold mRf; omega)
                have u400 : w380 275 86 = w327 275 86 := q382 275 86 (by unfold mRf; omega)
                have u401 : w380 275 87 = w327 275 87 := q382 275 87 (by unfold mRf; omega)
                have u402 : w380 275 94 = w327 275 94 := q382 275 94 (by unfold mRf; omega)
                have f403 : e_fr (mEx (w 275 78) (w 275 94)) w w380 := e_fr.trans f332 (e_fr.mono q382 (fun c k g => by unfold mRf at g; unfold mEx; omega))
                have c404 := cSt.rf q331c q382 q382T q382H
                have t405t := tkS.lin c404.2.2.2.1
                have t405f := e_Has.get c404.2.1 (c := 275) (k := 88) (lo := 0) (hi := 7) rfl (by decide)
                refine e_Ok.run (t' := (46, [(0, (1, 275))], [(1, 275), (1, 275)], w380)) 2 rfl ?_
                refine e_Ok.getf (z := w380 275 83) rfl (el_o rfl) rfl rfl rfl (by omega) ?_
                refine e_Ok.run (t' := (50, [(0, (1, 275))], [(0, 1), (0, w380 275 83), (1, 275)], w380)) 1 rfl ?_
                refine e_Ok.sub' (z := w380 275 83 - 1) rfl (by omega) (by omega) ?_
                refine e_Ok.putf rfl (el_o rfl) rfl rfl ?_
                generalize hw406 : e_up w380 275 83 (w380 275 83 - 1) = w406
                have f407 : e_fr (mEx (w 275 78) (w 275 94)) w w406 := e_fr.up f403 hw406 (by unfold mEx; omega)
                have e408 := up83 hw406
                have e4083 := e408.2
                have u409 : w406 275 78 = w380 275 78 := e408.1 275 78 (by omega)
                have u410 : w406 275 84 = w380 275 84 := e408.1 275 84 (by omega)
                have u411 : w406 275 85 = w380 275 85 := e408.1 275 85 (by omega)
                have u412 : w406 275 86 = w380 275 86 := e408.1 275 86 (by omega)
                have u413 : w406 275 87 = w380 275 87 := e408.1 275 87 (by omega)
                have u414 : w406 275 88 = w380 275 88 := e408.1 275 88 (by omega)
                have u415 : w406 275 94 = w380 275 94 := e408.1 275 94 (by omega)
                have c417 := cSt.up c404 hw406
                have t418t := tkS.lin c417.2.2.2.1
                have t418f := e_Has.get c417.2.1 (c := 275) (k := 88) (lo := 0) (hi := 7) rfl (by decide)
                refine e_Ok.rets rfl rfl ?_
                exact ⟨rfl, f407, c417, by unfold cLn; omega, (fun z => absurd z (by omega))⟩
          · exfalso; omega
        · show e_Ok 20 elay ecode eI (d + 1) 345 (27, [(0, (1, 275))], [(0, 0), (1, 275)], w) _
          refine e_Ok.callV rfl (by omega) rfl rfl rfl rfl (c_334 (by omega) hc.1 hc.2.1 hc.2.2.1 hNr hc.2.2.2.1 (by omega)) (fun r419 w420 h421 => ?_)
          obtain ⟨rfl, q422⟩ := h421
          obtain ⟨rfl, q422z⟩ | ⟨q422z, q422b, q422, q422s, q422t⟩ | ⟨q422z, q422b, q422, q422T, q422H, q422r⟩ := q422
          · exfalso; omega
          · exfalso; omega
          · show e_Ok 20 elay ecode eI (d + 1) 345 (30, [(0, (1, 275))], [], w420) _
            have u423 : w420 275 78 = w 275 78 := q422 275 78 (by unfold mRf; omega)
            have u424 : w420 275 83 = w 275 83 := q422 275 83 (by unfold mRf; omega)
            have u425 : w420 275 84 = w 275 84 := q422 275 84 (by unfold mRf; omega)
            have u426 : w420 275 85 = w 275 85 := q422 275 85 (by unfold mRf; omega)
            have u427 : w420 275 86 = w 275 86 := q422 275 86 (by unfold mRf; omega)
            have u428 : w420 275 87 = w 275 87 := q422 275 87 (by unfold mRf; omega)
            have u429 : w420 275 94 = w 275 94 := q422 275 94 (by unfold mRf; omega)
            have f430 : e_fr (mEx (w 275 78) (w 275 94)) w w420 := e_fr.trans (e_fr.refl w) (e_fr.mono q422 (fun c k g => by unfold mRf at g; unfold mEx; omega))
            have c431 := cSt.rf hc q422 q422T q422H
            have t432t := tkS.lin c431.2.2.2.1
            have t432f := e_Has.get c431.2.1 (c := 275) (k := 88) (lo := 0) (hi := 7) rfl (by decide)
            refine e_Ok.run (t' := (31, [(0, (1, 275))], [(1, 275)], w420)) 1 rfl ?_
            refine e_Ok.callV rfl (by omega) rfl rfl rfl rfl (c_339_0 (by omega) c431 (by omega)) (fun r433 w434 h435 => ?_)
            obtain ⟨rfl, rfl⟩ := h435
            show e_Ok 20 elay ecode eI (d + 1) 345 (34, [(0, (1, 275))], [], w420) _
            refine e_Ok.run (t' := (38, [(0, (1, 275))], [(0, 41), (1, 275), (1, 275)], w420)) 3 rfl ?_
            refine e_Ok.callV rfl (by omega) rfl rfl rfl rfl (c_331 c431.1 (N := N) c431.2.2.2.1) (fun r436 w437 h438 => ?_)
            obtain ⟨z439, rfl, rfl, q440⟩ := h438
            obtain ⟨rfl, q440, q440b⟩ | ⟨rfl, q440n⟩ := q440
            · show e_Ok 20 elay ecode eI (d + 1) 345 (41, [(0, (1, 275))], [(0, 1), (1, 275)], w420) _
              refine e_Ok.callV rfl (by omega) rfl rfl rfl rfl (c_334 (by omega) c431.1 c431.2.1 c431.2.2.1 hNr c431.2.2.2.1 (by omega)) (fun r441 w442 h443 => ?_)
              obtain ⟨rfl, q444⟩ := h443
              obtain ⟨rfl, q444z⟩ | ⟨q444z, q444b, q444, q444s, q444t⟩ | ⟨q444z, q444b, q444, q444T, q444H, q444r⟩ := q444
              · show e_Ok 20 elay ecode eI (d + 1) 345 (44, [(0, (1, 275))], [], w420) _
                refine e_Ok.run (t' := (46, [(0, (1, 275))], [(1, 275), (1, 275)], w420)) 2 rfl ?_
                refine e_Ok.getf (z := w420 275 83) rfl (el_o rfl) rfl rfl rfl (by omega) ?_
                refine e_Ok.run (t' := (50, [(0, (1, 275))], [(0, 1), (0, w420 275 83), (1, 275)], w420)) 1 rfl ?_
                refine e_Ok.sub' (z := w420 275 83 - 1) rfl (by omega) (by omega) ?_
                refine e_Ok.putf rfl (el_o rfl) rfl rfl ?_
                generalize hw445 : e_up w420 275 83 (w420 275 83 - 1) = w445
                have f446 : e_fr (mEx (w 275 78) (w 275 94)) w w445 := e_fr.up f430 hw445 (by unfold mEx; omega)
                have e447 := up83 hw445
                have e4473 := e447.2
                have u448 : w445 275 78 = w420 275 78 := e447.1 275 78 (by omega)
                have u449 : w445 275 84 = w420 275 84 := e447.1 275 84 (by omega)
                have u450 : w445 275 85 = w420 275 85 := e447.1 275 85 (by omega)
                have u451 : w445 275 86 = w420 275 86 := e447.1 275 86 (by omega)
                have u452 : w445 275 87 = w420 275 87 := e447.1 275 87 (by omega)
                have u453 : w445 275 88 = w420 275 88 := e447.1 275 88 (by omega)
                have u454 : w445 275 94 = w420 275 94 := e447.1 275 94 (by omega)
                have c455 := cSt.up c431 hw445
                have t456t := tkS.lin c455.2.2.2.1
                have t456f := e_Has.get c455.2.1 (c := 275) (k := 88) (lo := 0) (hi := 7) rfl (by decide)
                refine e_Ok.rets rfl rfl ?_
                exact ⟨rfl, f446, c455, by unfold cLn; omega, (fun z => absurd z (by omega))⟩
              · exfalso; omega
              · exfalso; omega
            · show e_Ok 20 elay ecode eI (d + 1) 345 (41, [(0, (1, 275))], [(0, 0), (1, 275)], w420) _
              refine e_Ok.callV rfl (by omega) rfl rfl rfl rfl (c_334 (by omega) c431.1 c431.2.1 c431.2.2.1 hNr c431.2.2.2.1 (by omega)) (fun r457 w458 h459 => ?_)
              obtain ⟨rfl, q460⟩ := h459
              obtain ⟨rfl, q460z⟩ | ⟨q460z, q460b, q460, q460s, q460t⟩ | ⟨q460z, q460b, q460, q460T, q460H, q460r⟩ := q460
              · show e_Ok 20 elay ecode eI (d + 1) 345 (44, [(0, (1, 275))], [], w420) _
                refine e_Ok.run (t' := (46, [(0, (1, 275))], [(1, 275), (1, 275)], w420)) 2 rfl ?_
                refine e_Ok.getf (z := w420 275 83) rfl (el_o rfl) rfl rfl rfl (by omega) ?_
                refine e_Ok.run (t' := (50, [(0, (1, 275))], [(0, 1), (0, w420 275 83), (1, 275)], w420)) 1 rfl ?_
                refine e_Ok.sub' (z := w420 275 83 - 1) rfl (by omega) (by omega) ?_
                refine e_Ok.putf rfl (el_o rfl) rfl rfl ?_
                generalize hw461 : e_up w420 275 83 (w420 275 83 - 1) = w461
                have f462 : e_fr (mEx (w 275 78) (w 275 94)) w w461 := e_fr.up f430 hw461 (by unfold mEx; omega)
                have e463 := up83 hw461
                have e4633 := e463.2
                have u464 : w461 275 78 = w420 275 78 := e463.1 275 78 (by omega)
                have u465 : w461 275 84 = w420 275 84 := e463.1 275 84 (by omega)
                have u466 : w461 275 85 = w420 275 85 := e463.1 275 85 (by omega)
                have u467 : w461 275 86 = w420 275 86 := e463.1 275 86 (by omega)
                have u468 : w461 275 87 = w420 275 87 := e463.1 275 87 (by omega)
                have u469 : w461 275 88 = w420 275 88 := e463.1 275 88 (by omega)
                have u470 : w461 275 94 = w420 275 94 := e463.1 275 94 (by omega)
                have c471 := cSt.up c431 hw461
                have t472t := tkS.lin c471.2.2.2.1
                have t472f := e_Has.get c471.2.1 (c := 275) (k := 88) (lo := 0) (hi := 7) rfl (by decide)
                refine e_Ok.rets rfl rfl ?_
                exact ⟨rfl, f462, c471, by unfold cLn; omega, (fun z => absurd z (by omega))⟩
              · exfalso; omega
              · exfalso; omega
      · replace h307 : (0 : Int) ≠ 0 := by have q : ¬ ((0 : Int) = 0) := h307; omega
        exfalso; omega
end
