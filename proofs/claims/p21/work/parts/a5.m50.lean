noncomputable section
set_option maxHeartbeats 4000000 in
theorem c_346 {d : Nat} (hd : 47 ≤ d) {w : eW} {N nt s e o F : Int} {P : Int → Prop} (hc : cSt w N) (hNr : 0 ≤ N ∧ N ≤ 4000) (h0 : w 275 88 = 0) (ho : w 275 83 = o) (hs : w 275 81 = s) (hb : 0 ≤ w 275 78 ∧ w 275 78 + 2 * (N - w 275 86) ≤ 8100 ∧ 0 ≤ w 275 94 ∧ w 275 94 + (N - w 275 86) ≤ 4050) (hw : wfE w N (w 275 78) (w 275 94) nt P s e) (he : e ≤ w 275 86) (hor : 0 ≤ o ∧ o ≤ 30) (hF : 0 ≤ F ∧ F ≤ 400) (hF1 : 1 ≤ F) (hS : o < 30 → ∀ k, d = k + 1 → exC 346 (o + 1) (F - 1) k) (hB : ∀ k, d = k + 1 → exC 345 o (F - 1) k) : e_Ok 20 elay ecode eI d 346 (0, [(0, (1, 275))], [], w) (fun r w' => r = [] ∧ exQ w w' N nt P s (e + 1) (F)) := by
  obtain ⟨d, rfl⟩ : ∃ e, d = e + 1 := ⟨d - 1, by omega⟩
  have hct := tkS.lin hc.2.2.2.1
  have hcf := e_Has.get hc.2.1 (c := 275) (k := 88) (lo := 0) (hi := 7) rfl (by decide)
  have hsb := hc.2.2.2.2
  rw [hs] at hsb
  have he0 := hw.2.2.2.2.2.1
  have hwH : Hid (w 275 88 = 0 → wfE w N (w 275 78) (w 275 94) nt P s e) := Hid.mk (fun _ => hw)
  refine e_Ok.run (t' := (1, [(0, (1, 275))], [(1, 275)], w)) 1 rfl ?_
  refine e_Ok.getf (z := w 275 88) rfl (el_o rfl) rfl rfl rfl (by omega) ?_
  refine e_Ok.if1 rfl (fun h1 => ?_) (fun h1 => ?_)
  · replace h1 : (w 275 88 : Int) = 0 := h1
    refine e_Ok.run (t' := (11, [(0, (1, 275))], [(0, 45), (1, 275)], w)) 2 rfl ?_
    refine e_Ok.callV rfl (by omega) rfl rfl rfl rfl (c_331 hc.1 (N := N) hc.2.2.2.1) (fun r2 w3 h4 => ?_)
    obtain ⟨z5, rfl, rfl, q6⟩ := h4
    obtain ⟨rfl, q6, q6b⟩ | ⟨rfl, q6n⟩ := q6
    · show e_Ok 20 elay ecode eI (d + 1) 346 (14, [(0, (1, 275))], [(0, 1)], w) _
      refine e_Ok.if1 rfl (fun h7 => ?_) (fun h7 => ?_)
      · replace h7 : (1 : Int) = 0 := h7
        exfalso; omega
      · replace h7 : (1 : Int) ≠ 0 := by have q : ¬ ((1 : Int) = 0) := h7; omega
        refine e_Ok.run (t' := (18, [(0, (1, 275))], [(1, 275)], w)) 1 rfl ?_
        refine e_Ok.callV rfl (by omega) rfl rfl rfl rfl (c_335 (by omega) hc.1 hc.2.1 hc.2.2.1 hNr hc.2.2.2.1 (o := w 275 83) rfl (by omega)) (fun r8 w9 h10 => ?_)
        obtain ⟨rfl, q11o, q11⟩ := h10
        obtain ⟨q11, q11n⟩ | ⟨q11z, q11n, w12, q11u, q11, q11T, q11H, q11r⟩ := q11
        · show e_Ok 20 elay ecode eI (d + 1) 346 (21, [(0, (1, 275))], [], w9) _
          have e13 := up83 q11
          have e133 := e13.2
          have u14 : w9 275 78 = w 275 78 := e13.1 275 78 (by omega)
          have u15 : w9 275 84 = w 275 84 := e13.1 275 84 (by omega)
          have u16 : w9 275 85 = w 275 85 := e13.1 275 85 (by omega)
          have u17 : w9 275 86 = w 275 86 := e13.1 275 86 (by omega)
          have u18 : w9 275 87 = w 275 87 := e13.1 275 87 (by omega)
          have u19 : w9 275 88 = w 275 88 := e13.1 275 88 (by omega)
          have u20 : w9 275 94 = w 275 94 := e13.1 275 94 (by omega)
          have f21 : e_fr (mEx (w 275 78) (w 275 94)) w w9 := e_fr.trans (e_fr.refl w) (fun c k g => e13.1 c k (fun g2 => g (by unfold mEx; omega)))
          have c22 := cSt.up hc q11
          have t23t := tkS.lin c22.2.2.2.1
          have t23f := e_Has.get c22.2.1 (c := 275) (k := 88) (lo := 0) (hi := 7) rfl (by decide)
          have wf24 : Hid (w9 275 88 = 0 → wfE w9 N (w9 275 78) (w9 275 94) nt P s (e)) := Hid.mk (fun z => by rw [u14, u20]; exact wfE.pr (hwH.out (by omega)) (prE.up q11))
          refine e_Ok.run (t' := (22, [(0, (1, 275))], [(1, 275)], w9)) 1 rfl ?_
          refine e_Ok.callV rfl (by omega) rfl rfl rfl rfl (c_327 (by omega) c22.1 c22.2.1 c22.2.2.1 hNr (t := w9 275 87) rfl (by omega)) (fun r25 w26 h27 => ?_)
          have p29 := tkS.pos c22.2.2.2.1 (by omega)
          obtain ⟨rfl, q28, q28s, q28t⟩ := h27
          have u30 : w26 275 78 = w9 275 78 := q28 275 78 (by unfold mTq; omega)
          have u31 : w26 275 83 = w9 275 83 := q28 275 83 (by unfold mTq; omega)
          have u32 : w26 275 88 = w9 275 88 := q28 275 88 (by unfold mTq; omega)
          have u33 : w26 275 94 = w9 275 94 := q28 275 94 (by unfold mTq; omega)
          have f34 : e_fr (mEx (w 275 78) (w 275 94)) w w26 := e_fr.trans f21 (e_fr.mono q28 (fun c k g => by unfold mTq at g; unfold mEx; omega))
          have c35 := cSt.tk c22 q28 q28s
          have t36t := tkS.lin c35.2.2.2.1
          have t36f := e_Has.get c35.2.1 (c := 275) (k := 88) (lo := 0) (hi := 7) rfl (by decide)
          have wf37 : Hid (w26 275 88 = 0 → wfE w26 N (w26 275 78) (w26 275 94) nt P s (e)) := Hid.mk (fun z => by rw [u30, u33]; exact wfE.pr (wf24.out (by omega)) (prE.tk q28))
          show e_Ok 20 elay ecode eI (d + 1) 346 (25, [(0, (1, 275))], [], w26) _
          refine e_Ok.run (t' := (26, [(0, (1, 275))], [(1, 275)], w26)) 1 rfl ?_
          refine e_Ok.callV rfl (by omega) rfl rfl rfl rfl ((hS (by omega) d rfl) w26 N nt s (e) P c35 hNr (by omega) (by omega) (Eq.trans (f34 275 81 (by unfold mEx; omega)) hs) (by omega) (wf37.out (by omega)) (by omega)) (fun r38 w40 h41 => ?_)
          obtain ⟨rfl, q42F, q42c, q42l, q42w⟩ := h41
          unfold cLn at q42l
          replace q42w : Hid (w40 275 88 = 0 → wfE w40 N (w40 275 78) (w40 275 94) nt P s (e + 1)) := Hid.mk (fun z => wfE.d (q42w z) (by omega))
          have f43 : e_fr (mEx (w 275 78) (w 275 94)) w w40 := e_fr.trans f34 (e_fr.mono q42F (fun c k g => by unfold mEx at g; unfold mEx; omega))
          have t44t := tkS.lin q42c.2.2.2.1
          have t44f := e_Has.get q42c.2.1 (c := 275) (k := 88) (lo := 0) (hi := 7) rfl (by decide)
          show e_Ok 20 elay ecode eI (d + 1) 346 (29, [(0, (1, 275))], [], w40) _
          refine e_Ok.run (t' := (31, [(0, (1, 275))], [(1, 275), (1, 275)], w40)) 2 rfl ?_
          refine e_Ok.getf (z := w40 275 83) rfl (el_o rfl) rfl rfl rfl (by omega) ?_
          refine e_Ok.run (t' := (35, [(0, (1, 275))], [(0, 1), (0, w40 275 83), (1, 275)], w40)) 1 rfl ?_
          refine e_Ok.sub' (z := w40 275 83 - 1) rfl (by omega) (by omega) ?_
          refine e_Ok.putf rfl (el_o rfl) rfl rfl ?_
          generalize hw45 : e_up w40 275 83 (w40 275 83 - 1) = w45
          have f46 : e_fr (mEx (w 275 78) (w 275 94)) w w45 := e_fr.up f43 hw45 (by unfold mEx; omega)
          have e47 := up83 hw45
          have e473 := e47.2
          have u48 : w45 275 78 = w40 275 78 := e47.1 275 78 (by omega)
          have u49 : w45 275 84 = w40 275 84 := e47.1 275 84 (by omega)
          have u50 : w45 275 85 = w40 275 85 := e47.1 275 85 (by omega)
          have u51 : w45 275 86 = w40 275 86 := e47.1 275 86 (by omega)
          have u52 : w45 275 87 = w40 275 87 := e47.1 275 87 (by omega)
          have u53 : w45 275 88 = w40 275 88 := e47.1 275 88 (by omega)
          have u54 : w45 275 94 = w40 275 94 := e47.1 275 94 (by omega)
          have c55 := cSt.up q42c hw45
          have t56t := tkS.lin c55.2.2.2.1
          have t56f := e_Has.get c55.2.1 (c := 275) (k := 88) (lo := 0) (hi := 7) rfl (by decide)
          have wf57 : Hid (w45 275 88 = 0 → wfE w45 N (w45 275 78) (w45 275 94) nt P s (e + 1)) := Hid.mk (fun z => by rw [u48, u54]; exact wfE.pr (q42w.out (by omega)) (prE.up hw45))
          refine e_Ok.run (t' := (43, [(0, (1, 275))], [(0, 0), (0, 9), (1, 275)], w45)) 3 rfl ?_
          refine e_Ok.callV rfl (by omega) rfl rfl rfl rfl (c_336 c55.1 (n := w45 275 78) rfl (by omega) (s := s) (Eq.trans (f46 275 81 (by unfold mEx; omega)) hs) (by omega)) (fun r58 w59 h60 => ?_)
          obtain ⟨rfl, q61⟩ := h60
          have u62 : w59 275 78 = w45 275 78 + 1 := q61.2.2.2.2
          have u63 : w59 275 83 = w45 275 83 := q61.1 275 83 (by omega)
          have u64 : w59 275 84 = w45 275 84 := q61.1 275 84 (by omega)
          have u65 : w59 275 85 = w45 275 85 := q61.1 275 85 (by omega)
          have u66 : w59 275 86 = w45 275 86 := q61.1 275 86 (by omega)
          have u67 : w59 275 87 = w45 275 87 := q61.1 275 87 (by omega)
          have u68 : w59 275 88 = w45 275 88 := q61.1 275 88 (by omega)
          have u69 : w59 275 94 = w45 275 94 := q61.1 275 94 (by omega)
          have f70 : e_fr (mEx (w 275 78) (w 275 94)) w w59 := e_fr.trans f46 (fun c k g => q61.1 c k (fun g2 => g (by unfold mEx; omega)))
          have c71 := cSt.em c55 q61 (by omega) (by omega) (by omega)
          have t72t := tkS.lin c71.2.2.2.1
          have t72f := e_Has.get c71.2.1 (c := 275) (k := 88) (lo := 0) (hi := 7) rfl (by decide)
          have wf73 : Hid (w59 275 88 = 0 → wfE w59 N (w59 275 78) (w59 275 94) nt P s (e + 1)) := Hid.mk (fun z => by rw [u62, u69]; exact wfE.d (wfE.em (wf57.out (by omega)) q61 (by decide) (by decide) (by decide) (by decide) (by unfold iOw; omega) (by rw [show nxD 9 (e + 1) = e + 1 from by unfold nxD; rw [if_neg (by omega), if_neg (by omega), if_neg (by omega)] <;> omega]; omega)) (by unfold nxD; rw [if_neg (by omega), if_neg (by omega), if_neg (by omega)] <;> omega))
          show e_Ok 20 elay ecode eI (d + 1) 346 (46, [(0, (1, 275))], [(0, w45 275 78)], w59) _
          refine e_Ok.run (t' := (242, [(0, (1, 275))], [], w59)) 2 rfl ?_
          refine e_Ok.rets rfl rfl ?_
          exact ⟨rfl, f70, c71, by unfold cLn; omega, wf73.out⟩
        · show e_Ok 20 elay ecode eI (d + 1) 346 (21, [(0, (1, 275))], [], w9) _
          have u74 : w12 275 78 = w 275 78 := q11 275 78 (by unfold mRf; omega)
          have u75 : w12 275 83 = w 275 83 := q11 275 83 (by unfold mRf; omega)
          have u76 : w12 275 84 = w 275 84 := q11 275 84 (by unfold mRf; omega)
          have u77 : w12 275 85 = w 275 85 := q11 275 85 (by unfold mRf; omega)
          have u78 : w12 275 86 = w 275 86 := q11 275 86 (by unfold mRf; omega)
          have u79 : w12 275 87 = w 275 87 := q11 275 87 (by unfold mRf; omega)
          have u80 : w12 275 94 = w 275 94 := q11 275 94 (by unfold mRf; omega)
          have f81 : e_fr (mEx (w 275 78) (w 275 94)) w w12 := e_fr.trans (e_fr.refl w) (e_fr.mono q11 (fun c k g => by unfold mRf at g; unfold mEx; omega))
          have c82 := cSt.rf hc q11 q11T q11H
          have t83t := tkS.lin c82.2.2.2.1
          have t83f := e_Has.get c82.2.1 (c := 275) (k := 88) (lo := 0) (hi := 7) rfl (by decide)
          have e84 := up83 q11u
          have e843 := e84.2
          have u85 : w9 275 78 = w12 275 78 := e84.1 275 78 (by omega)
          have u86 : w9 275 84 = w12 275 84 := e84.1 275 84 (by omega)
          have u87 : w9 275 85 = w12 275 85 := e84.1 275 85 (by omega)
          have u88 : w9 275 86 = w12 275 86 := e84.1 275 86 (by omega)
          have u89 : w9 275 87 = w12 275 87 := e84.1 275 87 (by omega)
          have u90 : w9 275 88 = w12 275 88 := e84.1 275 88 (by omega)
          have u91 : w9 275 94 = w12 275 94 := e84.1 275 94 (by omega)
          have f92 : e_fr (mEx (w 275 78) (w 275 94)) w w9 := e_fr.trans f81 (fun c k g => e84.1 c k (fun g2 => g (by unfold mEx; omega)))
          have c93 := cSt.up c82 q11u
          have t94t := tkS.lin c93.2.2.2.1
          have t94f := e_Has.get c93.2.1 (c := 275) (k := 88) (lo := 0) (hi := 7) rfl (by decide)
          refine e_Ok.run (t' := (22, [(0, (1, 275))], [(1, 275)], w9)) 1 rfl ?_
          refine e_Ok.callV rfl (by omega) rfl rfl rfl rfl (c_327 (by omega) c93.1 c93.2.1 c93.2.2.1 hNr (t := w9 275 87) rfl (by omega)) (fun r95 w101 h103 => ?_)
          obtain ⟨rfl, q104, q104s, q104t⟩ := h103
          have u105 : w101 275 78 = w9 275 78 := q104 275 78 (by unfold mTq; omega)
          have u106 : w101 275 83 = w9 275 83 := q104 275 83 (by unfold mTq; omega)
          have u107 : w101 275 88 = w9 275 88 := q104 275 88 (by unfold mTq; omega)
          have u108 : w101 275 94 = w9 275 94 := q104 275 94 (by unfold mTq; omega)
          have f109 : e_fr (mEx (w 275 78) (w 275 94)) w w101 := e_fr.trans f92 (e_fr.mono q104 (fun c k g => by unfold mTq at g; unfold mEx; omega))
          have c110 := cSt.tk c93 q104 q104s
          have t111t := tkS.lin c110.2.2.2.1
          have t111f := e_Has.get c110.2.1 (c := 275) (k := 88) (lo := 0) (hi := 7) rfl (by decide)
          show e_Ok 20 elay ecode eI (d + 1) 346 (25, [(0, (1, 275))], [], w101) _
          refine e_Ok.run (t' := (26, [(0, (1, 275))], [(1, 275)], w101)) 1 rfl ?_
          refine e_Ok.callV rfl (by omega) rfl rfl rfl rfl (c_346_0 (by omega) c110 (by omega)) (fun r112 w113 h114 => ?_)
          obtain ⟨rfl, rfl⟩ := h114
          show e_Ok 20 elay ecode eI (d + 1) 346 (29, [(0, (1, 275))], [], w101) _
          refine e_Ok.run (t' := (31, [(0, (1, 275))], [(1, 275), (1, 275)], w101)) 2 rfl ?_
          refine e_Ok.getf (z := w101 275 83) rfl (el_o rfl) rfl rfl rfl (by omega) ?_
          refine e_Ok.run (t' := (35, [(0, (1, 275))], [(0, 1), (0, w101 275 83), (1, 275)], w101)) 1 rfl ?_
          refine e_Ok.sub' (z := w101 275 83 - 1) rfl (by omega) (by omega) ?_
          refine e_Ok.putf rfl (el_o rfl) rfl rfl ?_
          generalize hw115 : e_up w101 275 83 (w101 275 83 - 1) = w115
          have f116 : e_fr (mEx (w 275 78) (w 275 94)) w w115 := e_fr.up f109 hw115 (by unfold mEx; omega)
          have e117 := up83 hw115
          have e1173 := e117.2
          have u118 : w115 275 78 = w101 275 78 := e117.1 275 78 (by omega)
          have u119 : w115 275 84 = w101 275 84 := e117.1 275 84 (by omega)
          have u120 : w115 275 85 = w101 275 85 := e117.1 275 85 (by omega)
          have u121 : w115 275 86 = w101 275 86 := e117.1 275 86 (by omega)
          have u122 : w115 275 87 = w101 275 87 := e117.1 275 87 (by omega)
          have u123 : w115 275 88 = w101 275 88 := e117.1 275 88 (by omega)
          have u124 : w115 275 94 = w101 275 94 := e117.1 275 94 (by omega)
          have c125 := cSt.up c110 hw115
          have t126t := tkS.lin c125.2.2.2.1
          have t126f := e_Has.get c125.2.1 (c := 275) (k := 88) (lo := 0) (hi := 7) rfl (by decide)
          refine e_Ok.run (t' := (43, [(0, (1, 275))], [(0, 0), (0, 9), (1, 275)], w115)) 3 rfl ?_
          refine e_Ok.callV rfl (by omega) rfl rfl rfl rfl (c_336 c125.1 (n := w115 275 78) rfl (by omega) (s := s) (Eq.trans (f116 275 81 (by unfold mEx; omega)) hs) (by omega)) (fun r127 w128 h129 => ?_)
          obtain ⟨rfl, q130⟩ := h129
          have u131 : w128 275 78 = w115 275 78 + 1 := q130.2.2.2.2
          have u132 : w128 275 83 = w115 275 83 := q130.1 275 83 (by omega)
          have u133 : w128 275 84 = w115 275 84 := q130.1 275 84 (by omega)
          have u134 : w128 275 85 = w115 275 85 := q130.1 275 85 (by omega)
          have u135 : w128 275 86 = w115 275 86 := q130.1 275 86 (by omega)
          have u136 : w128 275 87 = w115 275 87 := q130.1 275 87 (by omega)
          have u137 : w128 275 88 = w115 275 88 := q130.1 275 88 (by omega)
          have u138 : w128 275 94 = w115 275 94 := q130.1 275 94 (by omega)
          have f139 : e_fr (mEx (w 275 78) (w 275 94)) w w128 := e_fr.trans f116 (fun c k g => q130.1 c k (fun g2 => g (by unfold mEx; omega)))
          have c140 := cSt.em c125 q130 (by omega) (by omega) (by omega)
          have t141t := tkS.lin c140.2.2.2.1
          have t141f := e_Has.get c140.2.1 (c := 275) (k := 88) (lo := 0) (hi := 7) rfl (by decide)
          show e_Ok 20 elay ecode eI (d + 1) 346 (46, [(0, (1, 275))], [(0, w115 275 78)], w128) _
          refine e_Ok.run (t' := (242, [(0, (1, 275))], [], w128)) 2 rfl ?_
          refine e_Ok.rets rfl rfl ?_
          exact ⟨rfl, f139, c140, by unfold cLn; omega, (fun z => absurd z (by omega))⟩
    · show e_Ok 20 elay ecode eI (d + 1) 346 (14, [(0, (1, 275))], [(0, 0)], w) _
      refine e_Ok.if1 rfl (fun h142 => ?_) (fun h142 => ?_)
      · replace h142 : (0 : Int) = 0 := h142
        refine e_Ok.run (t' := (51, [(0, (1, 275))], [(1, 275)], w)) 1 rfl ?_
        refine e_Ok.getf (z := w 275 84) rfl (el_o rfl) rfl rfl rfl (by omega) ?_
        refine e_Ok.run (t' := (55, [(0, (1, 275))], [(0, 2), (0, w 275 84)], w)) 1 rfl ?_
        refine e_Ok.if2 rfl (fun h143 => ?_) (fun h143 => ?_)
        · replace h143 : (w 275 84 : Int) ≠ 2 := h143
          refine e_Ok.run (t' := (76, [(0, (1, 275))], [(1, 275)], w)) 1 rfl ?_
          refine e_Ok.getf (z := w 275 84) rfl (el_o rfl) rfl rfl rfl (by omega) ?_
          refine e_Ok.run (t' := (80, [(0, (1, 275))], [(0, 1), (0, w 275 84)], w)) 1 rfl ?_
          refine e_Ok.if2 rfl (fun h144 => ?_) (fun h144 => ?_)
          · replace h144 : (w 275 84 : Int) ≠ 1 := h144
            refine e_Ok.run (t' := (100, [(0, (1, 275))], [(0, 27), (1, 275)], w)) 2 rfl ?_
            refine e_Ok.callV rfl (by omega) rfl rfl rfl rfl (c_332 hc.1 (N := N) hc.2.2.2.1) (fun r145 w146 h147 => ?_)
            obtain ⟨z148, rfl, rfl, q149⟩ := h147
            obtain ⟨rfl, q149, q149b⟩ | ⟨rfl, q149n⟩ := q149
            · show e_Ok 20 elay ecode eI (d + 1) 346 (103, [(0, (1, 275))], [(0, 1)], w) _
              refine e_Ok.if1 rfl (fun h150 => ?_) (fun h150 => ?_)
              · replace h150 : (1 : Int) ≠ 0 := h150
                refine e_Ok.run (t' := (116, [(0, (1, 275))], [(1, 275)], w)) 1 rfl ?_
                refine e_Ok.getf (z := w 275 85) rfl (el_o rfl) rfl rfl rfl (by omega) ?_
                refine e_Ok.run (t' := (121, [(0, (1, 275))], [(0, 27), (0, w 275 85)], w)) 1 rfl ?_
                refine e_Ok.if2 rfl (fun h151 => ?_) (fun h151 => ?_)
                · replace h151 : (w 275 85 : Int) ≠ 27 := h151
                  exfalso; omega
                · replace h151 : (w 275 85 : Int) = 27 := by have q : ¬ ((w 275 85 : Int) ≠ 27) := h151; omega
                  refine e_Ok.run (t' := (131, [(1, (0, 3)), (0, (1, 275))], [(1, 275)], w)) 4 rfl ?_
                  refine e_Ok.callV rfl (by omega) rfl rfl rfl rfl (c_327 (by omega) hc.1 hc.2.1 hc.2.2.1 hNr (t := w 275 87) rfl (by omega)) (fun r152 w153 h154 => ?_)
                  have p156 := tkS.pos hc.2.2.2.1 (by omega)
                  have p157 := tkS.key hc.2.2.2.1 (by omega)
                  obtain ⟨rfl, q155, q155s, q155t⟩ := h154
                  have u158 : w153 275 78 = w 275 78 := q155 275 78 (by unfold mTq; omega)
                  have u159 : w153 275 83 = w 275 83 := q155 275 83 (by unfold mTq; omega)
                  have u160 : w153 275 88 = w 275 88 := q155 275 88 (by unfold mTq; omega)
                  have u161 : w153 275 94 = w 275 94 := q155 275 94 (by unfold mTq; omega)
                  have f162 : e_fr (mEx (w 275 78) (w 275 94)) w w153 := e_fr.trans (e_fr.refl w) (e_fr.mono q155 (fun c k g => by unfold mTq at g; unfold mEx; omega))
                  have c163 := cSt.tk hc q155 q155s
                  have t164t := tkS.lin c163.2.2.2.1
                  have t164f := e_Has.get c163.2.1 (c := 275) (k := 88) (lo := 0) (hi := 7) rfl (by decide)
                  have wf165 : Hid (w153 275 88 = 0 → wfE w153 N (w153 275 78) (w153 275 94) nt P s (e)) := Hid.mk (fun z => by rw [u158, u161]; exact wfE.pr (hwH.out (by omega)) (prE.tk q155))
                  show e_Ok 20 elay ecode eI (d + 1) 346 (134, [(1, (0, 3)), (0, (1, 275))], [], w153) _
                  refine e_Ok.run (t' := (135, [(1, (0, 3)), (0, (1, 275))], [(1, 275)], w153)) 1 rfl ?_
                  refine e_Ok.callV rfl (by omega) rfl rfl rfl rfl ((hB d rfl) w153 N nt s (e) P c163 hNr (by omega) (by omega) (Eq.trans (f162 275 81 (by unfold mEx; omega)) hs) (by omega) (wf165.out (by omega)) (by omega)) (fun r166 w167 h168 => ?_)
                  obtain ⟨rfl, q169F, q169c, q169l, q169w⟩ := h168
                  unfold cLn at q169l
                  replace q169w : Hid (w167 275 88 = 0 → wfE w167 N (w167 275 78) (w167 275 94) nt P s (e + 1)) := Hid.mk (fun z => wfE.d (q169w z) (by omega))
                  have f170 : e_fr (mEx (w 275 78) (w 275 94)) w w167 := e_fr.trans f162 (e_fr.mono q169F (fun c k g => by unfold mEx at g; unfold mEx; omega))
                  have t171t := tkS.lin q169c.2.2.2.1
                  have t171f := e_Has.get q169c.2.1 (c := 275) (k := 88) (lo := 0) (hi := 7) rfl (by decide)
                  show e_Ok 20 elay ecode eI (d + 1) 346 (138, [(1, (0, 3)), (0, (1, 275))], [], w167) _
                  refine e_Ok.run (t' := (141, [(1, (0, 3)), (0, (1, 275))], [(0, 0), (0, 3), (1, 275)], w167)) 3 rfl ?_
                  refine e_Ok.callV rfl (by omega) rfl rfl rfl rfl (c_336 q169c.1 (n := w167 275 78) rfl (by omega) (s := s) (Eq.trans (f170 275 81 (by unfold mEx; omega)) hs) (by omega)) (fun r172 w173 h174 => ?_)
                  obtain ⟨rfl, q175⟩ := h174
                  have u176 : w173 275 78 = w167 275 78 + 1 := q175.2.2.2.2
                  have u177 : w173 275 83 = w167 275 83 := q175.1 275 83 (by omega)
                  have u178 : w173 275 84 = w167 275 84 := q175.1 275 84 (by omega)
                  have u179 : w173 275 85 = w167 275 85 := q175.1 275 85 (by omega)
                  have u180 : w173 275 86 = w167 275 86 := q175.1 275 86 (by omega)
                  have u181 : w173 275 87 = w167 275 87 := q175.1 275 87 (by omega)
                  have u182 : w173 275 88 = w167 275 88 := q175.1 275 88 (by omega)
                  have u183 : w173 275 94 = w167 275 94 := q175.1 275 94 (by omega)
                  have f184 : e_fr (mEx (w 275 78) (w 275 94)) w w173 := e_fr.trans f170 (fun c k g => q175.1 c k (fun g2 => g (by unfold mEx; omega)))
                  have c185 := cSt.em q169c q175 (by omega) (by omega) (by omega)
                  have t186t := tkS.lin c185.2.2.2.1
                  have t186f := e_Has.get c185.2.1 (c := 275) (k := 88) (lo := 0) (hi := 7) rfl (by decide)
                  have wf187 : Hid (w173 275 88 = 0 → wfE w173 N (w173 275 78) (w173 275 94) nt P s (e + 1)) := Hid.mk (fun z => by rw [u176, u183]; exact wfE.d (wfE.em (q169w.out (by omega)) q175 (by decide) (by decide) (by decide) (by decide) (by unfold iOw; omega) (by rw [show nxD 3 (e + 1) = e + 1 from by unfold nxD; rw [if_neg (by omega), if_neg (by omega), if_neg (by omega)] <;> omega]; omega)) (by unfold nxD; rw [if_neg (by omega), if_neg (by omega), if_neg (by omega)] <;> omega))
                  show e_Ok 20 elay ecode eI (d + 1) 346 (144, [(1, (0, 3)), (0, (1, 275))], [(0, w167 275 78)], w173) _
                  refine e_Ok.run (t' := (242, [(1, (0, 3)), (0, (1, 275))], [], w173)) 2 rfl ?_
                  refine e_Ok.rets rfl rfl ?_
                  exact ⟨rfl, f184, c185, by unfold cLn; omega, wf187.out⟩
              · replace h150 : (1 : Int) = 0 := by have q : ¬ ((1 : Int) ≠ 0) := h150; omega
                exfalso; omega
            · show e_Ok 20 elay ecode eI (d + 1) 346 (103, [(0, (1, 275))], [(0, 0)], w) _
              refine e_Ok.if1 rfl (fun h188 => ?_) (fun h188 => ?_)
              · replace h188 : (0 : Int) ≠ 0 := h188
                exfalso; omega
              · replace h188 : (0 : Int) = 0 := by have q : ¬ ((0 : Int) ≠ 0) := h188; omega
                refine e_Ok.run (t' := (109, [(0, (1, 275))], [(0, 28), (1, 275)], w)) 2 rfl ?_
                refine e_Ok.callV rfl (by omega) rfl rfl rfl rfl (c_332 hc.1 (N := N) hc.2.2.2.1) (fun r189 w190 h191 => ?_)
                obtain ⟨z192, rfl, rfl, q193⟩ := h191
                obtain ⟨rfl, q193, q193b⟩ | ⟨rfl, q193n⟩ := q193
                · show e_Ok 20 elay ecode eI (d + 1) 346 (112, [(0, (1, 275))], [(0, 1)], w) _
                  refine e_Ok.if1 rfl (fun h194 => ?_) (fun h194 => ?_)
                  · replace h194 : (1 : Int) = 0 := h194
                    exfalso; omega
                  · replace h194 : (1 : Int) ≠ 0 := by have q : ¬ ((1 : Int) = 0) := h194; omega
                    refine e_Ok.run (t' := (116, [(0, (1, 275))], [(1, 275)], w)) 1 rfl ?_
                    refine e_Ok.getf (z := w 275 85) rfl (el_o rfl) rfl rfl rfl (by omega) ?_
                    refine e_Ok.run (t' := (121, [(0, (1, 275))], [(0, 27), (0, w 275 85)], w)) 1 rfl ?_
                    refine e_Ok.if2 rfl (fun h195 => ?_) (fun h195 => ?_)
                    · replace h195 : (w 275 85 : Int) ≠ 27 := h195
                      refine e_Ok.run (t' := (131, [(1, (0, 4)), (0, (1, 275))], [(1, 275)], w)) 3 rfl ?_
                      refine e_Ok.callV rfl (by omega) rfl rfl rfl rfl (c_327 (by omega) hc.1 hc.2.1 hc.2.2.1 hNr (t := w 275 87) rfl (by omega)) (fun r196 w197 h198 => ?_)
                      have p200 := tkS.pos hc.2.2.2.1 (by omega)
                      have p201 := tkS.key hc.2.2.2.1 (by omega)
                      obtain ⟨rfl, q199, q199s, q199t⟩ := h198
                      have u202 : w197 275 78 = w 275 78 := q199 275 78 (by unfold mTq; omega)
                      have u203 : w197 275 83 = w 275 83 := q199 275 83 (by unfold mTq; omega)
                      have u204 : w197 275 88 = w 275 88 := q199 275 88 (by unfold mTq; omega)
                      have u205 : w197 275 94 = w 275 94 := q199 275 94 (by unfold mTq; omega)
                      have f206 : e_fr (mEx (w 275 78) (w 275 94)) w w197 := e_fr.trans (e_fr.refl w) (e_fr.mono q199 (fun c k g => by unfold mTq at g; unfold mEx; omega))
                      have c207 := cSt.tk hc q199 q199s
                      have t208t := tkS.lin c207.2.2.2.1
                      have t208f := e_Has.get c207.2.1 (c := 275) (k := 88) (lo := 0) (hi := 7) rfl (by decide)
                      have wf209 : Hid (w197 275 88 = 0 → wfE w197 N (w197 275 78) (w197 275 94) nt P s (e)) := Hid.mk (fun z => by rw [u202, u205]; exact wfE.pr (hwH.out (by omega)) (prE.tk q199))
                      show e_Ok 20 elay ecode eI (d + 1) 346 (134, [(1, (0, 4)), (0, (1, 275))], [], w197) _
                      refine e_Ok.run (t' := (135, [(1, (0, 4)), (0, (1, 275))], [(1, 275)], w197)) 1 rfl ?_
                      refine e_Ok.callV rfl (by omega) rfl rfl rfl rfl ((hB d rfl) w197 N nt s (e) P c207 hNr (by omega) (by omega) (Eq.trans (f206 275 81 (by unfold mEx; omega)) hs) (by omega) (wf209.out (by omega)) (by omega)) (fun r210 w211 h212 => ?_)
                      obtain ⟨rfl, q213F, q213c, q213l, q213w⟩ := h212
                      unfold cLn at q213l
                      replace q213w : Hid (w211 275 88 = 0 → wfE w211 N (w211 275 78) (w211 275 94) nt P s (e + 1)) := Hid.mk (fun z => wfE.d (q213w z) (by omega))
                      have f214 : e_fr (mEx (w 275 78) (w 275 94)) w w211 := e_fr.trans f206 (e_fr.mono q213F (fun c k g => by unfold mEx at g; unfold mEx; omega))
                      have t215t := tkS.lin q213c.2.2.2.1
                      have t215f := e_Has.get q213c.2.1 (c := 275) (k := 88) (lo := 0) (hi := 7) rfl (by decide)
                      show e_Ok 20 elay ecode eI (d + 1) 346 (138, [(1, (0, 4)), (0, (1, 275))], [], w211) _
                      refine e_Ok.run (t' := (141, [(1, (0, 4)), (0, (1, 275))], [(0, 0), (0, 4), (1, 275)], w211)) 3 rfl ?_
                      refine e_Ok.callV rfl (by omega) rfl rfl rfl rfl (c_336 q213c.1 (n := w211 275 78) rfl (by omega) (s := s) (Eq.trans (f214 275 81 (by unfold mEx; omega)) hs) (by omega)) (fun r216 w217 h218 => ?_)
                      obtain ⟨rfl, q219⟩ := h218
                      have u220 : w217 275 78 = w211 275 78 + 1 := q219.2.2.2.2
                      have u221 : w217 275 83 = w211 275 83 := q219.1 275 83 (by omega)
                      have u222 : w217 275 84 = w211 275 84 := q219.1 275 84 (by omega)
                      have u223 : w217 275 85 = w211 275 85 := q219.1 275 85 (by omega)
                      have u224 : w217 275 86 = w211 275 86 := q219.1 275 86 (by omega)
                      have u225 : w217 275 87 = w211 275 87 := q219.1 275 87 (by omega)
                      have u226 : w217 275 88 = w211 275 88 := q219.1 275 88 (by omega)
                      have u227 : w217 275 94 = w211 275 94 := q219.1 275 94 (by omega)
                      have f228 : e_fr (mEx (w 275 78) (w 275 94)) w w217 := e_fr.trans f214 (fun c k g => q219.1 c k (fun g2 => g (by unfold mEx; omega)))
                      have c229 := cSt.em q213c q219 (by omega) (by omega) (by omega)
                      have t230t := tkS.lin c229.2.2.2.1
                      have t230f := e_Has.get c229.2.1 (c := 275) (k := 88) (lo := 0) (hi := 7) rfl (by decide)
                      have wf231 : Hid (w217 275 88 = 0 → wfE w217 N (w217 275 78) (w217 275 94) nt P s (e + 1)) := Hid.mk (fun z => by rw [u220, u227]; exact wfE.d (wfE.em (q213w.out (by omega)) q219 (by decide) (by decide) (by decide) (by decide) (by unfold iOw; omega) (by rw [show nxD 4 (e + 1) = e + 1 from by unfold nxD; rw [if_neg (by omega), if_neg (by omega), if_neg (by omega)] <;> omega]; omega)) (by unfold nxD; rw [if_neg (by omega), if_neg (by omega), if_neg (by omega)] <;> omega))
                      show e_Ok 20 elay ecode eI (d + 1) 346 (144, [(1, (0, 4)), (0, (1, 275))], [(0, w211 275 78)], w217) _
                      refine e_Ok.run (t' := (242, [(1, (0, 4)), (0, (1, 275))], [], w217)) 2 rfl ?_
                      refine e_Ok.rets rfl rfl ?_
                      exact ⟨rfl, f228, c229, by unfold cLn; omega, wf231.out⟩
                    · replace h195 : (w 275 85 : Int) = 27 := by have q : ¬ ((w 275 85 : Int) ≠ 27) := h195; omega
                      exfalso; omega
                · show e_Ok 20 elay ecode eI (d + 1) 346 (112, [(0, (1, 275))], [(0, 0)], w) _
                  refine e_Ok.if1 rfl (fun h232 => ?_) (fun h232 => ?_)
                  · replace h232 : (0 : Int) = 0 := h232
                    refine e_Ok.run (t' := (151, [(0, (1, 275))], [(0, 40), (1, 275)], w)) 2 rfl ?_
                    refine e_Ok.callV rfl (by omega) rfl rfl rfl rfl (c_331 hc.1 (N := N) hc.2.2.2.1) (fun r233 w234 h235 => ?_)
                    obtain ⟨z236, rfl, rfl, q237⟩ := h235
                    obtain ⟨rfl, q237, q237b⟩ | ⟨rfl, q237n⟩ := q237
                    · show e_Ok 20 elay ecode eI (d + 1) 346 (154, [(0, (1, 275))], [(0, 1)], w) _
                      refine e_Ok.if1 rfl (fun h238 => ?_) (fun h238 => ?_)
                      · replace h238 : (1 : Int) = 0 := h238
                        exfalso; omega
                      · replace h238 : (1 : Int) ≠ 0 := by have q : ¬ ((1 : Int) = 0) := h238; omega
                        refine e_Ok.run (t' := (158, [(0, (1, 275))], [(1, 275)], w)) 1 rfl ?_
                        refine e_Ok.callV rfl (by omega) rfl rfl rfl rfl ((hB d rfl) w N nt s (e) P hc hNr (by omega) (by omega) hs (by omega) (hwH.out (by omega)) (by omega)) (fun r239 w240 h241 => ?_)
                        obtain ⟨rfl, q242F, q242c, q242l, q242w⟩ := h241
                        unfold cLn at q242l
                        replace q242w : Hid (w240 275 88 = 0 → wfE w240 N (w240 275 78) (w240 275 94) nt P s (e + 1)) := Hid.mk (fun z => wfE.d (q242w z) (by omega))
                        have f243 : e_fr (mEx (w 275 78) (w 275 94)) w w240 := e_fr.trans (e_fr.refl w) (e_fr.mono q242F (fun c k g => by unfold mEx at g; unfold mEx; omega))
                        have t244t := tkS.lin q242c.2.2.2.1
                        have t244f := e_Has.get q242c.2.1 (c := 275) (k := 88) (lo := 0) (hi := 7) rfl (by decide)
                        show e_Ok 20 elay ecode eI (d + 1) 346 (161, [(0, (1, 275))], [], w240) _
                        refine e_Ok.run (t' := (242, [(0, (1, 275))], [], w240)) 1 rfl ?_
                        refine e_Ok.rets rfl rfl ?_
                        exact ⟨rfl, f243, q242c, by unfold cLn; omega, q242w.out⟩
                    · show e_Ok 20 elay ecode eI (d + 1) 346 (154, [(0, (1, 275))], [(0, 0)], w) _
                      refine e_Ok.if1 rfl (fun h245 => ?_) (fun h245 => ?_)
                      · replace h245 : (0 : Int) = 0 := h245
                        refine e_Ok.run (t' := (165, [(0, (1, 275))], [(1, 275)], w)) 1 rfl ?_
                        refine e_Ok.getf (z := w 275 84) rfl (el_o rfl) rfl rfl rfl (by omega) ?_
                        refine e_Ok.run (t' := (169, [(0, (1, 275))], [(0, 4), (0, w 275 84)], w)) 1 rfl ?_
                        refine e_Ok.if2 rfl (fun h246 => ?_) (fun h246 => ?_)
                        · replace h246 : (w 275 84 : Int) ≠ 4 := h246
                          refine e_Ok.run (t' := (239, [(0, (1, 275))], [(0, 2), (1, 275)], w)) 2 rfl ?_
                          refine e_Ok.callV rfl (by omega) rfl rfl rfl rfl (c_333 hc.1 hc.2.1 hc.2.2.1 hNr hc.2.2.2.1 (by omega)) (fun r247 w248 h249 => ?_)
                          obtain ⟨rfl, q250⟩ := h249
                          obtain ⟨-, q250x⟩ | ⟨-, q250, q250T, q250H, q250b⟩ := q250
                          · exact absurd (by omega) q250x
                          have u251 : w248 275 78 = w 275 78 := q250 275 78 (by unfold mRf; omega)
                          have u252 : w248 275 83 = w 275 83 := q250 275 83 (by unfold mRf; omega)
                          have u253 : w248 275 84 = w 275 84 := q250 275 84 (by unfold mRf; omega)
                          have u254 : w248 275 85 = w 275 85 := q250 275 85 (by unfold mRf; omega)
                          have u255 : w248 275 86 = w 275 86 := q250 275 86 (by unfold mRf; omega)
                          have u256 : w248 275 87 = w 275 87 := q250 275 87 (by unfold mRf; omega)
                          have u257 : w248 275 94 = w 275 94 := q250 275 94 (by unfold mRf; omega)
                          have f258 : e_fr (mEx (w 275 78) (w 275 94)) w w248 := e_fr.trans (e_fr.refl w) (e_fr.mono q250 (fun c k g => by unfold mRf at g; unfold mEx; omega))
                          have c259 := cSt.rf hc q250 q250T q250H
                          have t260t := tkS.lin c259.2.2.2.1
                          have t260f := e_Has.get c259.2.1 (c := 275) (k := 88) (lo := 0) (hi := 7) rfl (by decide)
                          show e_Ok 20 elay ecode eI (d + 1) 346 (242, [(0, (1, 275))], [], w248) _
                          refine e_Ok.rets rfl rfl ?_
                          exact ⟨rfl, f258, c259, by unfold cLn; omega, (fun z => absurd z (by omega))⟩
                        · replace h246 : (w 275 84 : Int) = 4 := by have q : ¬ ((w 275 84 : Int) ≠ 4) := h246; omega
                          refine e_Ok.run (t' := (173, [(0, (1, 275))], [(1, 275)], w)) 1 rfl ?_
                          refine e_Ok.getf (z := w 275 85) rfl (el_o rfl) rfl rfl rfl (by omega) ?_
                          refine e_Ok.run (t' := (178, [(0, (1, 275))], [(0, 29), (0, w 275 85)], w)) 1 rfl ?_
                          refine e_Ok.if2 rfl (fun h261 => ?_) (fun h261 => ?_)
                          · replace h261 : (w 275 85 : Int) < 29 := h261
                            refine e_Ok.run (t' := (239, [(0, (1, 275))], [(0, 2), (1, 275)], w)) 2 rfl ?_
                            refine e_Ok.callV rfl (by omega) rfl rfl rfl rfl (c_333 hc.1 hc.2.1 hc.2.2.1 hNr hc.2.2.2.1 (by omega)) (fun r262 w263 h264 => ?_)
                            obtain ⟨rfl, q265⟩ := h264
                            obtain ⟨-, q265x⟩ | ⟨-, q265, q265T, q265H, q265b⟩ := q265
                            · exact absurd (by omega) q265x
                            have u266 : w263 275 78 = w 275 78 := q265 275 78 (by unfold mRf; omega)
                            have u267 : w263 275 83 = w 275 83 := q265 275 83 (by unfold mRf; omega)
                            have u268 : w263 275 84 = w 275 84 := q265 275 84 (by unfold mRf; omega)
                            have u269 : w263 275 85 = w 275 85 := q265 275 85 (by unfold mRf; omega)
                            have u270 : w263 275 86 = w 275 86 := q265 275 86 (by unfold mRf; omega)
                            have u271 : w263 275 87 = w 275 87 := q265 275 87 (by unfold mRf; omega)
                            have u272 : w263 275 94 = w 275 94 := q265 275 94 (by unfold mRf; omega)
                            have f273 : e_fr (mEx (w 275 78) (w 275 94)) w w263 := e_fr.trans (e_fr.refl w) (e_fr.mono q265 (fun c k g => by unfold mRf at g; unfold mEx; omega))
                            have c274 := cSt.rf hc q265 q265T q265H
                            have t275t := tkS.lin c274.2.2.2.1
                            have t275f := e_Has.get c274.2.1 (c := 275) (k := 88) (lo := 0) (hi := 7) rfl (by decide)
                            show e_Ok 20 elay ecode eI (d + 1) 346 (242, [(0, (1, 275))], [], w263) _
                            refine e_Ok.rets rfl rfl ?_
                            exact ⟨rfl, f273, c274, by unfold cLn; omega, (fun z => absurd z (by omega))⟩
                          · replace h261 : (w 275 85 : Int) ≥ 29 := by have q : ¬ ((w 275 85 : Int) < 29) := h261; omega
                            refine e_Ok.run (t' := (183, [(0, (1, 275))], [(1, 275), (1, 275)], w)) 2 rfl ?_
                            refine e_Ok.getf (z := w 275 85) rfl (el_o rfl) rfl rfl rfl (by omega) ?_
                            refine e_Ok.run (t' := (188, [(0, (1, 275))], [(0, 29), (0, w 275 85), (1, 275)], w)) 1 rfl ?_
                            refine e_Ok.if2 rfl (fun h276 => ?_) (fun h276 => ?_)
                            · replace h276 : (w 275 85 : Int) ≠ 29 := h276
                              refine e_Ok.run (t' := (196, [(0, (1, 275))], [(1, 275), (1, 275)], w)) 1 rfl ?_
                              refine e_Ok.getf (z := w 275 85) rfl (el_o rfl) rfl rfl rfl (by omega) ?_
                              refine e_Ok.run (t' := (201, [(0, (1, 275))], [(0, 30), (0, w 275 85), (1, 275)], w)) 1 rfl ?_
                              refine e_Ok.if2 rfl (fun h277 => ?_) (fun h277 => ?_)
                              · replace h277 : (w 275 85 : Int) ≠ 30 := h277
                                refine e_Ok.run (t' := (210, [(0, (1, 275))], [(1, 275), (1, 275)], w)) 1 rfl ?_
                                refine e_Ok.getf (z := w 275 85) rfl (el_o rfl) rfl rfl rfl (by omega) ?_
                                refine e_Ok.run (t' := (215, [(0, (1, 275))], [(0, 31), (0, w 275 85), (1, 275)], w)) 1 rfl ?_
                                refine e_Ok.if2 rfl (fun h278 => ?_) (fun h278 => ?_)
                                · replace h278 : (w 275 85 : Int) ≠ 31 := h278
                                  refine e_Ok.run (t' := (226, [(0, (1, 275))], [(0, 0), (0, 8), (1, 275)], w)) 2 rfl ?_
                                  refine e_Ok.callV rfl (by omega) rfl rfl rfl rfl (c_336 hc.1 (n := w 275 78) rfl (by omega) (s := s) hs (by omega)) (fun r279 w280 h281 => ?_)
                                  obtain ⟨rfl, q282⟩ := h281
                                  have u283 : w280 275 78 = w 275 78 + 1 := q282.2.2.2.2
                                  have u284 : w280 275 83 = w 275 83 := q282.1 275 83 (by omega)
                                  have u285 : w280 275 84 = w 275 84 := q282.1 275 84 (by omega)
                                  have u286 : w280 275 85 = w 275 85 := q282.1 275 85 (by omega)
                                  have u287 : w280 275 86 = w 275 86 := q282.1 275 86 (by omega)
                                  have u288 : w280 275 87 = w 275 87 := q282.1 275 87 (by omega)
                                  have u289 : w280 275 88 = w 275 88 := q282.1 275 88 (by omega)
                                  have u290 : w280 275 94 = w 275 94 := q282.1 275 94 (by omega)
                                  have f291 : e_fr (mEx (w 275 78) (w 275 94)) w w280 := e_fr.trans (e_fr.refl w) (fun c k g => q282.1 c k (fun g2 => g (by unfold mEx; omega)))
                                  have c292 := cSt.em hc q282 (by omega) (by omega) (by omega)
                                  have t293t := tkS.lin c292.2.2.2.1
                                  have t293f := e_Has.get c292.2.1 (c := 275) (k := 88) (lo := 0) (hi := 7) rfl (by decide)
                                  have wf294 : Hid (w280 275 88 = 0 → wfE w280 N (w280 275 78) (w280 275 94) nt P s (e + 1)) := Hid.mk (fun z => by rw [u283, u290]; exact wfE.d (wfE.em (hwH.out (by omega)) q282 (by decide) (by decide) (by decide) (by decide) (by unfold iOw; omega) (by rw [show nxD 8 (e) = e + 1 from by unfold nxD; rw [if_pos (by omega)] <;> omega]; omega)) (by unfold nxD; rw [if_pos (by omega)] <;> omega))
                                  show e_Ok 20 elay ecode eI (d + 1) 346 (229, [(0, (1, 275))], [(0, w 275 78)], w280) _
                                  refine e_Ok.run (t' := (231, [(0, (1, 275))], [(1, 275)], w280)) 2 rfl ?_
                                  refine e_Ok.callV rfl (by omega) rfl rfl rfl rfl (c_327 (by omega) c292.1 c292.2.1 c292.2.2.1 hNr (t := w280 275 87) rfl (by omega)) (fun r295 w296 h297 => ?_)
                                  have p299 := tkS.pos c292.2.2.2.1 (by omega)
                                  have p300 := tkS.key c292.2.2.2.1 (by omega)
                                  obtain ⟨rfl, q298, q298s, q298t⟩ := h297
                                  have u301 : w296 275 78 = w280 275 78 := q298 275 78 (by unfold mTq; omega)
                                  have u302 : w296 275 83 = w280 275 83 := q298 275 83 (by unfold mTq; omega)
                                  have u303 : w296 275 88 = w280 275 88 := q298 275 88 (by unfold mTq; omega)
                                  have u304 : w296 275 94 = w280 275 94 := q298 275 94 (by unfold mTq; omega)
                                  have f305 : e_fr (mEx (w 275 78) (w 275 94)) w w296 := e_fr.trans f291 (e_fr.mono q298 (fun c k g => by unfold mTq at g; unfold mEx; omega))
                                  have c306 := cSt.tk c292 q298 q298s
                                  have t307t := tkS.lin c306.2.2.2.1
                                  have t307f := e_Has.get c306.2.1 (c := 275) (k := 88) (lo := 0) (hi := 7) rfl (by decide)
                                  have wf308 : Hid (w296 275 88 = 0 → wfE w296 N (w296 275 78) (w296 275 94) nt P s (e + 1)) := Hid.mk (fun z => by rw [u301, u304]; exact wfE.pr (wf294.out (by omega)) (prE.tk q298))
                                  show e_Ok 20 elay ecode eI (d + 1) 346 (234, [(0, (1, 275))], [], w296) _
                                  refine e_Ok.run (t' := (242, [(0, (1, 275))], [], w296)) 1 rfl ?_
                                  refine e_Ok.rets rfl rfl ?_
                                  exact ⟨rfl, f305, c306, by unfold cLn; omega, wf308.out⟩
                                · replace h278 : (w 275 85 : Int) = 31 := by have q : ¬ ((w 275 85 : Int) ≠ 31) := h278; omega
                                  refine e_Ok.run (t' := (226, [(0, (1, 275))], [(0, 0), (0, 7), (1, 275)], w)) 3 rfl ?_
                                  refine e_Ok.callV rfl (by omega) rfl rfl rfl rfl (c_336 hc.1 (n := w 275 78) rfl (by omega) (s := s) hs (by omega)) (fun r309 w310 h311 => ?_)
                                  obtain ⟨rfl, q312⟩ := h311
                                  have u313 : w310 275 78 = w 275 78 + 1 := q312.2.2.2.2
                                  have u314 : w310 275 83 = w 275 83 := q312.1 275 83 (by omega)
                                  have u315 : w310 275 84 = w 275 84 := q312.1 275 84 (by omega)
                                  have u316 : w310 275 85 = w 275 85 := q312.1 275 85 (by omega)
                                  have u317 : w310 275 86 = w 275 86 := q312.1 275 86 (by omega)
                                  have u318 : w310 275 87 = w 275 87 := q312.1 275 87 (by omega)
                                  have u319 : w310 275 88 = w 275 88 := q312.1 275 88 (by omega)
                                  have u320 : w310 275 94 = w 275 94 := q312.1 275 94 (by omega)
                                  have f321 : e_fr (mEx (w 275 78) (w 275 94)) w w310 := e_fr.trans (e_fr.refl w) (fun c k g => q312.1 c k (fun g2 => g (by unfold mEx; omega)))
                                  have c322 := cSt.em hc q312 (by omega) (by omega) (by omega)
                                  have t323t := tkS.lin c322.2.2.2.1
                                  have t323f := e_Has.get c322.2.1 (c := 275) (k := 88) (lo := 0) (hi := 7) rfl (by decide)
                                  have wf324 : Hid (w310 275 88 = 0 → wfE w310 N (w310 275 78) (w310 275 94) nt P s (e + 1)) := Hid.mk (fun z => by rw [u313, u320]; exact wfE.d (wfE.em (hwH.out (by omega)) q312 (by decide) (by decide) (by decide) (by decide) (by unfold iOw; omega) (by rw [show nxD 7 (e) = e + 1 from by unfold nxD; rw [if_pos (by omega)] <;> omega]; omega)) (by unfold nxD; rw [if_pos (by omega)] <;> omega))
                                  show e_Ok 20 elay ecode eI (d + 1) 346 (229, [(0, (1, 275))], [(0, w 275 78)], w310) _
                                  refine e_Ok.run (t' := (231, [(0, (1, 275))], [(1, 275)], w310)) 2 rfl ?_
                                  refine e_Ok.callV rfl (by omega) rfl rfl rfl rfl (c_327 (by omega) c322.1 c322.2.1 c322.2.2.1 hNr (t := w310 275 87) rfl (by omega)) (fun r325 w326 h327 => ?_)
                                  have p331 := tkS.pos c322.2.2.2.1 (by omega)
                                  have p332 := tkS.key c322.2.2.2.1 (by omega)
                                  obtain ⟨rfl, q329, q329s, q329t⟩ := h327
                                  have u333 : w326 275 78 = w310 275 78 := q329 275 78 (by unfold mTq; omega)
                                  have u334 : w326 275 83 = w310 275 83 := q329 275 83 (by unfold mTq; omega)
                                  have u335 : w326 275 88 = w310 275 88 := q329 275 88 (by unfold mTq; omega)
                                  have u336 : w326 275 94 = w310 275 94 := q329 275 94 (by unfold mTq; omega)
                                  have f337 : e_fr (mEx (w 275 78) (w 275 94)) w w326 := e_fr.trans f321 (e_fr.mono q329 (fun c k g => by unfold mTq at g; unfold mEx; omega))
                                  have c339 := cSt.tk c322 q329 q329s
                                  have t340t := tkS.lin c339.2.2.2.1
                                  have t340f := e_Has.get c339.2.1 (c := 275) (k := 88) (lo := 0) (hi := 7) rfl (by decide)
                                  have wf341 : Hid (w326 275 88 = 0 → wfE w326 N (w326 275 78) (w326 275 94) nt P s (e + 1)) := Hid.mk (fun z => by rw [u333, u336]; exact wfE.pr (wf324.out (by omega)) (prE.tk q329))
                                  show e_Ok 20 elay ecode eI (d + 1) 346 (234, [(0, (1, 275))], [], w326) _
                                  refine e_Ok.run (t' := (242, [(0, (1, 275))], [], w326)) 1 rfl ?_
                                  refine e_Ok.rets rfl rfl ?_
                                  exact ⟨rfl, f337, c339, by unfold cLn; omega, wf341.out⟩
                              · replace h277 : (w 275 85 : Int) = 30 := by have q : ¬ ((w 275 85 : Int) ≠ 30) := h277; omega
                                refine e_Ok.run (t' := (226, [(0, (1, 275))], [(0, 0), (0, 6), (1, 275)], w)) 3 rfl ?_
                                refine e_Ok.callV rfl (by omega) rfl rfl rfl rfl (c_336 hc.1 (n := w 275 78) rfl (by omega) (s := s) hs (by omega)) (fun r342 w343 h344 => ?_)
                                obtain ⟨rfl, q345⟩ := h344
                                have u346 : w343 275 78 = w 275 78 + 1 := q345.2.2.2.2
                                have u347 : w343 275 83 = w 275 83 := q345.1 275 83 (by omega)
                                have u348 : w343 275 84 = w 275 84 := q345.1 275 84 (by omega)
                                have u349 : w343 275 85 = w 275 85 := q345.1 275 85 (by omega)
                                have u350 : w343 275 86 = w 275 86 := q345.1 275 86 (by omega)
                                have u351 : w343 275 87 = w 275 87 := q345.1 275 87 (by omega)
                                have u352 : w343 275 88 = w 275 88 := q345.1 275 88 (by omega)
                                have u353 : w343 275 94 = w 275 94 := q345.1 275 94 (by omega)
                                have f354 : e_fr (mEx (w 275 78) (w 275 94)) w w343 := e_fr.trans (e_fr.refl w) (fun c k g => q345.1 c k (fun g2 => g (by unfold mEx; omega)))
                                have c355 := cSt.em hc q345 (by omega) (by omega) (by omega)
                                have t356t := tkS.lin c355.2.2.2.1
                                have t356f := e_Has.get c355.2.1 (c := 275) (k := 88) (lo := 0) (hi := 7) rfl (by decide)
                                have wf357 : Hid (w343 275 88 = 0 → wfE w343 N (w343 275 78) (w343 275 94) nt P s (e + 1)) := Hid.mk (fun z => by rw [u346, u353]; exact wfE.d (wfE.em (hwH.out (by omega)) q345 (by decide) (by decide) (by decide) (by decide) (by unfold iOw; omega) (by rw [show nxD 6 (e) = e + 1 from by unfold nxD; rw [if_pos (by omega)] <;> omega]; omega)) (by unfold nxD; rw [if_pos (by omega)] <;> omega))
                                show e_Ok 20 elay ecode eI (d + 1) 346 (229, [(0, (1, 275))], [(0, w 275 78)], w343) _
                                refine e_Ok.run (t' := (231, [(0, (1, 275))], [(1, 275)], w343)) 2 rfl ?_
                                refine e_Ok.callV rfl (by omega) rfl rfl rfl rfl (c_327 (by omega) c355.1 c355.2.1 c355.2.2.1 hNr (t := w343 275 87) rfl (by omega)) (fun r358 w359 h360 => ?_)
                                have p362 := tkS.pos c355.2.2.2.1 (by omega)
                                have p363 := tkS.key c355.2.2.2.1 (by omega)
                                obtain ⟨rfl, q361, q361s, q361t⟩ := h360
                                have u364 : w359 275 78 = w343 275 78 := q361 275 78 (by unfold mTq; omega)
                                have u365 : w359 275 83 = w343 275 83 := q361 275 83 (by unfold mTq; omega)
                                have u366 : w359 275 88 = w343 275 88 := q361 275 88 (by unfold mTq; omega)
                                have u367 : w359 275 94 = w343 275 94 := q361 275 94 (by unfold mTq; omega)
                                have f368 : e_fr (mEx (w 275 78) (w 275 94)) w w359 := e_fr.trans f354 (e_fr.mono q361 (fun c k g => by unfold mTq at g; unfold mEx; omega))
                                have c369 := cSt.tk c355 q361 q361s
                                have t370t := tkS.lin c369.2.2.2.1
                                have t370f := e_Has.get c369.2.1 (c := 275) (k := 88) (lo := 0) (hi := 7) rfl (by decide)
                                have wf371 : Hid (w359 275 88 = 0 → wfE w359 N (w359 275 78) (w359 275 94) nt P s (e + 1)) := Hid.mk (fun z => by rw [u364, u367]; exact wfE.pr (wf357.out (by omega)) (prE.tk q361))
                                show e_Ok 20 elay ecode eI (d + 1) 346 (234, [(0, (1, 275))], [], w359) _
                                refine e_Ok.run (t' := (242, [(0, (1, 275))], [], w359)) 1 rfl ?_
                                refine e_Ok.rets rfl rfl ?_
                                exact ⟨rfl, f368, c369, by unfold cLn; omega, wf371.out⟩
                            · replace h276 : (w 275 85 : Int) = 29 := by have q : ¬ ((w 275 85 : Int) ≠ 29) := h276; omega
                              refine e_Ok.run (t' := (226, [(0, (1, 275))], [(0, 0), (0, 5), (1, 275)], w)) 3 rfl ?_
                              refine e_Ok.callV rfl (by omega) rfl rfl rfl rfl (c_336 hc.1 (n := w 275 78) rfl (by omega) (s := s) hs (by omega)) (fun r372 w373 h374 => ?_)
                              obtain ⟨rfl, q375⟩ := h374
                              have u376 : w373 275 78 = w 275 78 + 1 := q375.2.2.2.2
                              have u377 : w373 275 83 = w 275 83 := q375.1 275 83 (by omega)
                              have u378 : w373 275 84 = w 275 84 := q375.1 275 84 (by omega)
                              have u379 : w373 275 85 = w 275 85 := q375.1 275 85 (by omega)
                              have u380 : w373 275 86 = w 275 86 := q375.1 275 86 (by omega)
                              have u381 : w373 275 87 = w 275 87 := q375.1 275 87 (by omega)
                              have u382 : w373 275 88 = w 275 88 := q375.1 275 88 (by omega)
                              have u383 : w373 275 94 = w 275 94 := q375.1 275 94 (by omega)
                              have f384 : e_fr (mEx (w 275 78) (w 275 94)) w w373 := e_fr.trans (e_fr.refl w) (fun c k g => q375.1 c k (fun g2 => g (by unfold mEx; omega)))
                              have c385 := cSt.em hc q375 (by omega) (by omega) (by omega)
                              have t386t := tkS.lin c385.2.2.2.1
                              have t386f := e_Has.get c385.2.1 (c := 275) (k := 88) (lo := 0) (hi := 7) rfl (by decide)
                              have wf387 : Hid (w373 275 88 = 0 → wfE w373 N (w373 275 78) (w373 275 94) nt P s (e + 1)) := Hid.mk (fun z => by rw [u376, u383]; exact wfE.d (wfE.em (hwH.out (by omega)) q375 (by decide) (by decide) (by decide) (by decide) (by unfold iOw; omega) (by rw [show nxD 5 (e) = e + 1 from by unfold nxD; rw [if_pos (by omega)] <;> omega]; omega)) (by unfold nxD; rw [if_pos (by omega)] <;> omega))
                              show e_Ok 20 elay ecode eI (d + 1) 346 (229, [(0, (1, 275))], [(0, w 275 78)], w373) _
                              refine e_Ok.run (t' := (231, [(0, (1, 275))], [(1, 275)], w373)) 2 rfl ?_
                              refine e_Ok.callV rfl (by omega) rfl rfl rfl rfl (c_327 (by omega) c385.1 c385.2.1 c385.2.2.1 hNr (t := w373 275 87) rfl (by omega)) (fun r388 w389 h390 => ?_)
                              have p392 := tkS.pos c385.2.2.2.1 (by omega)
                              have p393 := tkS.key c385.2.2.2.1 (by omega)
                              obtain ⟨rfl, q391, q391s, q391t⟩ := h390
                              have u394 : w389 275 78 = w373 275 78 := q391 275 78 (by unfold mTq; omega)
                              have u395 : w389 275 83 = w373 275 83 := q391 275 83 (by unfold mTq; omega)
                              have u396 : w389 275 88 = w373 275 88 := q391 275 88 (by unfold mTq; omega)
                              have u397 : w389 275 94 = w373 275 94 := q391 275 94 (by unfold mTq; omega)
                              have f398 : e_fr (mEx (w 275 78) (w 275 94)) w w389 := e_fr.trans f384 (e_fr.mono q391 (fun c k g => by unfold mTq at g; unfold mEx; omega))
                              have c399 := cSt.tk c385 q391 q391s
                              have t400t := tkS.lin c399.2.2.2.1
                              have t400f := e_Has.get c399.2.1 (c := 275) (k := 88) (lo := 0) (hi := 7) rfl (by decide)
                              have wf401 : Hid (w389 275 88 = 0 → wfE w389 N (w389 275 78) (w389 275 94) nt P s (e + 1)) := Hid.mk (fun z => by rw [u394, u397]; exact wfE.pr (wf387.out (by omega)) (prE.tk q391))
                              show e_Ok 20 elay ecode eI (d + 1) 346 (234, [(0, (1, 275))], [], w389) _
                              refine e_Ok.run (t' := (242, [(0, (1, 275))], [], w389)) 1 rfl ?_
                              refine e_Ok.rets rfl rfl ?_
                              exact ⟨rfl, f398, c399, by unfold cLn; omega, wf401.out⟩
                      · replace h245 : (0 : Int) ≠ 0 := by have q : ¬ ((0 : Int) = 0) := h245; omega
                        exfalso; omega
                  · replace h232 : (0 : Int) ≠ 0 := by have q : ¬ ((0 : Int) = 0) := h232; omega
                    exfalso; omega
          · replace h144 : (w 275 84 : Int) = 1 := by have q : ¬ ((w 275 84 : Int) ≠ 1) := h144; omega
            refine e_Ok.run (t' := (88, [(0, (1, 275))], [(0, 0), (0, 2), (1, 275), (0, 2), (1, 275)], w)) 5 rfl ?_
            refine e_Ok.callV rfl (by omega) rfl rfl rfl rfl (c_336 hc.1 (n := w 275 78) rfl (by omega) (s := s) hs (by omega)) (fun r402 w403 h404 => ?_)
            obtain ⟨rfl, q405⟩ := h404
            have u406 : w403 275 78 = w 275 78 + 1 := q405.2.2.2.2
            have u407 : w403 275 83 = w 275 83 := q405.1 275 83 (by omega)
            have u408 : w403 275 84 = w 275 84 := q405.1 275 84 (by omega)
            have u409 : w403 275 85 = w 275 85 := q405.1 275 85 (by omega)
            have u410 : w403 275 86 = w 275 86 := q405.1 275 86 (by omega)
            have u411 : w403 275 87 = w 275 87 := q405.1 275 87 (by omega)
            have u412 : w403 275 88 = w 275 88 := q405.1 275 88 (by omega)
            have u413 : w403 275 94 = w 275 94 := q405.1 275 94 (by omega)
            have f414 : e_fr (mEx (w 275 78) (w 275 94)) w w403 := e_fr.trans (e_fr.refl w) (fun c k g => q405.1 c k (fun g2 => g (by unfold mEx; omega)))
            have c415 := cSt.em hc q405 (by omega) (by omega) (by omega)
            have t417t := tkS.lin c415.2.2.2.1
            have t417f := e_Has.get c415.2.1 (c := 275) (k := 88) (lo := 0) (hi := 7) rfl (by decide)
            show e_Ok 20 elay ecode eI (d + 1) 346 (91, [(0, (1, 275))], [(0, w 275 78), (0, 2), (1, 275)], w403) _
            refine e_Ok.callV rfl (by omega) rfl rfl rfl rfl (c_338 (by omega) c415.1 c415.2.1 c415.2.2.1 hNr c415.2.2.2.1 (mm := w403 275 94) rfl (by omega) (by omega) (by omega)) (fun r418 w419 h420 => ?_)
            obtain ⟨rfl, q421⟩ := h420
            obtain ⟨rfl, q421z⟩ | ⟨q421z, q421k, q421, q421T, q421H, q421r⟩ | ⟨q421z, q421k, w422, q421F, q421T, q421H, q421v, q421o, q421, q421s, q421t⟩ := q421
            · exfalso; omega
            · exfalso; omega
            · show e_Ok 20 elay ecode eI (d + 1) 346 (94, [(0, (1, 275))], [], w419) _
              have p423 := tkS.pos c415.2.2.2.1 (by omega)
              have u424 : w422 275 78 = w403 275 78 := q421F 275 78 (by unfold mNm; omega)
              have u425 : w422 275 83 = w403 275 83 := q421F 275 83 (by unfold mNm; omega)
              have u426 : w422 275 84 = w403 275 84 := q421F 275 84 (by unfold mNm; omega)
              have u427 : w422 275 85 = w403 275 85 := q421F 275 85 (by unfold mNm; omega)
              have u428 : w422 275 86 = w403 275 86 := q421F 275 86 (by unfold mNm; omega)
              have u429 : w422 275 87 = w403 275 87 := q421F 275 87 (by unfold mNm; omega)
              have u430 : w422 275 88 = w403 275 88 := q421F 275 88 (by unfold mNm; omega)
              have q42194 := q421v.2.2.2.2
              have f431 : e_fr (mEx (w 275 78) (w 275 94)) w w422 := e_fr.trans f414 (fun c k g => q421o c k (fun g2 => g (by unfold mEx; omega)))
              have c432 := cSt.nm c415 q421F
              have t433t := tkS.lin c432.2.2.2.1
              have t433f := e_Has.get c432.2.1 (c := 275) (k := 88) (lo := 0) (hi := 7) rfl (by decide)
              have wf434 : Hid (w422 275 88 = 0 → wfE w422 N (w422 275 78) (w422 275 94) nt P s (e + 1)) := Hid.mk (fun z => by rw [u424, u406, q42194, u413]; exact wfE.d (wfE.read (ta := w403 275 86) (te := w403 275 87) (hwH.out (by omega)) q405 (by omega) ⟨(by rw [← u413]; exact q421v.1), (by rw [← u413]; exact q421v.2.1), (by rw [← u413]; exact q421v.2.2.1), (by rw [← u413]; exact q421v.2.2.2.1)⟩ (fun c k g => q421o c k (by rw [u413] ; exact g)) (by omega) hNr.2 (by omega)) (by omega))
              have u435 : w419 275 78 = w422 275 78 := q421 275 78 (by unfold mTq; omega)
              have u436 : w419 275 83 = w422 275 83 := q421 275 83 (by unfold mTq; omega)
              have u437 : w419 275 88 = w422 275 88 := q421 275 88 (by unfold mTq; omega)
              have u438 : w419 275 94 = w422 275 94 := q421 275 94 (by unfold mTq; omega)
              have f439 : e_fr (mEx (w 275 78) (w 275 94)) w w419 := e_fr.trans f431 (e_fr.mono q421 (fun c k g => by unfold mTq at g; unfold mEx; omega))
              have c440 := cSt.tk c432 q421 q421s
              have t441t := tkS.lin c440.2.2.2.1
              have t441f := e_Has.get c440.2.1 (c := 275) (k := 88) (lo := 0) (hi := 7) rfl (by decide)
              have wf442 : Hid (w419 275 88 = 0 → wfE w419 N (w419 275 78) (w419 275 94) nt P s (e + 1)) := Hid.mk (fun z => by rw [u435, u438]; exact wfE.pr (wf434.out (by omega)) (prE.tk q421))
              refine e_Ok.run (t' := (242, [(0, (1, 275))], [], w419)) 1 rfl ?_
              refine e_Ok.rets rfl rfl ?_
              exact ⟨rfl, f439, c440, by unfold cLn; omega, wf442.out⟩
        · replace h143 : (w 275 84 : Int) = 2 := by have q : ¬ ((w 275 84 : Int) ≠ 2) := h143; omega
          refine e_Ok.run (t' := (61, [(0, (1, 275))], [(1, 275), (0, 1), (1, 275)], w)) 3 rfl ?_
          refine e_Ok.getf (z := w 275 85) rfl (el_o rfl) rfl rfl rfl (by omega) ?_
          refine e_Ok.callV rfl (by omega) rfl rfl rfl rfl (c_336 hc.1 (n := w 275 78) rfl (by omega) (s := s) hs (by omega)) (fun r443 w444 h445 => ?_)
          obtain ⟨rfl, q446⟩ := h445
          have u447 : w444 275 78 = w 275 78 + 1 := q446.2.2.2.2
          have u448 : w444 275 83 = w 275 83 := q446.1 275 83 (by omega)
          have u449 : w444 275 84 = w 275 84 := q446.1 275 84 (by omega)
          have u450 : w444 275 85 = w 275 85 := q446.1 275 85 (by omega)
          have u451 : w444 275 86 = w 275 86 := q446.1 275 86 (by omega)
          have u452 : w444 275 87 = w 275 87 := q446.1 275 87 (by omega)
          have u453 : w444 275 88 = w 275 88 := q446.1 275 88 (by omega)
          have u454 : w444 275 94 = w 275 94 := q446.1 275 94 (by omega)
          have f455 : e_fr (mEx (w 275 78) (w 275 94)) w w444 := e_fr.trans (e_fr.refl w) (fun c k g => q446.1 c k (fun g2 => g (by unfold mEx; omega)))
          have c456 := cSt.em hc q446 (by omega) (by omega) (by omega)
          have t457t := tkS.lin c456.2.2.2.1
          have t457f := e_Has.get c456.2.1 (c := 275) (k := 88) (lo := 0) (hi := 7) rfl (by decide)
          have wf458 : Hid (w444 275 88 = 0 → wfE w444 N (w444 275 78) (w444 275 94) nt P s (e + 1)) := Hid.mk (fun z => by rw [u447, u454]; exact wfE.d (wfE.em (hwH.out (by omega)) q446 (by decide) (by decide) (by decide) (by decide) (by unfold iOw; omega) (by rw [show nxD 1 (e) = e + 1 from by unfold nxD; rw [if_pos (by omega)] <;> omega]; omega)) (by unfold nxD; rw [if_pos (by omega)] <;> omega))
          show e_Ok 20 elay ecode eI (d + 1) 346 (67, [(0, (1, 275))], [(0, w 275 78)], w444) _
          refine e_Ok.run (t' := (69, [(0, (1, 275))], [(1, 275)], w444)) 2 rfl ?_
          refine e_Ok.callV rfl (by omega) rfl rfl rfl rfl (c_327 (by omega) c456.1 c456.2.1 c456.2.2.1 hNr (t := w444 275 87) rfl (by omega)) (fun r459 w460 h461 => ?_)
          have p463 := tkS.pos c456.2.2.2.1 (by omega)
          obtain ⟨rfl, q462, q462s, q462t⟩ := h461
          have u464 : w460 275 78 = w444 275 78 := q462 275 78 (by unfold mTq; omega)
          have u465 : w460 275 83 = w444 275 83 := q462 275 83 (by unfold mTq; omega)
          have u466 : w460 275 88 = w444 275 88 := q462 275 88 (by unfold mTq; omega)
          have u467 : w460 275 94 = w444 275 94 := q462 275 94 (by unfold mTq; omega)
          have f468 : e_fr (mEx (w 275 78) (w 275 94)) w w460 := e_fr.trans f455 (e_fr.mono q462 (fun c k g => by unfold mTq at g; unfold mEx; omega))
          have c469 := cSt.tk c456 q462 q462s
          have t470t := tkS.lin c469.2.2.2.1
          have t470f := e_Has.get c469.2.1 (c := 275) (k := 88) (lo := 0) (hi := 7) rfl (by decide)
          have wf471 : Hid (w460 275 88 = 0 → wfE w460 N (w460 275 78) (w460 275 94) nt P s (e + 1)) := Hid.mk (fun z => by rw [u464, u467]; exact wfE.pr (wf458.out (by omega)) (prE.tk q462))
          show e_Ok 20 elay ecode eI (d + 1) 346 (72, [(0, (1, 275))], [], w460) _
          refine e_Ok.run (t' := (242, [(0, (1, 275))], [], w460)) 1 rfl ?_
          refine e_Ok.rets rfl rfl ?_
          exact ⟨rfl, f468, c469, by unfold cLn; omega, wf471.out⟩
      · replace h142 : (0 : Int) ≠ 0 := by have q : ¬ ((0 : Int) = 0) := h142; omega
        exfalso; omega
  · replace h1 : (w 275 88 : Int) ≠ 0 := by have q : ¬ ((w 275 88 : Int) = 0) := h1; omega
    exfalso; omega
end
