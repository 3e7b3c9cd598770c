noncomputable section
set_option maxHeartbeats 4000000 in
theorem c_343 {d : Nat} (hd : 43 ≤ d) {w : eW} {N nt s e o F : Int} {P : Int → Prop} (hc : cSt w N) (hNr : 0 ≤ N ∧ N ≤ 4000) (h0 : w 275 88 = 0) (ho : w 275 83 = o) (hs : w 275 81 = s) (hb : 0 ≤ w 275 78 ∧ w 275 78 + 2 * (N - w 275 86) ≤ 8100 ∧ 0 ≤ w 275 94 ∧ w 275 94 + (N - w 275 86) ≤ 4050) (hw : wfE w N (w 275 78) (w 275 94) nt P s e) (he : e ≤ w 275 86) (hor : 0 ≤ o ∧ o ≤ 30) (hF : 0 ≤ F ∧ F ≤ 400) (hS : ∀ k, d = k + 1 → exC 344 o F k) : e_Ok 20 elay ecode eI d 343 (0, [(0, (1, 275))], [], w) (fun r w' => r = [] ∧ exQ w w' N nt P s (e + 1) (F + 1)) := by
  obtain ⟨d, rfl⟩ : ∃ e, d = e + 1 := ⟨d - 1, by omega⟩
  have hct := tkS.lin hc.2.2.2.1
  have hcf := e_Has.get hc.2.1 (c := 275) (k := 88) (lo := 0) (hi := 7) rfl (by decide)
  have hsb := hc.2.2.2.2
  rw [hs] at hsb
  have he0 := hw.2.2.2.2.2.1
  have hwH : Hid (w 275 88 = 0 → wfE w N (w 275 78) (w 275 94) nt P s e) := Hid.mk (fun _ => hw)
  refine e_Ok.run (t' := (1, [(0, (1, 275))], [(1, 275)], w)) 1 rfl ?_
  refine e_Ok.callV rfl (by omega) rfl rfl rfl rfl ((hS d rfl) w N nt s (e) P hc hNr (by omega) (by omega) hs (by omega) (hwH.out (by omega)) (by omega)) (fun r1 w2 h3 => ?_)
  obtain ⟨rfl, q4F, q4c, q4l, q4w⟩ := h3
  unfold cLn at q4l
  replace q4w : Hid (w2 275 88 = 0 → wfE w2 N (w2 275 78) (w2 275 94) nt P s (e + 1)) := Hid.mk (fun z => wfE.d (q4w z) (by omega))
  have f5 : e_fr (mEx (w 275 78) (w 275 94)) w w2 := e_fr.trans (e_fr.refl w) (e_fr.mono q4F (fun c k g => by unfold mEx at g; unfold mEx; omega))
  have t6t := tkS.lin q4c.2.2.2.1
  have t6f := e_Has.get q4c.2.1 (c := 275) (k := 88) (lo := 0) (hi := 7) rfl (by decide)
  show e_Ok 20 elay ecode eI (d + 1) 343 (4, [(0, (1, 275))], [], w2) _
  have hL7 : ∀ (nn : Nat) (v1 : eW), e_fr (mEx (w 275 78) (w 275 94)) w v1 ∧ cSt v1 N ∧ cLn w v1 (F + 1) ∧ ((0 ≤ v1 275 86 ∧ v1 275 86 ≤ N)) ∧ Hid (v1 275 88 = 0 → wfE v1 N (v1 275 78) (v1 275 94) nt P s (e + 1)) → N - v1 275 86 < nn → e_Ok 20 elay ecode eI (d + 1) 343 (4, [(0, (1, 275))], [], v1) (fun r w' => r = [] ∧ exQ w w' N nt P s (e + 1) (F + 1)) := by
    intro nn
    induction nn with
    | zero => intro v1 hj hm; obtain ⟨j9, j10, j11, j12, j13⟩ := hj; exfalso; omega
    | succ nn ih8 =>
      intro v1 hj hm
      obtain ⟨j9, j10, j11, j12, j13⟩ := hj
      have xl := j11
      unfold cLn at xl
      have xt := tkS.lin j10.2.2.2.1
      have xf := e_Has.get j10.2.1 (c := 275) (k := 88) (lo := 0) (hi := 7) rfl (by decide)
      refine e_Ok.run (t' := (5, [(0, (1, 275))], [(1, 275)], v1)) 1 rfl ?_
      refine e_Ok.getf (z := v1 275 88) rfl (el_o rfl) rfl rfl rfl (by omega) ?_
      refine e_Ok.if1 rfl (fun h14 => ?_) (fun h14 => ?_)
      · replace h14 : (v1 275 88 : Int) ≠ 0 := h14
        refine e_Ok.rets rfl rfl ?_
        exact ⟨rfl, j9, j10, by unfold cLn; omega, (fun z => absurd z (by omega))⟩
      · replace h14 : (v1 275 88 : Int) = 0 := by have q : ¬ ((v1 275 88 : Int) ≠ 0) := h14; omega
        refine e_Ok.run (t' := (14, [(0, (1, 275))], [(0, 43), (1, 275)], v1)) 2 rfl ?_
        refine e_Ok.callV rfl (by omega) rfl rfl rfl rfl (c_331 j10.1 (N := N) j10.2.2.2.1) (fun r15 w16 h17 => ?_)
        obtain ⟨z18, rfl, rfl, q19⟩ := h17
        obtain ⟨rfl, q19, q19b⟩ | ⟨rfl, q19n⟩ := q19
        · show e_Ok 20 elay ecode eI (d + 1) 343 (17, [(0, (1, 275))], [(0, 1)], v1) _
          refine e_Ok.if1 rfl (fun h20 => ?_) (fun h20 => ?_)
          · replace h20 : (1 : Int) ≠ 0 := h20
            refine e_Ok.run (t' := (30, [(0, (1, 275))], [(1, 275)], v1)) 1 rfl ?_
            refine e_Ok.getf (z := v1 275 85) rfl (el_o rfl) rfl rfl rfl (by omega) ?_
            refine e_Ok.run (t' := (35, [(0, (1, 275))], [(0, 43), (0, v1 275 85)], v1)) 1 rfl ?_
            refine e_Ok.if2 rfl (fun h21 => ?_) (fun h21 => ?_)
            · replace h21 : (v1 275 85 : Int) ≠ 43 := h21
              exfalso; omega
            · replace h21 : (v1 275 85 : Int) = 43 := by have q : ¬ ((v1 275 85 : Int) ≠ 43) := h21; omega
              refine e_Ok.run (t' := (47, [(1, (0, 10)), (0, (1, 275))], [(1, 275)], v1)) 4 rfl ?_
              refine e_Ok.callV rfl (by omega) rfl rfl rfl rfl (c_327 (by omega) j10.1 j10.2.1 j10.2.2.1 hNr (t := v1 275 87) rfl (by omega)) (fun r22 w23 h24 => ?_)
              have p26 := tkS.pos j10.2.2.2.1 (by omega)
              obtain ⟨rfl, q25, q25s, q25t⟩ := h24
              have u27 : w23 275 78 = v1 275 78 := q25 275 78 (by unfold mTq; omega)
              have u28 : w23 275 83 = v1 275 83 := q25 275 83 (by unfold mTq; omega)
              have u29 : w23 275 88 = v1 275 88 := q25 275 88 (by unfold mTq; omega)
              have u30 : w23 275 94 = v1 275 94 := q25 275 94 (by unfold mTq; omega)
              have f31 : e_fr (mEx (w 275 78) (w 275 94)) w w23 := e_fr.trans j9 (e_fr.mono q25 (fun c k g => by unfold mTq at g; unfold mEx; omega))
              have c32 := cSt.tk j10 q25 q25s
              have t33t := tkS.lin c32.2.2.2.1
              have t33f := e_Has.get c32.2.1 (c := 275) (k := 88) (lo := 0) (hi := 7) rfl (by decide)
              have wf34 : Hid (w23 275 88 = 0 → wfE w23 N (w23 275 78) (w23 275 94) nt P s (e + 1)) := Hid.mk (fun z => by rw [u27, u30]; exact wfE.pr (j13.out (by omega)) (prE.tk q25))
              show e_Ok 20 elay ecode eI (d + 1) 343 (50, [(1, (0, 10)), (0, (1, 275))], [], w23) _
              refine e_Ok.run (t' := (51, [(1, (0, 10)), (0, (1, 275))], [(1, 275)], w23)) 1 rfl ?_
              refine e_Ok.callV rfl (by omega) rfl rfl rfl rfl ((hS d rfl) w23 N nt s (e + 1) P c32 hNr (by omega) (by omega) (Eq.trans (f31 275 81 (by unfold mEx; omega)) hs) (by omega) (wf34.out (by omega)) (by omega)) (fun r35 w36 h37 => ?_)
              obtain ⟨rfl, q38F, q38c, q38l, q38w⟩ := h37
              unfold cLn at q38l
              replace q38w : Hid (w36 275 88 = 0 → wfE w36 N (w36 275 78) (w36 275 94) nt P s (e + 2)) := Hid.mk (fun z => wfE.d (q38w z) (by omega))
              have f40 : e_fr (mEx (w 275 78) (w 275 94)) w w36 := e_fr.trans f31 (e_fr.mono q38F (fun c k g => by unfold mEx at g; unfold mEx; omega))
              have t41t := tkS.lin q38c.2.2.2.1
              have t41f := e_Has.get q38c.2.1 (c := 275) (k := 88) (lo := 0) (hi := 7) rfl (by decide)
              show e_Ok 20 elay ecode eI (d + 1) 343 (54, [(1, (0, 10)), (0, (1, 275))], [], w36) _
              refine e_Ok.run (t' := (57, [(1, (0, 10)), (0, (1, 275))], [(0, 0), (0, 10), (1, 275)], w36)) 3 rfl ?_
              refine e_Ok.callV rfl (by omega) rfl rfl rfl rfl (c_336 q38c.1 (n := w36 275 78) rfl (by omega) (s := s) (Eq.trans (f40 275 81 (by unfold mEx; omega)) hs) (by omega)) (fun r42 w43 h44 => ?_)
              obtain ⟨rfl, q45⟩ := h44
              have u46 : w43 275 78 = w36 275 78 + 1 := q45.2.2.2.2
              have u47 : w43 275 83 = w36 275 83 := q45.1 275 83 (by omega)
              have u48 : w43 275 84 = w36 275 84 := q45.1 275 84 (by omega)
              have u49 : w43 275 85 = w36 275 85 := q45.1 275 85 (by omega)
              have u50 : w43 275 86 = w36 275 86 := q45.1 275 86 (by omega)
              have u51 : w43 275 87 = w36 275 87 := q45.1 275 87 (by omega)
              have u52 : w43 275 88 = w36 275 88 := q45.1 275 88 (by omega)
              have u53 : w43 275 94 = w36 275 94 := q45.1 275 94 (by omega)
              have f54 : e_fr (mEx (w 275 78) (w 275 94)) w w43 := e_fr.trans f40 (fun c k g => q45.1 c k (fun g2 => g (by unfold mEx; omega)))
              have c55 := cSt.em q38c q45 (by omega) (by omega) (by omega)
              have t56t := tkS.lin c55.2.2.2.1
              have t56f := e_Has.get c55.2.1 (c := 275) (k := 88) (lo := 0) (hi := 7) rfl (by decide)
              have wf57 : Hid (w43 275 88 = 0 → wfE w43 N (w43 275 78) (w43 275 94) nt P s (e + 1)) := Hid.mk (fun z => by rw [u46, u53]; exact wfE.d (wfE.em (q38w.out (by omega)) q45 (by decide) (by decide) (by decide) (by decide) (by unfold iOw; omega) (by rw [show nxD 10 (e + 2) = e + 1 from by unfold nxD; rw [if_neg (by omega), if_neg (by omega), if_pos (by omega)] <;> omega]; omega)) (by unfold nxD; rw [if_neg (by omega), if_neg (by omega), if_pos (by omega)] <;> omega))
              show e_Ok 20 elay ecode eI (d + 1) 343 (60, [(1, (0, 10)), (0, (1, 275))], [(0, w36 275 78)], w43) _
              refine e_Ok.run (t' := (4, [(1, (0, 10)), (0, (1, 275))], [], w43)) 2 rfl ?_
              refine e_Ok.sub eAlk (e_sub_of rfl ?_) (ih8  w43 ⟨f54, c55, (by unfold cLn; omega), by omega, wf57⟩ (by omega))
              exact ⟨rfl, trivial⟩
          · replace h20 : (1 : Int) = 0 := by have q : ¬ ((1 : Int) ≠ 0) := h20; omega
            exfalso; omega
        · show e_Ok 20 elay ecode eI (d + 1) 343 (17, [(0, (1, 275))], [(0, 0)], v1) _
          refine e_Ok.if1 rfl (fun h58 => ?_) (fun h58 => ?_)
          · replace h58 : (0 : Int) ≠ 0 := h58
            exfalso; omega
          · replace h58 : (0 : Int) = 0 := by have q : ¬ ((0 : Int) ≠ 0) := h58; omega
            refine e_Ok.run (t' := (23, [(0, (1, 275))], [(0, 45), (1, 275)], v1)) 2 rfl ?_
            refine e_Ok.callV rfl (by omega) rfl rfl rfl rfl (c_331 j10.1 (N := N) j10.2.2.2.1) (fun r59 w60 h61 => ?_)
            obtain ⟨z62, rfl, rfl, q63⟩ := h61
            obtain ⟨rfl, q63, q63b⟩ | ⟨rfl, q63n⟩ := q63
            · show e_Ok 20 elay ecode eI (d + 1) 343 (26, [(0, (1, 275))], [(0, 1)], v1) _
              refine e_Ok.if1 rfl (fun h64 => ?_) (fun h64 => ?_)
              · replace h64 : (1 : Int) = 0 := h64
                exfalso; omega
              · replace h64 : (1 : Int) ≠ 0 := by have q : ¬ ((1 : Int) = 0) := h64; omega
                refine e_Ok.run (t' := (30, [(0, (1, 275))], [(1, 275)], v1)) 1 rfl ?_
                refine e_Ok.getf (z := v1 275 85) rfl (el_o rfl) rfl rfl rfl (by omega) ?_
                refine e_Ok.run (t' := (35, [(0, (1, 275))], [(0, 43), (0, v1 275 85)], v1)) 1 rfl ?_
                refine e_Ok.if2 rfl (fun h65 => ?_) (fun h65 => ?_)
                · replace h65 : (v1 275 85 : Int) ≠ 43 := h65
                  refine e_Ok.run (t' := (47, [(1, (0, 11)), (0, (1, 275))], [(1, 275)], v1)) 3 rfl ?_
                  refine e_Ok.callV rfl (by omega) rfl rfl rfl rfl (c_327 (by omega) j10.1 j10.2.1 j10.2.2.1 hNr (t := v1 275 87) rfl (by omega)) (fun r66 w67 h68 => ?_)
                  have p70 := tkS.pos j10.2.2.2.1 (by omega)
                  obtain ⟨rfl, q69, q69s, q69t⟩ := h68
                  have u71 : w67 275 78 = v1 275 78 := q69 275 78 (by unfold mTq; omega)
                  have u72 : w67 275 83 = v1 275 83 := q69 275 83 (by unfold mTq; omega)
                  have u73 : w67 275 88 = v1 275 88 := q69 275 88 (by unfold mTq; omega)
                  have u74 : w67 275 94 = v1 275 94 := q69 275 94 (by unfold mTq; omega)
                  have f75 : e_fr (mEx (w 275 78) (w 275 94)) w w67 := e_fr.trans j9 (e_fr.mono q69 (fun c k g => by unfold mTq at g; unfold mEx; omega))
                  have c76 := cSt.tk j10 q69 q69s
                  have t77t := tkS.lin c76.2.2.2.1
                  have t77f := e_Has.get c76.2.1 (c := 275) (k := 88) (lo := 0) (hi := 7) rfl (by decide)
                  have wf78 : Hid (w67 275 88 = 0 → wfE w67 N (w67 275 78) (w67 275 94) nt P s (e + 1)) := Hid.mk (fun z => by rw [u71, u74]; exact wfE.pr (j13.out (by omega)) (prE.tk q69))
                  show e_Ok 20 elay ecode eI (d + 1) 343 (50, [(1, (0, 11)), (0, (1, 275))], [], w67) _
                  refine e_Ok.run (t' := (51, [(1, (0, 11)), (0, (1, 275))], [(1, 275)], w67)) 1 rfl ?_
                  refine e_Ok.callV rfl (by omega) rfl rfl rfl rfl ((hS d rfl) w67 N nt s (e + 1) P c76 hNr (by omega) (by omega) (Eq.trans (f75 275 81 (by unfold mEx; omega)) hs) (by omega) (wf78.out (by omega)) (by omega)) (fun r79 w80 h81 => ?_)
                  obtain ⟨rfl, q82F, q82c, q82l, q82w⟩ := h81
                  unfold cLn at q82l
                  replace q82w : Hid (w80 275 88 = 0 → wfE w80 N (w80 275 78) (w80 275 94) nt P s (e + 2)) := Hid.mk (fun z => wfE.d (q82w z) (by omega))
                  have f83 : e_fr (mEx (w 275 78) (w 275 94)) w w80 := e_fr.trans f75 (e_fr.mono q82F (fun c k g => by unfold mEx at g; unfold mEx; omega))
                  have t84t := tkS.lin q82c.2.2.2.1
                  have t84f := e_Has.get q82c.2.1 (c := 275) (k := 88) (lo := 0) (hi := 7) rfl (by decide)
                  show e_Ok 20 elay ecode eI (d + 1) 343 (54, [(1, (0, 11)), (0, (1, 275))], [], w80) _
                  refine e_Ok.run (t' := (57, [(1, (0, 11)), (0, (1, 275))], [(0, 0), (0, 11), (1, 275)], w80)) 3 rfl ?_
                  refine e_Ok.callV rfl (by omega) rfl rfl rfl rfl (c_336 q82c.1 (n := w80 275 78) rfl (by omega) (s := s) (Eq.trans (f83 275 81 (by unfold mEx; omega)) hs) (by omega)) (fun r85 w86 h87 => ?_)
                  obtain ⟨rfl, q88⟩ := h87
                  have u89 : w86 275 78 = w80 275 78 + 1 := q88.2.2.2.2
                  have u90 : w86 275 83 = w80 275 83 := q88.1 275 83 (by omega)
                  have u91 : w86 275 84 = w80 275 84 := q88.1 275 84 (by omega)
                  have u92 : w86 275 85 = w80 275 85 := q88.1 275 85 (by omega)
                  have u93 : w86 275 86 = w80 275 86 := q88.1 275 86 (by omega)
                  have u94 : w86 275 87 = w80 275 87 := q88.1 275 87 (by omega)
                  have u95 : w86 275 88 = w80 275 88 := q88.1 275 88 (by omega)
                  have u101 : w86 275 94 = w80 275 94 := q88.1 275 94 (by omega)
                  have f103 : e_fr (mEx (w 275 78) (w 275 94)) w w86 := e_fr.trans f83 (fun c k g => q88.1 c k (fun g2 => g (by unfold mEx; omega)))
                  have c104 := cSt.em q82c q88 (by omega) (by omega) (by omega)
                  have t105t := tkS.lin c104.2.2.2.1
                  have t105f := e_Has.get c104.2.1 (c := 275) (k := 88) (lo := 0) (hi := 7) rfl (by decide)
                  have wf106 : Hid (w86 275 88 = 0 → wfE w86 N (w86 275 78) (w86 275 94) nt P s (e + 1)) := Hid.mk (fun z => by rw [u89, u101]; exact wfE.d (wfE.em (q82w.out (by omega)) q88 (by decide) (by decide) (by decide) (by decide) (by unfold iOw; omega) (by rw [show nxD 11 (e + 2) = e + 1 from by unfold nxD; rw [if_neg (by omega), if_neg (by omega), if_pos (by omega)] <;> omega]; omega)) (by unfold nxD; rw [if_neg (by omega), if_neg (by omega), if_pos (by omega)] <;> omega))
                  show e_Ok 20 elay ecode eI (d + 1) 343 (60, [(1, (0, 11)), (0, (1, 275))], [(0, w80 275 78)], w86) _
                  refine e_Ok.run (t' := (4, [(1, (0, 11)), (0, (1, 275))], [], w86)) 2 rfl ?_
                  refine e_Ok.sub eAlk (e_sub_of rfl ?_) (ih8  w86 ⟨f103, c104, (by unfold cLn; omega), by omega, wf106⟩ (by omega))
                  exact ⟨rfl, trivial⟩
                · replace h65 : (v1 275 85 : Int) = 43 := by have q : ¬ ((v1 275 85 : Int) ≠ 43) := h65; omega
                  exfalso; omega
            · show e_Ok 20 elay ecode eI (d + 1) 343 (26, [(0, (1, 275))], [(0, 0)], v1) _
              refine e_Ok.if1 rfl (fun h107 => ?_) (fun h107 => ?_)
              · replace h107 : (0 : Int) = 0 := h107
                refine e_Ok.rets rfl rfl ?_
                exact ⟨rfl, j9, j10, by unfold cLn; omega, j13.out⟩
              · replace h107 : (0 : Int) ≠ 0 := by have q : ¬ ((0 : Int) = 0) := h107; omega
                exfalso; omega
  refine e_Ok.sub eAlk (e_sub_of rfl ?_) (hL7 (4001 + 1 : Int).toNat  w2 ⟨f5, q4c, (by unfold cLn; omega), by omega, q4w⟩ (by omega))
  exact ⟨rfl, trivial⟩
end
