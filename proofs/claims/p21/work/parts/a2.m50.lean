noncomputable section
set_option maxHeartbeats 4000000 in
theorem c_344 {d : Nat} (hd : 43 ≤ d) {w : eW} {N nt s e o F : Int} {P : Int → Prop} (hc : cSt w N) (hNr : 0 ≤ N ∧ N ≤ 4000) (h0 : w 275 88 = 0) (ho : w 275 83 = o) (hs : w 275 81 = s) (hb : 0 ≤ w 275 78 ∧ w 275 78 + 2 * (N - w 275 86) ≤ 8100 ∧ 0 ≤ w 275 94 ∧ w 275 94 + (N - w 275 86) ≤ 4050) (hw : wfE w N (w 275 78) (w 275 94) nt P s e) (he : e ≤ w 275 86) (hor : 0 ≤ o ∧ o ≤ 30) (hF : 0 ≤ F ∧ F ≤ 400) (hS : ∀ k, d = k + 1 → exC 346 o F k) : e_Ok 20 elay ecode eI d 344 (0, [(0, (1, 275))], [], w) (fun r w' => r = [] ∧ exQ w w' N nt P s (e + 1) (F + 1)) := by
  obtain ⟨d, rfl⟩ : ∃ e, d = e + 1 := ⟨d - 1, by omega⟩
  have hct := tkS.lin hc.2.2.2.1
  have hcf := e_Has.get hc.2.1 (c := 275) (k := 88) (lo := 0) (hi := 7) rfl (by decide)
  have hsb := hc.2.2.2.2
  rw [hs] at hsb
  have he0 := hw.2.2.2.2.2.1
  have hwH : Hid (w 275 88 = 0 → wfE w N (w 275 78) (w 275 94) nt P s e) := Hid.mk (fun _ => hw)
  refine e_Ok.run (t' := (1, [(0, (1, 275))], [(1, 275)], w)) 1 rfl ?_
  refine e_Ok.callV rfl (by omega) rfl rfl rfl rfl ((hS d rfl) w N nt s (e) P hc hNr (by omega) (by omega) hs (by omega) (hwH.out (by omega)) (by omega)) (fun r1 w2 h3 => ?_)
  obtain ⟨rfl, q4F, q4c, q4l, q4w⟩ := h3
  unfold cLn at q4l
  replace q4w : Hid (w2 275 88 = 0 → wfE w2 N (w2 275 78) (w2 275 94) nt P s (e + 1)) := Hid.mk (fun z => wfE.d (q4w z) (by omega))
  have f5 : e_fr (mEx (w 275 78) (w 275 94)) w w2 := e_fr.trans (e_fr.refl w) (e_fr.mono q4F (fun c k g => by unfold mEx at g; unfold mEx; omega))
  have t6t := tkS.lin q4c.2.2.2.1
  have t6f := e_Has.get q4c.2.1 (c := 275) (k := 88) (lo := 0) (hi := 7) rfl (by decide)
  show e_Ok 20 elay ecode eI (d + 1) 344 (4, [(0, (1, 275))], [], w2) _
  have hL7 : ∀ (nn : Nat) (v1 : eW), e_fr (mEx (w 275 78) (w 275 94)) w v1 ∧ cSt v1 N ∧ cLn w v1 (F + 1) ∧ ((0 ≤ v1 275 86 ∧ v1 275 86 ≤ N)) ∧ Hid (v1 275 88 = 0 → wfE v1 N (v1 275 78) (v1 275 94) nt P s (e + 1)) → N - v1 275 86 < nn → e_Ok 20 elay ecode eI (d + 1) 344 (4, [(0, (1, 275))], [], v1) (fun r w' => r = [] ∧ exQ w w' N nt P s (e + 1) (F + 1)) := by
    intro nn
    induction nn with
    | zero => intro v1 hj hm; obtain ⟨j9, j10, j11, j12, j13⟩ := hj; exfalso; omega
    | succ nn ih8 =>
      intro v1 hj hm
      obtain ⟨j9, j10, j11, j12, j13⟩ := hj
      have xl := j11
      unfold cLn at xl
      have xt := tkS.lin j10.2.2.2.1
      have xf := e_Has.get j10.2.1 (c := 275) (k := 88) (lo := 0) (hi := 7) rfl (by decide)
      refine e_Ok.run (t' := (5, [(0, (1, 275))], [(1, 275)], v1)) 1 rfl ?_
      refine e_Ok.getf (z := v1 275 88) rfl (el_o rfl) rfl rfl rfl (by omega) ?_
      refine e_Ok.if1 rfl (fun h14 => ?_) (fun h14 => ?_)
      · replace h14 : (v1 275 88 : Int) ≠ 0 := h14
        refine e_Ok.rets rfl rfl ?_
        exact ⟨rfl, j9, j10, by unfold cLn; omega, (fun z => absurd z (by omega))⟩
      · replace h14 : (v1 275 88 : Int) = 0 := by have q : ¬ ((v1 275 88 : Int) ≠ 0) := h14; omega
        refine e_Ok.run (t' := (14, [(0, (1, 275))], [(0, 42), (1, 275)], v1)) 2 rfl ?_
        refine e_Ok.callV rfl (by omega) rfl rfl rfl rfl (c_331 j10.1 (N := N) j10.2.2.2.1) (fun r15 w16 h17 => ?_)
        obtain ⟨z18, rfl, rfl, q19⟩ := h17
        obtain ⟨rfl, q19, q19b⟩ | ⟨rfl, q19n⟩ := q19
        · show e_Ok 20 elay ecode eI (d + 1) 344 (17, [(0, (1, 275))], [(0, 1)], v1) _
          refine e_Ok.if1 rfl (fun h20 => ?_) (fun h20 => ?_)
          · replace h20 : (1 : Int) ≠ 0 := h20
            refine e_Ok.run (t' := (39, [(0, (1, 275))], [(1, 275)], v1)) 1 rfl ?_
            refine e_Ok.getf (z := v1 275 85) rfl (el_o rfl) rfl rfl rfl (by omega) ?_
            refine e_Ok.run (t' := (44, [(0, (1, 275))], [(0, 42), (0, v1 275 85)], v1)) 1 rfl ?_
            refine e_Ok.if2 rfl (fun h21 => ?_) (fun h21 => ?_)
            · replace h21 : (v1 275 85 : Int) ≠ 42 := h21
              exfalso; omega
            · replace h21 : (v1 275 85 : Int) = 42 := by have q : ¬ ((v1 275 85 : Int) ≠ 42) := h21; omega
              refine e_Ok.run (t' := (70, [(1, (0, 12)), (0, (1, 275))], [(1, 275)], v1)) 4 rfl ?_
              refine e_Ok.callV rfl (by omega) rfl rfl rfl rfl (c_327 (by omega) j10.1 j10.2.1 j10.2.2.1 hNr (t := v1 275 87) rfl (by omega)) (fun r22 w23 h24 => ?_)
              have p26 := tkS.pos j10.2.2.2.1 (by omega)
              obtain ⟨rfl, q25, q25s, q25t⟩ := h24
              have u27 : w23 275 78 = v1 275 78 := q25 275 78 (by unfold mTq; omega)
              have u28 : w23 275 83 = v1 275 83 := q25 275 83 (by unfold mTq; omega)
              have u29 : w23 275 88 = v1 275 88 := q25 275 88 (by unfold mTq; omega)
              have u30 : w23 275 94 = v1 275 94 := q25 275 94 (by unfold mTq; omega)
              have f31 : e_fr (mEx (w 275 78) (w 275 94)) w w23 := e_fr.trans j9 (e_fr.mono q25 (fun c k g => by unfold mTq at g; unfold mEx; omega))
              have c32 := cSt.tk j10 q25 q25s
              have t33t := tkS.lin c32.2.2.2.1
              have t33f := e_Has.get c32.2.1 (c := 275) (k := 88) (lo := 0) (hi := 7) rfl (by decide)
              have wf34 : Hid (w23 275 88 = 0 → wfE w23 N (w23 275 78) (w23 275 94) nt P s (e + 1)) := Hid.mk (fun z => by rw [u27, u30]; exact wfE.pr (j13.out (by omega)) (prE.tk q25))
              show e_Ok 20 elay ecode eI (d + 1) 344 (73, [(1, (0, 12)), (0, (1, 275))], [], w23) _
              refine e_Ok.run (t' := (74, [(1, (0, 12)), (0, (1, 275))], [(1, 275)], w23)) 1 rfl ?_
              refine e_Ok.callV rfl (by omega) rfl rfl rfl rfl ((hS d rfl) w23 N nt s (e + 1) P c32 hNr (by omega) (by omega) (Eq.trans (f31 275 81 (by unfold mEx; omega)) hs) (by omega) (wf34.out (by omega)) (by omega)) (fun r35 w36 h37 => ?_)
              obtain ⟨rfl, q38F, q38c, q38l, q38w⟩ := h37
              unfold cLn at q38l
              replace q38w : Hid (w36 275 88 = 0 → wfE w36 N (w36 275 78) (w36 275 94) nt P s (e + 2)) := Hid.mk (fun z => wfE.d (q38w z) (by omega))
              have f40 : e_fr (mEx (w 275 78) (w 275 94)) w w36 := e_fr.trans f31 (e_fr.mono q38F (fun c k g => by unfold mEx at g; unfold mEx; omega))
              have t41t := tkS.lin q38c.2.2.2.1
              have t41f := e_Has.get q38c.2.1 (c := 275) (k := 88) (lo := 0) (hi := 7) rfl (by decide)
              show e_Ok 20 elay ecode eI (d + 1) 344 (77, [(1, (0, 12)), (0, (1, 275))], [], w36) _
              refine e_Ok.run (t' := (80, [(1, (0, 12)), (0, (1, 275))], [(0, 0), (0, 12), (1, 275)], w36)) 3 rfl ?_
              refine e_Ok.callV rfl (by omega) rfl rfl rfl rfl (c_336 q38c.1 (n := w36 275 78) rfl (by omega) (s := s) (Eq.trans (f40 275 81 (by unfold mEx; omega)) hs) (by omega)) (fun r42 w43 h44 => ?_)
              obtain ⟨rfl, q45⟩ := h44
              have u46 : w43 275 78 = w36 275 78 + 1 := q45.2.2.2.2
              have u47 : w43 275 83 = w36 275 83 := q45.1 275 83 (by omega)
              have u48 : w43 275 84 = w36 275 84 := q45.1 275 84 (by omega)
              have u49 : w43 275 85 = w36 275 85 := q45.1 275 85 (by omega)
              have u50 : w43 275 86 = w36 275 86 := q45.1 275 86 (by omega)
              have u51 : w43 275 87 = w36 275 87 := q45.1 275 87 (by omega)
              have u52 : w43 275 88 = w36 275 88 := q45.1 275 88 (by omega)
              have u53 : w43 275 94 = w36 275 94 := q45.1 275 94 (by omega)
              have f54 : e_fr (mEx (w 275 78) (w 275 94)) w w43 := e_fr.trans f40 (fun c k g => q45.1 c k (fun g2 => g (by unfold mEx; omega)))
              have c55 := cSt.em q38c q45 (by omega) (by omega) (by omega)
              have t56t := tkS.lin c55.2.2.2.1
              have t56f := e_Has.get c55.2.1 (c := 275) (k := 88) (lo := 0) (hi := 7) rfl (by decide)
              have wf57 : Hid (w43 275 88 = 0 → wfE w43 N (w43 275 78) (w43 275 94) nt P s (e + 1)) := Hid.mk (fun z => by rw [u46, u53]; exact wfE.d (wfE.em (q38w.out (by omega)) q45 (by decide) (by decide) (by decide) (by decide) (by unfold iOw; omega) (by rw [show nxD 12 (e + 2) = e + 1 from by unfold nxD; rw [if_neg (by omega), if_neg (by omega), if_pos (by omega)] <;> omega]; omega)) (by unfold nxD; rw [if_neg (by omega), if_neg (by omega), if_pos (by omega)] <;> omega))
              show e_Ok 20 elay ecode eI (d + 1) 344 (83, [(1, (0, 12)), (0, (1, 275))], [(0, w36 275 78)], w43) _
              refine e_Ok.run (t' := (4, [(1, (0, 12)), (0, (1, 275))], [], w43)) 2 rfl ?_
              refine e_Ok.sub eAlk (e_sub_of rfl ?_) (ih8  w43 ⟨f54, c55, (by unfold cLn; omega), by omega, wf57⟩ (by omega))
              exact ⟨rfl, trivial⟩
          · replace h20 : (1 : Int) = 0 := by have q : ¬ ((1 : Int) ≠ 0) := h20; omega
            exfalso; omega
        · show e_Ok 20 elay ecode eI (d + 1) 344 (17, [(0, (1, 275))], [(0, 0)], v1) _
          refine e_Ok.if1 rfl (fun h58 => ?_) (fun h58 => ?_)
          · replace h58 : (0 : Int) ≠ 0 := h58
            exfalso; omega
          · replace h58 : (0 : Int) = 0 := by have q : ¬ ((0 : Int) ≠ 0) := h58; omega
            refine e_Ok.run (t' := (23, [(0, (1, 275))], [(0, 47), (1, 275)], v1)) 2 rfl ?_
            refine e_Ok.callV rfl (by omega) rfl rfl rfl rfl (c_331 j10.1 (N := N) j10.2.2.2.1) (fun r59 w60 h61 => ?_)
            obtain ⟨z62, rfl, rfl, q63⟩ := h61
            obtain ⟨rfl, q63, q63b⟩ | ⟨rfl, q63n⟩ := q63
            · show e_Ok 20 elay ecode eI (d + 1) 344 (26, [(0, (1, 275))], [(0, 1)], v1) _
              refine e_Ok.if1 rfl (fun h64 => ?_) (fun h64 => ?_)
              · replace h64 : (1 : Int) ≠ 0 := h64
                refine e_Ok.run (t' := (39, [(0, (1, 275))], [(1, 275)], v1)) 1 rfl ?_
                refine e_Ok.getf (z := v1 275 85) rfl (el_o rfl) rfl rfl rfl (by omega) ?_
                refine e_Ok.run (t' := (44, [(0, (1, 275))], [(0, 42), (0, v1 275 85)], v1)) 1 rfl ?_
                refine e_Ok.if2 rfl (fun h65 => ?_) (fun h65 => ?_)
                · replace h65 : (v1 275 85 : Int) ≠ 42 := h65
                  refine e_Ok.run (t' := (53, [(0, (1, 275))], [(1, 275)], v1)) 1 rfl ?_
                  refine e_Ok.getf (z := v1 275 85) rfl (el_o rfl) rfl rfl rfl (by omega) ?_
                  refine e_Ok.run (t' := (58, [(0, (1, 275))], [(0, 47), (0, v1 275 85)], v1)) 1 rfl ?_
                  refine e_Ok.if2 rfl (fun h66 => ?_) (fun h66 => ?_)
                  · replace h66 : (v1 275 85 : Int) ≠ 47 := h66
                    exfalso; omega
                  · replace h66 : (v1 275 85 : Int) = 47 := by have q : ¬ ((v1 275 85 : Int) ≠ 47) := h66; omega
                    refine e_Ok.run (t' := (70, [(1, (0, 13)), (0, (1, 275))], [(1, 275)], v1)) 4 rfl ?_
                    refine e_Ok.callV rfl (by omega) rfl rfl rfl rfl (c_327 (by omega) j10.1 j10.2.1 j10.2.2.1 hNr (t := v1 275 87) rfl (by omega)) (fun r67 w68 h69 => ?_)
                    have p71 := tkS.pos j10.2.2.2.1 (by omega)
                    obtain ⟨rfl, q70, q70s, q70t⟩ := h69
                    have u72 : w68 275 78 = v1 275 78 := q70 275 78 (by unfold mTq; omega)
                    have u73 : w68 275 83 = v1 275 83 := q70 275 83 (by unfold mTq; omega)
                    have u74 : w68 275 88 = v1 275 88 := q70 275 88 (by unfold mTq; omega)
                    have u75 : w68 275 94 = v1 275 94 := q70 275 94 (by unfold mTq; omega)
                    have f76 : e_fr (mEx (w 275 78) (w 275 94)) w w68 := e_fr.trans j9 (e_fr.mono q70 (fun c k g => by unfold mTq at g; unfold mEx; omega))
                    have c77 := cSt.tk j10 q70 q70s
                    have t78t := tkS.lin c77.2.2.2.1
                    have t78f := e_Has.get c77.2.1 (c := 275) (k := 88) (lo := 0) (hi := 7) rfl (by decide)
                    have wf79 : Hid (w68 275 88 = 0 → wfE w68 N (w68 275 78) (w68 275 94) nt P s (e + 1)) := Hid.mk (fun z => by rw [u72, u75]; exact wfE.pr (j13.out (by omega)) (prE.tk q70))
                    show e_Ok 20 elay ecode eI (d + 1) 344 (73, [(1, (0, 13)), (0, (1, 275))], [], w68) _
                    refine e_Ok.run (t' := (74, [(1, (0, 13)), (0, (1, 275))], [(1, 275)], w68)) 1 rfl ?_
                    refine e_Ok.callV rfl (by omega) rfl rfl rfl rfl ((hS d rfl) w68 N nt s (e + 1) P c77 hNr (by omega) (by omega) (Eq.trans (f76 275 81 (by unfold mEx; omega)) hs) (by omega) (wf79.out (by omega)) (by omega)) (fun r80 w81 h82 => ?_)
                    obtain ⟨rfl, q83F, q83c, q83l, q83w⟩ := h82
                    unfold cLn at q83l
                    replace q83w : Hid (w81 275 88 = 0 → wfE w81 N (w81 275 78) (w81 275 94) nt P s (e + 2)) := Hid.mk (fun z => wfE.d (q83w z) (by omega))
                    have f84 : e_fr (mEx (w 275 78) (w 275 94)) w w81 := e_fr.trans f76 (e_fr.mono q83F (fun c k g => by unfold mEx at g; unfold mEx; omega))
                    have t85t := tkS.lin q83c.2.2.2.1
                    have t85f := e_Has.get q83c.2.1 (c := 275) (k := 88) (lo := 0) (hi := 7) rfl (by decide)
                    show e_Ok 20 elay ecode eI (d + 1) 344 (77, [(1, (0, 13)), (0, (1, 275))], [], w81) _
                    refine e_Ok.run (t' := (80, [(1, (0, 13)), (0, (1, 275))], [(0, 0), (0, 13), (1, 275)], w81)) 3 rfl ?_
                    refine e_Ok.callV rfl (by omega) rfl rfl rfl rfl (c_336 q83c.1 (n := w81 275 78) rfl (by omega) (s := s) (Eq.trans (f84 275 81 (by unfold mEx; omega)) hs) (by omega)) (fun r86 w87 h88 => ?_)
                    obtain ⟨rfl, q89⟩ := h88
                    have u90 : w87 275 78 = w81 275 78 + 1 := q89.2.2.2.2
                    have u91 : w87 275 83 = w81 275 83 := q89.1 275 83 (by omega)
                    have u92 : w87 275 84 = w81 275 84 := q89.1 275 84 (by omega)
                    have u93 : w87 275 85 = w81 275 85 := q89.1 275 85 (by omega)
                    have u94 : w87 275 86 = w81 275 86 := q89.1 275 86 (by omega)
                    have u95 : w87 275 87 = w81 275 87 := q89.1 275 87 (by omega)
                    have u101 : w87 275 88 = w81 275 88 := q89.1 275 88 (by omega)
                    have u103 : w87 275 94 = w81 275 94 := q89.1 275 94 (by omega)
                    have f104 : e_fr (mEx (w 275 78) (w 275 94)) w w87 := e_fr.trans f84 (fun c k g => q89.1 c k (fun g2 => g (by unfold mEx; omega)))
                    have c105 := cSt.em q83c q89 (by omega) (by omega) (by omega)
                    have t106t := tkS.lin c105.2.2.2.1
                    have t106f := e_Has.get c105.2.1 (c := 275) (k := 88) (lo := 0) (hi := 7) rfl (by decide)
                    have wf107 : Hid (w87 275 88 = 0 → wfE w87 N (w87 275 78) (w87 275 94) nt P s (e + 1)) := Hid.mk (fun z => by rw [u90, u103]; exact wfE.d (wfE.em (q83w.out (by omega)) q89 (by decide) (by decide) (by decide) (by decide) (by unfold iOw; omega) (by rw [show nxD 13 (e + 2) = e + 1 from by unfold nxD; rw [if_neg (by omega), if_neg (by omega), if_pos (by omega)] <;> omega]; omega)) (by unfold nxD; rw [if_neg (by omega), if_neg (by omega), if_pos (by omega)] <;> omega))
                    show e_Ok 20 elay ecode eI (d + 1) 344 (83, [(1, (0, 13)), (0, (1, 275))], [(0, w81 275 78)], w87) _
                    refine e_Ok.run (t' := (4, [(1, (0, 13)), (0, (1, 275))], [], w87)) 2 rfl ?_
                    refine e_Ok.sub eAlk (e_sub_of rfl ?_) (ih8  w87 ⟨f104, c105, (by unfold cLn; omega), by omega, wf107⟩ (by omega))
                    exact ⟨rfl, trivial⟩
                · replace h65 : (v1 275 85 : Int) = 42 := by have q : ¬ ((v1 275 85 : Int) ≠ 42) := h65; omega
                  exfalso; omega
              · replace h64 : (1 : Int) = 0 := by have q : ¬ ((1 : Int) ≠ 0) := h64; omega
                exfalso; omega
            · show e_Ok 20 elay ecode eI (d + 1) 344 (26, [(0, (1, 275))], [(0, 0)], v1) _
              refine e_Ok.if1 rfl (fun h108 => ?_) (fun h108 => ?_)
              · replace h108 : (0 : Int) ≠ 0 := h108
                exfalso; omega
              · replace h108 : (0 : Int) = 0 := by have q : ¬ ((0 : Int) ≠ 0) := h108; omega
                refine e_Ok.run (t' := (32, [(0, (1, 275))], [(0, 37), (1, 275)], v1)) 2 rfl ?_
                refine e_Ok.callV rfl (by omega) rfl rfl rfl rfl (c_331 j10.1 (N := N) j10.2.2.2.1) (fun r109 w110 h111 => ?_)
                obtain ⟨z112, rfl, rfl, q113⟩ := h111
                obtain ⟨rfl, q113, q113b⟩ | ⟨rfl, q113n⟩ := q113
                · show e_Ok 20 elay ecode eI (d + 1) 344 (35, [(0, (1, 275))], [(0, 1)], v1) _
                  refine e_Ok.if1 rfl (fun h114 => ?_) (fun h114 => ?_)
                  · replace h114 : (1 : Int) = 0 := h114
                    exfalso; omega
                  · replace h114 : (1 : Int) ≠ 0 := by have q : ¬ ((1 : Int) = 0) := h114; omega
                    refine e_Ok.run (t' := (39, [(0, (1, 275))], [(1, 275)], v1)) 1 rfl ?_
                    refine e_Ok.getf (z := v1 275 85) rfl (el_o rfl) rfl rfl rfl (by omega) ?_
                    refine e_Ok.run (t' := (44, [(0, (1, 275))], [(0, 42), (0, v1 275 85)], v1)) 1 rfl ?_
                    refine e_Ok.if2 rfl (fun h115 => ?_) (fun h115 => ?_)
                    · replace h115 : (v1 275 85 : Int) ≠ 42 := h115
                      refine e_Ok.run (t' := (53, [(0, (1, 275))], [(1, 275)], v1)) 1 rfl ?_
                      refine e_Ok.getf (z := v1 275 85) rfl (el_o rfl) rfl rfl rfl (by omega) ?_
                      refine e_Ok.run (t' := (58, [(0, (1, 275))], [(0, 47), (0, v1 275 85)], v1)) 1 rfl ?_
                      refine e_Ok.if2 rfl (fun h116 => ?_) (fun h116 => ?_)
                      · replace h116 : (v1 275 85 : Int) ≠ 47 := h116
                        refine e_Ok.run (t' := (70, [(1, (0, 14)), (0, (1, 275))], [(1, 275)], v1)) 3 rfl ?_
                        refine e_Ok.callV rfl (by omega) rfl rfl rfl rfl (c_327 (by omega) j10.1 j10.2.1 j10.2.2.1 hNr (t := v1 275 87) rfl (by omega)) (fun r117 w118 h119 => ?_)
                        have p121 := tkS.pos j10.2.2.2.1 (by omega)
                        obtain ⟨rfl, q120, q120s, q120t⟩ := h119
                        have u122 : w118 275 78 = v1 275 78 := q120 275 78 (by unfold mTq; omega)
                        have u123 : w118 275 83 = v1 275 83 := q120 275 83 (by unfold mTq; omega)
                        have u124 : w118 275 88 = v1 275 88 := q120 275 88 (by unfold mTq; omega)
                        have u125 : w118 275 94 = v1 275 94 := q120 275 94 (by unfold mTq; omega)
                        have f126 : e_fr (mEx (w 275 78) (w 275 94)) w w118 := e_fr.trans j9 (e_fr.mono q120 (fun c k g => by unfold mTq at g; unfold mEx; omega))
                        have c127 := cSt.tk j10 q120 q120s
                        have t128t := tkS.lin c127.2.2.2.1
                        have t128f := e_Has.get c127.2.1 (c := 275) (k := 88) (lo := 0) (hi := 7) rfl (by decide)
                        have wf129 : Hid (w118 275 88 = 0 → wfE w118 N (w118 275 78) (w118 275 94) nt P s (e + 1)) := Hid.mk (fun z => by rw [u122, u125]; exact wfE.pr (j13.out (by omega)) (prE.tk q120))
                        show e_Ok 20 elay ecode eI (d + 1) 344 (73, [(1, (0, 14)), (0, (1, 275))], [], w118) _
                        refine e_Ok.run (t' := (74, [(1, (0, 14)), (0, (1, 275))], [(1, 275)], w118)) 1 rfl ?_
                        refine e_Ok.callV rfl (by omega) rfl rfl rfl rfl ((hS d rfl) w118 N nt s (e + 1) P c127 hNr (by omega) (by omega) (Eq.trans (f126 275 81 (by unfold mEx; omega)) hs) (by omega) (wf129.out (by omega)) (by omega)) (fun r130 w131 h132 => ?_)
                        obtain ⟨rfl, q133F, q133c, q133l, q133w⟩ := h132
                        unfold cLn at q133l
                        replace q133w : Hid (w131 275 88 = 0 → wfE w131 N (w131 275 78) (w131 275 94) nt P s (e + 2)) := Hid.mk (fun z => wfE.d (q133w z) (by omega))
                        have f134 : e_fr (mEx (w 275 78) (w 275 94)) w w131 := e_fr.trans f126 (e_fr.mono q133F (fun c k g => by unfold mEx at g; unfold mEx; omega))
                        have t135t := tkS.lin q133c.2.2.2.1
                        have t135f := e_Has.get q133c.2.1 (c := 275) (k := 88) (lo := 0) (hi := 7) rfl (by decide)
                        show e_Ok 20 elay ecode eI (d + 1) 344 (77, [(1, (0, 14)), (0, (1, 275))], [], w131) _
                        refine e_Ok.run (t' := (80, [(1, (0, 14)), (0, (1, 275))], [(0, 0), (0, 14), (1, 275)], w131)) 3 rfl ?_
                        refine e_Ok.callV rfl (by omega) rfl rfl rfl rfl (c_336 q133c.1 (n := w131 275 78) rfl (by omega) (s := s) (Eq.trans (f134 275 81 (by unfold mEx; omega)) hs) (by omega)) (fun r136 w137 h138 => ?_)
                        obtain ⟨rfl, q139⟩ := h138
                        have u140 : w137 275 78 = w131 275 78 + 1 := q139.2.2.2.2
                        have u141 : w137 275 83 = w131 275 83 := q139.1 275 83 (by omega)
                        have u142 : w137 275 84 = w131 275 84 := q139.1 275 84 (by omega)
                        have u143 : w137 275 85 = w131 275 85 := q139.1 275 85 (by omega)
                        have u144 : w137 275 86 = w131 275 86 := q139.1 275 86 (by omega)
                        have u145 : w137 275 87 = w131 275 87 := q139.1 275 87 (by omega)
                        have u146 : w137 275 88 = w131 275 88 := q139.1 275 88 (by omega)
                        have u147 : w137 275 94 = w131 275 94 := q139.1 275 94 (by omega)
                        have f148 : e_fr (mEx (w 275 78) (w 275 94)) w w137 := e_fr.trans f134 (fun c k g => q139.1 c k (fun g2 => g (by unfold mEx; omega)))
                        have c149 := cSt.em q133c q139 (by omega) (by omega) (by omega)
                        have t150t := tkS.lin c149.2.2.2.1
                        have t150f := e_Has.get c149.2.1 (c := 275) (k := 88) (lo := 0) (hi := 7) rfl (by decide)
                        have wf151 : Hid (w137 275 88 = 0 → wfE w137 N (w137 275 78) (w137 275 94) nt P s (e + 1)) := Hid.mk (fun z => by rw [u140, u147]; exact wfE.d (wfE.em (q133w.out (by omega)) q139 (by decide) (by decide) (by decide) (by decide) (by unfold iOw; omega) (by rw [show nxD 14 (e + 2) = e + 1 from by unfold nxD; rw [if_neg (by omega), if_neg (by omega), if_pos (by omega)] <;> omega]; omega)) (by unfold nxD; rw [if_neg (by omega), if_neg (by omega), if_pos (by omega)] <;> omega))
                        show e_Ok 20 elay ecode eI (d + 1) 344 (83, [(1, (0, 14)), (0, (1, 275))], [(0, w131 275 78)], w137) _
                        refine e_Ok.run (t' := (4, [(1, (0, 14)), (0, (1, 275))], [], w137)) 2 rfl ?_
                        refine e_Ok.sub eAlk (e_sub_of rfl ?_) (ih8  w137 ⟨f148, c149, (by unfold cLn; omega), by omega, wf151⟩ (by omega))
                        exact ⟨rfl, trivial⟩
                      · replace h116 : (v1 275 85 : Int) = 47 := by have q : ¬ ((v1 275 85 : Int) ≠ 47) := h116; omega
                        exfalso; omega
                    · replace h115 : (v1 275 85 : Int) = 42 := by have q : ¬ ((v1 275 85 : Int) ≠ 42) := h115; omega
                      exfalso; omega
                · show e_Ok 20 elay ecode eI (d + 1) 344 (35, [(0, (1, 275))], [(0, 0)], v1) _
                  refine e_Ok.if1 rfl (fun h152 => ?_) (fun h152 => ?_)
                  · replace h152 : (0 : Int) = 0 := h152
                    refine e_Ok.rets rfl rfl ?_
                    exact ⟨rfl, j9, j10, by unfold cLn; omega, j13.out⟩
                  · replace h152 : (0 : Int) ≠ 0 := by have q : ¬ ((0 : Int) = 0) := h152; omega
                    exfalso; omega
  refine e_Ok.sub eAlk (e_sub_of rfl ?_) (hL7 (4001 + 1 : Int).toNat  w2 ⟨f5, q4c, (by unfold cLn; omega), by omega, q4w⟩ (by omega))
  exact ⟨rfl, trivial⟩
end
