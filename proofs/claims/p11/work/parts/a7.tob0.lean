-- part a7
section
noncomputable section
theorem no_a7_0 {n : Int} {m : Int} : ¬ mEx n m 275 81 := by unfold mEx; omega
theorem no_a7_1 : ¬ mTq 275 78 := by unfold mTq; omega
theorem no_a7_2 : ¬ mTq 275 83 := by unfold mTq; omega
theorem no_a7_3 : ¬ mTq 275 88 := by unfold mTq; omega
theorem no_a7_4 : ¬ mTq 275 94 := by unfold mTq; omega
theorem no_a7_5 {k : Int} : ¬ mTq 329 k := by unfold mTq; omega
theorem no_a7_6 {k : Int} : ¬ mTq 328 k := by unfold mTq; omega
theorem no_a7_7 {k : Int} : ¬ mTq 330 k := by unfold mTq; omega
set_option maxHeartbeats 4000000 in
theorem c_340 {d : Nat} (hd : 47 ≤ d) {w : eW} {N nt s e o F : Int} {P : Int → Prop} (hc : cSt w N) (hNr : 0 ≤ N ∧ N ≤ 4000) (h0 : w 275 88 = 0) (ho : w 275 83 = o) (hs : w 275 81 = s) (hb : 0 ≤ w 275 78 ∧ w 275 78 + 2 * (N - w 275 86) ≤ 8100 ∧ 0 ≤ w 275 94 ∧ w 275 94 + (N - w 275 86) ≤ 4050) (hw : wfE w N (w 275 78) (w 275 94) nt P s e) (he : e ≤ w 275 86) (hor : 0 ≤ o ∧ o ≤ 30) (hF : 0 ≤ F ∧ F ≤ 400) (hS : ∀ k, d = k + 1 → exC 342 o F k) : e_Ok 20 elay ecode eI d 340 (0, [(0, (1, 275))], [], w) (fun r w' => r = [] ∧ exQ w w' N nt P s (e + 1) (F + 1)) := by
  obtain ⟨d, rfl⟩ : ∃ e, d = e + 1 := ⟨d - 1, by omega⟩
  have hct := tkS.lin hc.2.2.2.1
  have hcf := e_Has.get hc.2.1 (c := 275) (k := 88) (lo := 0) (hi := 7) rfl (by decide)
  have hsb := hc.2.2.2.2
  rw [hs] at hsb
  have he0 := hw.2.2.2.2.2.1
  have hwH : Hid (w 275 88 = 0 → wfE w N (w 275 78) (w 275 94) nt P s e) := Hid.mk (fun _ => hw)
  refine e_Ok.run (t' := (1, [(0, (1, 275))], [(1, 275)], w)) 1 rfl ?_
  refine e_Ok.callV rfl (e_dq hd rfl) rfl rfl rfl rfl ((hS d rfl) w N nt s (e) P hc hNr (by omega) (by omega) hs (by omega) (hwH.out (by omega)) (by omega)) (fun r1 w2 h3 => ?_)
  obtain ⟨rfl, q4F, q4c, q4l, q4w⟩ := h3
  unfold cLn at q4l
  replace q4w : Hid (w2 275 88 = 0 → wfE w2 N (w2 275 78) (w2 275 94) nt P s (e + 1)) := Hid.mk (fun z => wfE.d (q4w z) (by omega))
  have t6t := tkS.lin q4c.2.2.2.1
  have t6f := e_Has.get q4c.2.1 (c := 275) (k := 88) (lo := 0) (hi := 7) rfl (by decide)
  refine e_Ok.nrm (q := 4) (st' := []) rfl rfl ?_
  refine e_Ok.run (t' := (6, [(1, (0, (-1))), (0, (1, 275))], [], w2)) 2 rfl ?_
  have hL7 : ∀ (nn : Nat) (y1 : Int) (v1 : eW) (Q : Int → Prop), e_fr (mEx (w 275 78) (w 275 94)) w v1 ∧ cSt v1 N ∧ cLn w v1 F ∧ ((0 ≤ v1 275 86 ∧ v1 275 86 ≤ N)) ∧ CHN v1 (v1 275 78) y1 Q ∧ (∀ p, Q p → w 275 78 ≤ p) ∧ (0 ≤ y1 → v1 275 88 = 0 → v1 275 78 + 1 ≤ w 275 78 + 2 * (v1 275 86 - w 275 86)) ∧ (Hid (v1 275 88 = 0 → wfE v1 N (v1 275 78) (v1 275 94) nt (fun p => P p ∨ Q p) s (e + 1) ∧ chO v1 Q s (e + 1))) ∧ ((-1 ≤ y1 ∧ y1 ≤ 9900)) → N - v1 275 86 < nn → e_Ok 20 elay ecode eI (d + 1) 340 (6, [(0, (1, 275)), (1, (0, y1))], [], v1) (fun r w' => r = [] ∧ exQ w w' N nt P s (e + 1) (F + 1)) := by
    intro nn
    induction nn with
    | zero => intro y1 v1 Q hj hm; obtain ⟨j9, j10, j11, j12, j13, j14, j15, j16, j17⟩ := hj; exfalso; omega
    | succ nn ih8 =>
      intro y1 v1 Q hj hm
      obtain ⟨j9, j10, j11, j12, j13, j14, j15, j16, j17⟩ := hj
      have xl := j11
      unfold cLn at xl
      have xt := tkS.lin j10.2.2.2.1
      have xf := e_Has.get j10.2.1 (c := 275) (k := 88) (lo := 0) (hi := 7) rfl (by decide)
      have wf18 : Hid (v1 275 88 = 0 → wfE v1 N (v1 275 78) (v1 275 94) nt (fun p => P p ∨ Q p) s (e + 1)) := Hid.mk (fun z => (j16.out z).1)
      refine e_Ok.run (t' := (7, [(0, (1, 275)), (1, (0, y1))], [(1, 275)], v1)) 1 rfl ?_
      refine e_Ok.getf (z := v1 275 88) rfl (el_o rfl) rfl (ef_o rfl) rfl (by omega) ?_
      refine e_Ok.if1 rfl (fun h19 => ?_) (fun h19 => ?_)
      · replace h19 : (v1 275 88 : Int) ≠ 0 := h19
        refine e_Ok.ps2 (x := (0, y1)) (y := (1, 275)) (q := 43) 2 rfl ?_
        refine e_Ok.callV rfl (e_dq hd rfl) rfl rfl rfl rfl (c_341 (e_dq hd rfl) j10.1 (n := v1 275 78) rfl (by omega) (s := s) (Eq.trans (j9 275 81 (by first | exact no_a7_0 | (unfold mEx; omega))) hs) (by omega) (by omega) j13) (fun r20 w21 h22 => ?_)
        obtain ⟨rfl, q23⟩ := h22
        obtain ⟨rfl, q23c⟩ | ⟨q23c, w24, q23e, q23T, q239, q23o⟩ := q23
        · refine e_Ok.nrm (q := 46) (st' := []) rfl rfl ?_
          have wf25 : Hid (v1 275 88 = 0 → wfE v1 N (v1 275 78) (v1 275 94) nt P s (e + 1)) := Hid.mk (fun z => wfE.cg (j16.out z).1 (fun p => ⟨fun g => Or.inl g, fun g => g.elim id (fun g => by have := j13.2.2.1 p g; omega)⟩))
          refine e_Ok.rets rfl rfl ?_
          exact ⟨rfl, j9, j10, by unfold cLn; omega, (fun z => absurd z (by omega))⟩
        · refine e_Ok.nrm (q := 46) (st' := []) rfl rfl ?_
          have u26 : w21 275 78 = v1 275 78 + 1 := Eq.trans (q23o 275 78 (fun z => absurd z.1 (by decide))) q23e.2.2.2.2
          have u27 : w21 275 83 = v1 275 83 := Eq.trans (q23o 275 83 (fun z => absurd z.1 (by decide))) (q23e.1 275 83 (by omega))
          have u28 : w21 275 84 = v1 275 84 := Eq.trans (q23o 275 84 (fun z => absurd z.1 (by decide))) (q23e.1 275 84 (by omega))
          have u29 : w21 275 85 = v1 275 85 := Eq.trans (q23o 275 85 (fun z => absurd z.1 (by decide))) (q23e.1 275 85 (by omega))
          have u30 : w21 275 86 = v1 275 86 := Eq.trans (q23o 275 86 (fun z => absurd z.1 (by decide))) (q23e.1 275 86 (by omega))
          have u31 : w21 275 87 = v1 275 87 := Eq.trans (q23o 275 87 (fun z => absurd z.1 (by decide))) (q23e.1 275 87 (by omega))
          have u32 : w21 275 88 = v1 275 88 := Eq.trans (q23o 275 88 (fun z => absurd z.1 (by decide))) (q23e.1 275 88 (by omega))
          have u33 : w21 275 94 = v1 275 94 := Eq.trans (q23o 275 94 (fun z => absurd z.1 (by decide))) (q23e.1 275 94 (by omega))
          have c35 := cSt.cl j10 q23e q23o q23T (by omega)
          have t36t := tkS.lin c35.2.2.2.1
          have t36f := e_Has.get c35.2.1 (c := 275) (k := 88) (lo := 0) (hi := 7) rfl (by decide)
          have wf37 : Hid (w21 275 88 = 0 → wfE w21 N (w21 275 78) (w21 275 94) nt P s (e + 1)) := Hid.mk (fun z => by rw [u26, u33]; exact wfE.close (j16.out (by omega)).1 q23e (by omega) (fun p g => ⟨by have := j13.2.2.1 p g; omega, ((j16.out (by omega)).2 p g).1, ((j16.out (by omega)).2 p g).2.1, ((j16.out (by omega)).2 p g).2.2⟩) q239 q23o)
          refine e_Ok.rets rfl rfl ?_
          exact ⟨rfl, (show e_fr (mEx (w 275 78) (w 275 94)) w w21 from e_fr.trans j9 (fun c k g => Eq.trans (q23o c k (fun ⟨z1, p, z2, z3⟩ => g (by have h1 := j14 p z2; unfold mEx; omega))) (q23e.1 c k (fun g2 => g (by unfold mEx; omega))))), c35, by unfold cLn; omega, (fun z => absurd z (by omega))⟩
      · replace h19 : (v1 275 88 : Int) = 0 := Classical.not_not.mp (show ¬ ((v1 275 88 : Int) ≠ 0) from h19)
        refine e_Ok.ps2 (x := (0, 25)) (y := (1, 275)) (q := 16) 2 rfl ?_
        refine e_Ok.callV rfl (e_dq hd rfl) rfl rfl rfl rfl (c_332 j10.1 (N := N) j10.2.2.2.1) (fun r38 w40 h41 => ?_)
        obtain ⟨z42, rfl, rfl, q43⟩ := h41
        obtain ⟨rfl, q43, q43b⟩ | ⟨rfl, q43n⟩ := q43
        · refine e_Ok.nrm (q := 19) (st' := [(0, 1)]) rfl rfl ?_
          refine e_Ok.if1 rfl (fun h44 => ?_) (fun h44 => ?_)
          · replace h44 : (1 : Int) = 0 := h44
            exfalso; omega
          · replace h44 : (1 : Int) ≠ 0 := (show ¬ ((1 : Int) = 0) from h44)
            refine e_Ok.ps3 (x := (0, y1)) (y := (0, 23)) (z := (1, 275)) (q := 26) 3 rfl ?_
            refine e_Ok.callV rfl (e_dq hd rfl) rfl rfl rfl rfl (c_336 j10.1 (n := v1 275 78) rfl (by omega) (s := s) (Eq.trans (j9 275 81 (by first | exact no_a7_0 | (unfold mEx; omega))) hs) (by omega)) (fun r45 w46 h47 => ?_)
            obtain ⟨rfl, q48⟩ := h47
            have u49 : w46 275 78 = v1 275 78 + 1 := q48.2.2.2.2
            have u50 : w46 275 83 = v1 275 83 := q48.1 275 83 (by omega)
            have u51 : w46 275 84 = v1 275 84 := q48.1 275 84 (by omega)
            have u52 : w46 275 85 = v1 275 85 := q48.1 275 85 (by omega)
            have u53 : w46 275 86 = v1 275 86 := q48.1 275 86 (by omega)
            have u54 : w46 275 87 = v1 275 87 := q48.1 275 87 (by omega)
            have u55 : w46 275 88 = v1 275 88 := q48.1 275 88 (by omega)
            have u56 : w46 275 94 = v1 275 94 := q48.1 275 94 (by omega)
            have c58 := cSt.em j10 q48 (by omega) (by omega) (by omega)
            have t59t := tkS.lin c58.2.2.2.1
            have t59f := e_Has.get c58.2.1 (c := 275) (k := 88) (lo := 0) (hi := 7) rfl (by decide)
            have wf60 : Hid (w46 275 88 = 0 → wfE w46 N (w46 275 78) (w46 275 94) nt (fun p => (fun p => P p ∨ Q p) p ∨ p = v1 275 78) s (e)) := Hid.mk (fun z => by rw [u49, u56]; exact wfE.d (wfE.jump (wf18.out (by omega)) q48 (by decide) (by omega)) (by omega))
            refine e_Ok.nrm (q := 29) (st' := [(0, v1 275 78)]) rfl rfl ?_
            refine e_Ok.run (t' := (31, [(1, (0, v1 275 78)), (0, (1, 275))], [(1, 275)], w46)) 2 rfl ?_
            refine e_Ok.callV rfl (e_dq hd rfl) rfl rfl rfl rfl (c_327 (e_dq hd rfl) c58.1 c58.2.1 c58.2.2.1 hNr (t := w46 275 87) rfl (by omega)) (fun r61 w62 h63 => ?_)
            have p65 := tkS.pos c58.2.2.2.1 (by omega)
            have p66 := tkS.key c58.2.2.2.1 (by omega)
            obtain ⟨rfl, q64, q64s, q64t⟩ := h63
            have u67 : w62 275 78 = w46 275 78 := q64 275 78 no_a7_1
            have u68 : w62 275 83 = w46 275 83 := q64 275 83 no_a7_2
            have u69 : w62 275 88 = w46 275 88 := q64 275 88 no_a7_3
            have u70 : w62 275 94 = w46 275 94 := q64 275 94 no_a7_4
            have f71 : e_fr (mEx (w 275 78) (w 275 94)) w w62 := e_fr.trans (show e_fr (mEx (w 275 78) (w 275 94)) w w46 from e_fr.trans j9 (fun c k g => q48.1 c k (fun g2 => g (by unfold mEx; omega)))) (e_fr.mono q64 (fun c k g => by unfold mTq at g; unfold mEx; omega))
            have c72 := cSt.tk c58 q64 q64s
            have t73t := tkS.lin c72.2.2.2.1
            have t73f := e_Has.get c72.2.1 (c := 275) (k := 88) (lo := 0) (hi := 7) rfl (by decide)
            have wf74 : Hid (w62 275 88 = 0 → wfE w62 N (w62 275 78) (w62 275 94) nt (fun p => (fun p => P p ∨ Q p) p ∨ p = v1 275 78) s (e)) := Hid.mk (fun z => by rw [u67, u70]; exact wfE.pr (wf60.out (by omega)) (prE.tk q64))
            refine e_Ok.nrm (q := 34) (st' := []) rfl rfl ?_
            refine e_Ok.ps1 (x := (1, 275)) (q := 35) 1 rfl ?_
            refine e_Ok.callV rfl (e_dq hd rfl) rfl rfl rfl rfl ((hS d rfl) w62 N nt s (e) (fun p => (fun p => P p ∨ Q p) p ∨ p = v1 275 78) c72 hNr (by omega) (by omega) (Eq.trans (f71 275 81 (by first | exact no_a7_0 | (unfold mEx; omega))) hs) (by omega) (wf74.out (by omega)) (by omega)) (fun r75 w76 h77 => ?_)
            obtain ⟨rfl, q78F, q78c, q78l, q78w⟩ := h77
            unfold cLn at q78l
            replace q78w : Hid (w76 275 88 = 0 → wfE w76 N (w76 275 78) (w76 275 94) nt (fun p => (fun p => P p ∨ Q p) p ∨ p = v1 275 78) s (e + 1)) := Hid.mk (fun z => wfE.d (q78w z) (by omega))
            have t80t := tkS.lin q78c.2.2.2.1
            have t80f := e_Has.get q78c.2.1 (c := 275) (k := 88) (lo := 0) (hi := 7) rfl (by decide)
            refine e_Ok.nrm (q := 38) (st' := []) rfl rfl ?_
            refine e_Ok.ps0 (q := 6) 1 rfl ?_
            refine e_Ok.sub eAlk (e_sub_of rfl ?_) (ih8 (v1 275 78) w76 (fun p => Q p ∨ p = v1 275 78) ⟨(show e_fr (mEx (w 275 78) (w 275 94)) w w76 from e_fr.trans f71 (e_fr.mono q78F (fun c k g => by unfold mEx at g; unfold mEx; omega))), q78c, (by unfold cLn; omega), by omega, (CHN.keep (CHN.add j13 q48 (by omega)) (by omega) (fun p g1 g2 => Eq.trans (q78F 329 _ (by unfold mEx; omega)) (q64 329 _ no_a7_5))), (fun p g => by rcases g with g | g; exact j14 p g; omega), (fun _ z => by omega), (Hid.mk (fun z => ⟨wfE.cg (q78w.out z) (fun p => ⟨fun g => g.elim (fun g => Or.inl (Or.inl g)) (fun g => g.elim (fun g => Or.inl (Or.inr g)) Or.inr), fun g => g.elim (fun g => g.elim Or.inl (fun g => Or.inr (Or.inl g))) (fun g => Or.inr (Or.inr g))⟩), chO.keep (n := v1 275 78 + 1) (chO.add (j16.out (by omega)).2 (fun p g => by have := j13.2.2.1 p g; omega) q48 (by decide) (j16.out (by omega)).1.2.2.2.1) (fun p g => by rcases g with g | g; have := j13.2.2.1 p g; omega; omega) (fun p g => ⟨Eq.trans (q78F 328 _ (by unfold mEx; omega)) (q64 328 _ no_a7_6), Eq.trans (q78F 330 _ (by unfold mEx; omega)) (q64 330 _ no_a7_7)⟩)⟩)), by omega⟩ (by omega))
            exact ⟨rfl, rfl, trivial⟩
        · refine e_Ok.nrm (q := 19) (st' := [(0, 0)]) rfl rfl ?_
          refine e_Ok.if1 rfl (fun h81 => ?_) (fun h81 => ?_)
          · replace h81 : (0 : Int) = 0 := h81
            refine e_Ok.ps2 (x := (0, y1)) (y := (1, 275)) (q := 43) 2 rfl ?_
            refine e_Ok.callV rfl (e_dq hd rfl) rfl rfl rfl rfl (c_341 (e_dq hd rfl) j10.1 (n := v1 275 78) rfl (by omega) (s := s) (Eq.trans (j9 275 81 (by first | exact no_a7_0 | (unfold mEx; omega))) hs) (by omega) (by omega) j13) (fun r82 w83 h84 => ?_)
            obtain ⟨rfl, q85⟩ := h84
            obtain ⟨rfl, q85c⟩ | ⟨q85c, w86, q85e, q85T, q859, q85o⟩ := q85
            · refine e_Ok.nrm (q := 46) (st' := []) rfl rfl ?_
              have wf87 : Hid (v1 275 88 = 0 → wfE v1 N (v1 275 78) (v1 275 94) nt P s (e + 1)) := Hid.mk (fun z => wfE.cg (j16.out z).1 (fun p => ⟨fun g => Or.inl g, fun g => g.elim id (fun g => by have := j13.2.2.1 p g; omega)⟩))
              refine e_Ok.rets rfl rfl ?_
              exact ⟨rfl, j9, j10, by unfold cLn; omega, wf87.out⟩
            · refine e_Ok.nrm (q := 46) (st' := []) rfl rfl ?_
              have u88 : w83 275 78 = v1 275 78 + 1 := Eq.trans (q85o 275 78 (fun z => absurd z.1 (by decide))) q85e.2.2.2.2
              have u89 : w83 275 83 = v1 275 83 := Eq.trans (q85o 275 83 (fun z => absurd z.1 (by decide))) (q85e.1 275 83 (by omega))
              have u90 : w83 275 84 = v1 275 84 := Eq.trans (q85o 275 84 (fun z => absurd z.1 (by decide))) (q85e.1 275 84 (by omega))
              have u91 : w83 275 85 = v1 275 85 := Eq.trans (q85o 275 85 (fun z => absurd z.1 (by decide))) (q85e.1 275 85 (by omega))
              have u92 : w83 275 86 = v1 275 86 := Eq.trans (q85o 275 86 (fun z => absurd z.1 (by decide))) (q85e.1 275 86 (by omega))
              have u93 : w83 275 87 = v1 275 87 := Eq.trans (q85o 275 87 (fun z => absurd z.1 (by decide))) (q85e.1 275 87 (by omega))
              have u94 : w83 275 88 = v1 275 88 := Eq.trans (q85o 275 88 (fun z => absurd z.1 (by decide))) (q85e.1 275 88 (by omega))
              have u95 : w83 275 94 = v1 275 94 := Eq.trans (q85o 275 94 (fun z => absurd z.1 (by decide))) (q85e.1 275 94 (by omega))
              have c103 := cSt.cl j10 q85e q85o q85T (by omega)
              have t104t := tkS.lin c103.2.2.2.1
              have t104f := e_Has.get c103.2.1 (c := 275) (k := 88) (lo := 0) (hi := 7) rfl (by decide)
              have wf105 : Hid (w83 275 88 = 0 → wfE w83 N (w83 275 78) (w83 275 94) nt P s (e + 1)) := Hid.mk (fun z => by rw [u88, u95]; exact wfE.close (j16.out (by omega)).1 q85e (by omega) (fun p g => ⟨by have := j13.2.2.1 p g; omega, ((j16.out (by omega)).2 p g).1, ((j16.out (by omega)).2 p g).2.1, ((j16.out (by omega)).2 p g).2.2⟩) q859 q85o)
              refine e_Ok.rets rfl rfl ?_
              exact ⟨rfl, (show e_fr (mEx (w 275 78) (w 275 94)) w w83 from e_fr.trans j9 (fun c k g => Eq.trans (q85o c k (fun ⟨z1, p, z2, z3⟩ => g (by have h1 := j14 p z2; unfold mEx; omega))) (q85e.1 c k (fun g2 => g (by unfold mEx; omega))))), c103, by unfold cLn; omega, wf105.out⟩
          · replace h81 : (0 : Int) ≠ 0 := (show ¬ ((0 : Int) = 0) from h81)
            exfalso; omega
  refine e_Ok.sub eAlk (e_sub_of rfl ?_) (hL7 (4001 + 1 : Int).toNat (-1) w2 (fun _ => False) ⟨(show e_fr (mEx (w 275 78) (w 275 94)) w w2 from e_fr.trans (e_fr.refl w) (e_fr.mono q4F (fun c k g => by unfold mEx at g; unfold mEx; omega))), q4c, (by unfold cLn; omega), by omega, (CHN.zero _ _), (fun p g => g.elim), (fun g => by omega), (Hid.mk (fun z => ⟨wfE.cg (q4w.out z) (fun p => ⟨fun g => g.elim id False.elim, Or.inl⟩), fun p g => g.elim⟩)), by omega⟩ (by omega))
  exact ⟨rfl, rfl, trivial⟩
set_option maxHeartbeats 4000000 in
theorem c_339 {d : Nat} (hd : 47 ≤ d) {w : eW} {N nt s e o F : Int} {P : Int → Prop} (hc : cSt w N) (hNr : 0 ≤ N ∧ N ≤ 4000) (h0 : w 275 88 = 0) (ho : w 275 83 = o) (hs : w 275 81 = s) (hb : 0 ≤ w 275 78 ∧ w 275 78 + 2 * (N - w 275 86) ≤ 8100 ∧ 0 ≤ w 275 94 ∧ w 275 94 + (N - w 275 86) ≤ 4050) (hw : wfE w N (w 275 78) (w 275 94) nt P s e) (he : e ≤ w 275 86) (hor : 0 ≤ o ∧ o ≤ 30) (hF : 0 ≤ F ∧ F ≤ 400) (hS : ∀ k, d = k + 1 → exC 340 o F k) : e_Ok 20 elay ecode eI d 339 (0, [(0, (1, 275))], [], w) (fun r w' => r = [] ∧ exQ w w' N nt P s (e + 1) (F + 1)) := by
  obtain ⟨d, rfl⟩ : ∃ e, d = e + 1 := ⟨d - 1, by omega⟩
  have hct := tkS.lin hc.2.2.2.1
  have hcf := e_Has.get hc.2.1 (c := 275) (k := 88) (lo := 0) (hi := 7) rfl (by decide)
  have hsb := hc.2.2.2.2
  rw [hs] at hsb
  have he0 := hw.2.2.2.2.2.1
  have hwH : Hid (w 275 88 = 0 → wfE w N (w 275 78) (w 275 94) nt P s e) := Hid.mk (fun _ => hw)
  refine e_Ok.run (t' := (1, [(0, (1, 275))], [(1, 275)], w)) 1 rfl ?_
  refine e_Ok.callV rfl (e_dq hd rfl) rfl rfl rfl rfl ((hS d rfl) w N nt s (e) P hc hNr (by omega) (by omega) hs (by omega) (hwH.out (by omega)) (by omega)) (fun r1 w2 h3 => ?_)
  obtain ⟨rfl, q4F, q4c, q4l, q4w⟩ := h3
  unfold cLn at q4l
  replace q4w : Hid (w2 275 88 = 0 → wfE w2 N (w2 275 78) (w2 275 94) nt P s (e + 1)) := Hid.mk (fun z => wfE.d (q4w z) (by omega))
  have t6t := tkS.lin q4c.2.2.2.1
  have t6f := e_Has.get q4c.2.1 (c := 275) (k := 88) (lo := 0) (hi := 7) rfl (by decide)
  refine e_Ok.nrm (q := 4) (st' := []) rfl rfl ?_
  refine e_Ok.run (t' := (6, [(1, (0, (-1))), (0, (1, 275))], [], w2)) 2 rfl ?_
  have hL7 : ∀ (nn : Nat) (y1 : Int) (v1 : eW) (Q : Int → Prop), e_fr (mEx (w 275 78) (w 275 94)) w v1 ∧ cSt v1 N ∧ cLn w v1 F ∧ ((0 ≤ v1 275 86 ∧ v1 275 86 ≤ N)) ∧ CHN v1 (v1 275 78) y1 Q ∧ (∀ p, Q p → w 275 78 ≤ p) ∧ (0 ≤ y1 → v1 275 88 = 0 → v1 275 78 + 1 ≤ w 275 78 + 2 * (v1 275 86 - w 275 86)) ∧ (Hid (v1 275 88 = 0 → wfE v1 N (v1 275 78) (v1 275 94) nt (fun p => P p ∨ Q p) s (e + 1) ∧ chO v1 Q s (e + 1))) ∧ ((-1 ≤ y1 ∧ y1 ≤ 9900)) → N - v1 275 86 < nn → e_Ok 20 elay ecode eI (d + 1) 339 (6, [(0, (1, 275)), (1, (0, y1))], [], v1) (fun r w' => r = [] ∧ exQ w w' N nt P s (e + 1) (F + 1)) := by
    intro nn
    induction nn with
    | zero => intro y1 v1 Q hj hm; obtain ⟨j9, j10, j11, j12, j13, j14, j15, j16, j17⟩ := hj; exfalso; omega
    | succ nn ih8 =>
      intro y1 v1 Q hj hm
      obtain ⟨j9, j10, j11, j12, j13, j14, j15, j16, j17⟩ := hj
      have xl := j11
      unfold cLn at xl
      have xt := tkS.lin j10.2.2.2.1
      have xf := e_Has.get j10.2.1 (c := 275) (k := 88) (lo := 0) (hi := 7) rfl (by decide)
      have wf18 : Hid (v1 275 88 = 0 → wfE v1 N (v1 275 78) (v1 275 94) nt (fun p => P p ∨ Q p) s (e + 1)) := Hid.mk (fun z => (j16.out z).1)
      refine e_Ok.run (t' := (7, [(0, (1, 275)), (1, (0, y1))], [(1, 275)], v1)) 1 rfl ?_
      refine e_Ok.getf (z := v1 275 88) rfl (el_o rfl) rfl (ef_o rfl) rfl (by omega) ?_
      refine e_Ok.if1 rfl (fun h19 => ?_) (fun h19 => ?_)
      · replace h19 : (v1 275 88 : Int) ≠ 0 := h19
        refine e_Ok.ps2 (x := (0, y1)) (y := (1, 275)) (q := 43) 2 rfl ?_
        refine e_Ok.callV rfl (e_dq hd rfl) rfl rfl rfl rfl (c_341 (e_dq hd rfl) j10.1 (n := v1 275 78) rfl (by omega) (s := s) (Eq.trans (j9 275 81 (by first | exact no_a7_0 | (unfold mEx; omega))) hs) (by omega) (by omega) j13) (fun r20 w21 h22 => ?_)
        obtain ⟨rfl, q23⟩ := h22
        obtain ⟨rfl, q23c⟩ | ⟨q23c, w24, q23e, q23T, q239, q23o⟩ := q23
        · refine e_Ok.nrm (q := 46) (st' := []) rfl rfl ?_
          have wf25 : Hid (v1 275 88 = 0 → wfE v1 N (v1 275 78) (v1 275 94) nt P s (e + 1)) := Hid.mk (fun z => wfE.cg (j16.out z).1 (fun p => ⟨fun g => Or.inl g, fun g => g.elim id (fun g => by have := j13.2.2.1 p g; omega)⟩))
          refine e_Ok.rets rfl rfl ?_
          exact ⟨rfl, j9, j10, by unfold cLn; omega, (fun z => absurd z (by omega))⟩
        · refine e_Ok.nrm (q := 46) (st' := []) rfl rfl ?_
          have u26 : w21 275 78 = v1 275 78 + 1 := Eq.trans (q23o 275 78 (fun z => absurd z.1 (by decide))) q23e.2.2.2.2
          have u27 : w21 275 83 = v1 275 83 := Eq.trans (q23o 275 83 (fun z => absurd z.1 (by decide))) (q23e.1 275 83 (by omega))
          have u28 : w21 275 84 = v1 275 84 := Eq.trans (q23o 275 84 (fun z => absurd z.1 (by decide))) (q23e.1 275 84 (by omega))
          have u29 : w21 275 85 = v1 275 85 := Eq.trans (q23o 275 85 (fun z => absurd z.1 (by decide))) (q23e.1 275 85 (by omega))
          have u30 : w21 275 86 = v1 275 86 := Eq.trans (q23o 275 86 (fun z => absurd z.1 (by decide))) (q23e.1 275 86 (by omega))
          have u31 : w21 275 87 = v1 275 87 := Eq.trans (q23o 275 87 (fun z => absurd z.1 (by decide))) (q23e.1 275 87 (by omega))
          have u32 : w21 275 88 = v1 275 88 := Eq.trans (q23o 275 88 (fun z => absurd z.1 (by decide))) (q23e.1 275 88 (by omega))
          have u33 : w21 275 94 = v1 275 94 := Eq.trans (q23o 275 94 (fun z => absurd z.1 (by decide))) (q23e.1 275 94 (by omega))
          have c35 := cSt.cl j10 q23e q23o q23T (by omega)
          have t36t := tkS.lin c35.2.2.2.1
          have t36f := e_Has.get c35.2.1 (c := 275) (k := 88) (lo := 0) (hi := 7) rfl (by decide)
          have wf37 : Hid (w21 275 88 = 0 → wfE w21 N (w21 275 78) (w21 275 94) nt P s (e + 1)) := Hid.mk (fun z => by rw [u26, u33]; exact wfE.close (j16.out (by omega)).1 q23e (by omega) (fun p g => ⟨by have := j13.2.2.1 p g; omega, ((j16.out (by omega)).2 p g).1, ((j16.out (by omega)).2 p g).2.1, ((j16.out (by omega)).2 p g).2.2⟩) q239 q23o)
          refine e_Ok.rets rfl rfl ?_
          exact ⟨rfl, (show e_fr (mEx (w 275 78) (w 275 94)) w w21 from e_fr.trans j9 (fun c k g => Eq.trans (q23o c k (fun ⟨z1, p, z2, z3⟩ => g (by have h1 := j14 p z2; unfold mEx; omega))) (q23e.1 c k (fun g2 => g (by unfold mEx; omega))))), c35, by unfold cLn; omega, (fun z => absurd z (by omega))⟩
      · replace h19 : (v1 275 88 : Int) = 0 := Classical.not_not.mp (show ¬ ((v1 275 88 : Int) ≠ 0) from h19)
        refine e_Ok.ps2 (x := (0, 24)) (y := (1, 275)) (q := 16) 2 rfl ?_
        refine e_Ok.callV rfl (e_dq hd rfl) rfl rfl rfl rfl (c_332 j10.1 (N := N) j10.2.2.2.1) (fun r38 w40 h41 => ?_)
        obtain ⟨z42, rfl, rfl, q43⟩ := h41
        obtain ⟨rfl, q43, q43b⟩ | ⟨rfl, q43n⟩ := q43
        · refine e_Ok.nrm (q := 19) (st' := [(0, 1)]) rfl rfl ?_
          refine e_Ok.if1 rfl (fun h44 => ?_) (fun h44 => ?_)
          · replace h44 : (1 : Int) = 0 := h44
            exfalso; omega
          · replace h44 : (1 : Int) ≠ 0 := (show ¬ ((1 : Int) = 0) from h44)
            refine e_Ok.ps3 (x := (0, y1)) (y := (0, 22)) (z := (1, 275)) (q := 26) 3 rfl ?_
            refine e_Ok.callV rfl (e_dq hd rfl) rfl rfl rfl rfl (c_336 j10.1 (n := v1 275 78) rfl (by omega) (s := s) (Eq.trans (j9 275 81 (by first | exact no_a7_0 | (unfold mEx; omega))) hs) (by omega)) (fun r45 w46 h47 => ?_)
            obtain ⟨rfl, q48⟩ := h47
            have u49 : w46 275 78 = v1 275 78 + 1 := q48.2.2.2.2
            have u50 : w46 275 83 = v1 275 83 := q48.1 275 83 (by omega)
            have u51 : w46 275 84 = v1 275 84 := q48.1 275 84 (by omega)
            have u52 : w46 275 85 = v1 275 85 := q48.1 275 85 (by omega)
            have u53 : w46 275 86 = v1 275 86 := q48.1 275 86 (by omega)
            have u54 : w46 275 87 = v1 275 87 := q48.1 275 87 (by omega)
            have u55 : w46 275 88 = v1 275 88 := q48.1 275 88 (by omega)
            have u56 : w46 275 94 = v1 275 94 := q48.1 275 94 (by omega)
            have c58 := cSt.em j10 q48 (by omega) (by omega) (by omega)
            have t59t := tkS.lin c58.2.2.2.1
            have t59f := e_Has.get c58.2.1 (c := 275) (k := 88) (lo := 0) (hi := 7) rfl (by decide)
            have wf60 : Hid (w46 275 88 = 0 → wfE w46 N (w46 275 78) (w46 275 94) nt (fun p => (fun p => P p ∨ Q p) p ∨ p = v1 275 78) s (e)) := Hid.mk (fun z => by rw [u49, u56]; exact wfE.d (wfE.jump (wf18.out (by omega)) q48 (by decide) (by omega)) (by omega))
            refine e_Ok.nrm (q := 29) (st' := [(0, v1 275 78)]) rfl rfl ?_
            refine e_Ok.run (t' := (31, [(1, (0, v1 275 78)), (0, (1, 275))], [(1, 275)], w46)) 2 rfl ?_
            refine e_Ok.callV rfl (e_dq hd rfl) rfl rfl rfl rfl (c_327 (e_dq hd rfl) c58.1 c58.2.1 c58.2.2.1 hNr (t := w46 275 87) rfl (by omega)) (fun r61 w62 h63 => ?_)
            have p65 := tkS.pos c58.2.2.2.1 (by omega)
            have p66 := tkS.key c58.2.2.2.1 (by omega)
            obtain ⟨rfl, q64, q64s, q64t⟩ := h63
            have u67 : w62 275 78 = w46 275 78 := q64 275 78 no_a7_1
            have u68 : w62 275 83 = w46 275 83 := q64 275 83 no_a7_2
            have u69 : w62 275 88 = w46 275 88 := q64 275 88 no_a7_3
            have u70 : w62 275 94 = w46 275 94 := q64 275 94 no_a7_4
            have f71 : e_fr (mEx (w 275 78) (w 275 94)) w w62 := e_fr.trans (show e_fr (mEx (w 275 78) (w 275 94)) w w46 from e_fr.trans j9 (fun c k g => q48.1 c k (fun g2 => g (by unfold mEx; omega)))) (e_fr.mono q64 (fun c k g => by unfold mTq at g; unfold mEx; omega))
            have c72 := cSt.tk c58 q64 q64s
            have t73t := tkS.lin c72.2.2.2.1
            have t73f := e_Has.get c72.2.1 (c := 275) (k := 88) (lo := 0) (hi := 7) rfl (by decide)
            have wf74 : Hid (w62 275 88 = 0 → wfE w62 N (w62 275 78) (w62 275 94) nt (fun p => (fun p => P p ∨ Q p) p ∨ p = v1 275 78) s (e)) := Hid.mk (fun z => by rw [u67, u70]; exact wfE.pr (wf60.out (by omega)) (prE.tk q64))
            refine e_Ok.nrm (q := 34) (st' := []) rfl rfl ?_
            refine e_Ok.ps1 (x := (1, 275)) (q := 35) 1 rfl ?_
            refine e_Ok.callV rfl (e_dq hd rfl) rfl rfl rfl rfl ((hS d rfl) w62 N nt s (e) (fun p => (fun p => P p ∨ Q p) p ∨ p = v1 275 78) c72 hNr (by omega) (by omega) (Eq.trans (f71 275 81 (by first | exact no_a7_0 | (unfold mEx; omega))) hs) (by omega) (wf74.out (by omega)) (by omega)) (fun r75 w76 h77 => ?_)
            obtain ⟨rfl, q78F, q78c, q78l, q78w⟩ := h77
            unfold cLn at q78l
            replace q78w : Hid (w76 275 88 = 0 → wfE w76 N (w76 275 78) (w76 275 94) nt (fun p => (fun p => P p ∨ Q p) p ∨ p = v1 275 78) s (e + 1)) := Hid.mk (fun z => wfE.d (q78w z) (by omega))
            have t80t := tkS.lin q78c.2.2.2.1
            have t80f := e_Has.get q78c.2.1 (c := 275) (k := 88) (lo := 0) (hi := 7) rfl (by decide)
            refine e_Ok.nrm (q := 38) (st' := []) rfl rfl ?_
            refine e_Ok.ps0 (q := 6) 1 rfl ?_
            refine e_Ok.sub eAlk (e_sub_of rfl ?_) (ih8 (v1 275 78) w76 (fun p => Q p ∨ p = v1 275 78) ⟨(show e_fr (mEx (w 275 78) (w 275 94)) w w76 from e_fr.trans f71 (e_fr.mono q78F (fun c k g => by unfold mEx at g; unfold mEx; omega))), q78c, (by unfold cLn; omega), by omega, (CHN.keep (CHN.add j13 q48 (by omega)) (by omega) (fun p g1 g2 => Eq.trans (q78F 329 _ (by unfold mEx; omega)) (q64 329 _ no_a7_5))), (fun p g => by rcases g with g | g; exact j14 p g; omega), (fun _ z => by omega), (Hid.mk (fun z => ⟨wfE.cg (q78w.out z) (fun p => ⟨fun g => g.elim (fun g => Or.inl (Or.inl g)) (fun g => g.elim (fun g => Or.inl (Or.inr g)) Or.inr), fun g => g.elim (fun g => g.elim Or.inl (fun g => Or.inr (Or.inl g))) (fun g => Or.inr (Or.inr g))⟩), chO.keep (n := v1 275 78 + 1) (chO.add (j16.out (by omega)).2 (fun p g => by have := j13.2.2.1 p g; omega) q48 (by decide) (j16.out (by omega)).1.2.2.2.1) (fun p g => by rcases g with g | g; have := j13.2.2.1 p g; omega; omega) (fun p g => ⟨Eq.trans (q78F 328 _ (by unfold mEx; omega)) (q64 328 _ no_a7_6), Eq.trans (q78F 330 _ (by unfold mEx; omega)) (q64 330 _ no_a7_7)⟩)⟩)), by omega⟩ (by omega))
            exact ⟨rfl, rfl, trivial⟩
        · refine e_Ok.nrm (q := 19) (st' := [(0, 0)]) rfl rfl ?_
          refine e_Ok.if1 rfl (fun h81 => ?_) (fun h81 => ?_)
          · replace h81 : (0 : Int) = 0 := h81
            refine e_Ok.ps2 (x := (0, y1)) (y := (1, 275)) (q := 43) 2 rfl ?_
            refine e_Ok.callV rfl (e_dq hd rfl) rfl rfl rfl rfl (c_341 (e_dq hd rfl) j10.1 (n := v1 275 78) rfl (by omega) (s := s) (Eq.trans (j9 275 81 (by first | exact no_a7_0 | (unfold mEx; omega))) hs) (by omega) (by omega) j13) (fun r82 w83 h84 => ?_)
            obtain ⟨rfl, q85⟩ := h84
            obtain ⟨rfl, q85c⟩ | ⟨q85c, w86, q85e, q85T, q859, q85o⟩ := q85
            · refine e_Ok.nrm (q := 46) (st' := []) rfl rfl ?_
              have wf87 : Hid (v1 275 88 = 0 → wfE v1 N (v1 275 78) (v1 275 94) nt P s (e + 1)) := Hid.mk (fun z => wfE.cg (j16.out z).1 (fun p => ⟨fun g => Or.inl g, fun g => g.elim id (fun g => by have := j13.2.2.1 p g; omega)⟩))
              refine e_Ok.rets rfl rfl ?_
              exact ⟨rfl, j9, j10, by unfold cLn; omega, wf87.out⟩
            · refine e_Ok.nrm (q := 46) (st' := []) rfl rfl ?_
              have u88 : w83 275 78 = v1 275 78 + 1 := Eq.trans (q85o 275 78 (fun z => absurd z.1 (by decide))) q85e.2.2.2.2
              have u89 : w83 275 83 = v1 275 83 := Eq.trans (q85o 275 83 (fun z => absurd z.1 (by decide))) (q85e.1 275 83 (by omega))
              have u90 : w83 275 84 = v1 275 84 := Eq.trans (q85o 275 84 (fun z => absurd z.1 (by decide))) (q85e.1 275 84 (by omega))
              have u91 : w83 275 85 = v1 275 85 := Eq.trans (q85o 275 85 (fun z => absurd z.1 (by decide))) (q85e.1 275 85 (by omega))
              have u92 : w83 275 86 = v1 275 86 := Eq.trans (q85o 275 86 (fun z => absurd z.1 (by decide))) (q85e.1 275 86 (by omega))
              have u93 : w83 275 87 = v1 275 87 := Eq.trans (q85o 275 87 (fun z => absurd z.1 (by decide))) (q85e.1 275 87 (by omega))
              have u94 : w83 275 88 = v1 275 88 := Eq.trans (q85o 275 88 (fun z => absurd z.1 (by decide))) (q85e.1 275 88 (by omega))
              have u95 : w83 275 94 = v1 275 94 := Eq.trans (q85o 275 94 (fun z => absurd z.1 (by decide))) (q85e.1 275 94 (by omega))
              have c103 := cSt.cl j10 q85e q85o q85T (by omega)
              have t104t := tkS.lin c103.2.2.2.1
              have t104f := e_Has.get c103.2.1 (c := 275) (k := 88) (lo := 0) (hi := 7) rfl (by decide)
              have wf105 : Hid (w83 275 88 = 0 → wfE w83 N (w83 275 78) (w83 275 94) nt P s (e + 1)) := Hid.mk (fun z => by rw [u88, u95]; exact wfE.close (j16.out (by omega)).1 q85e (by omega) (fun p g => ⟨by have := j13.2.2.1 p g; omega, ((j16.out (by omega)).2 p g).1, ((j16.out (by omega)).2 p g).2.1, ((j16.out (by omega)).2 p g).2.2⟩) q859 q85o)
              refine e_Ok.rets rfl rfl ?_
              exact ⟨rfl, (show e_fr (mEx (w 275 78) (w 275 94)) w w83 from e_fr.trans j9 (fun c k g => Eq.trans (q85o c k (fun ⟨z1, p, z2, z3⟩ => g (by have h1 := j14 p z2; unfold mEx; omega))) (q85e.1 c k (fun g2 => g (by unfold mEx; omega))))), c103, by unfold cLn; omega, wf105.out⟩
          · replace h81 : (0 : Int) ≠ 0 := (show ¬ ((0 : Int) = 0) from h81)
            exfalso; omega
  refine e_Ok.sub eAlk (e_sub_of rfl ?_) (hL7 (4001 + 1 : Int).toNat (-1) w2 (fun _ => False) ⟨(show e_fr (mEx (w 275 78) (w 275 94)) w w2 from e_fr.trans (e_fr.refl w) (e_fr.mono q4F (fun c k g => by unfold mEx at g; unfold mEx; omega))), q4c, (by unfold cLn; omega), by omega, (CHN.zero _ _), (fun p g => g.elim), (fun g => by omega), (Hid.mk (fun z => ⟨wfE.cg (q4w.out z) (fun p => ⟨fun g => g.elim id False.elim, Or.inl⟩), fun p g => g.elim⟩)), by omega⟩ (by omega))
  exact ⟨rfl, rfl, trivial⟩
end
end
-- part a8
section
noncomputable section
/-! expressions within expressions: by how many brackets may still come -/
theorem exC.mono {M d : Nat} {o F F' : Int} (h : exC M o F d) (hF : F ≤ F') : exC M o F' d := fun w N nt s e P h1 h2 h3 h4 h5 h6 h7 h8 => (h w N nt s e P h1 h2 h3 h4 h5 h6 h7 h8).imp (fun r w' q => ⟨q.1, q.2.1, q.2.2.1, by have := q.2.2.2.1; unfold cLn at this ⊢; omega, q.2.2.2.2⟩)
theorem ex344 {d : Nat} {o F : Int} (hd : 43 ≤ d) (hor : 0 ≤ o ∧ o ≤ 30) (hF : 0 ≤ F ∧ F ≤ 400) (hS : ∀ k, d = k + 1 → exC 346 o F k) : exC 344 o (F + 1) d := fun _ _ _ _ _ _ h1 h2 h3 h4 h5 h6 h7 h8 => c_344 hd h1 h2 h3 h4 h5 h6 h7 h8 hor hF hS
theorem ex343 {d : Nat} {o F : Int} (hd : 43 ≤ d) (hor : 0 ≤ o ∧ o ≤ 30) (hF : 0 ≤ F ∧ F ≤ 400) (hS : ∀ k, d = k + 1 → exC 344 o F k) : exC 343 o (F + 1) d := fun _ _ _ _ _ _ h1 h2 h3 h4 h5 h6 h7 h8 => c_343 hd h1 h2 h3 h4 h5 h6 h7 h8 hor hF hS
theorem ex342 {d : Nat} {o F : Int} (hd : 47 ≤ d) (hor : 0 ≤ o ∧ o ≤ 30) (hF : 0 ≤ F ∧ F ≤ 400) (hS : ∀ k, d = k + 1 → exC 343 o F k) (hN : o < 30 → ∀ k, d = k + 1 → exC 342 (o + 1) F k) : exC 342 o (F + 1) d := fun _ _ _ _ _ _ h1 h2 h3 h4 h5 h6 h7 h8 => c_342 hd h1 h2 h3 h4 h5 h6 h7 h8 hor hF hS hN
theorem ex340 {d : Nat} {o F : Int} (hd : 47 ≤ d) (hor : 0 ≤ o ∧ o ≤ 30) (hF : 0 ≤ F ∧ F ≤ 400) (hS : ∀ k, d = k + 1 → exC 342 o F k) : exC 340 o (F + 1) d := fun _ _ _ _ _ _ h1 h2 h3 h4 h5 h6 h7 h8 => c_340 hd h1 h2 h3 h4 h5 h6 h7 h8 hor hF hS
theorem ex339 {d : Nat} {o F : Int} (hd : 47 ≤ d) (hor : 0 ≤ o ∧ o ≤ 30) (hF : 0 ≤ F ∧ F ≤ 400) (hS : ∀ k, d = k + 1 → exC 340 o F k) : exC 339 o (F + 1) d := fun _ _ _ _ _ _ h1 h2 h3 h4 h5 h6 h7 h8 => c_339 hd h1 h2 h3 h4 h5 h6 h7 h8 hor hF hS
theorem ex345 {d : Nat} {o F : Int} (hd : 47 ≤ d) (hor : 0 ≤ o ∧ o ≤ 30) (hF : 0 ≤ F ∧ F ≤ 400) (hS : o < 30 → ∀ k, d = k + 1 → exC 339 (o + 1) F k) : exC 345 o F d := fun _ _ _ _ _ _ h1 h2 h3 h4 h5 h6 h7 h8 => c_345 hd h1 h2 h3 h4 h5 h6 h7 h8 hor hF hS
theorem ex346 {d : Nat} {o F : Int} (hd : 47 ≤ d) (hor : 0 ≤ o ∧ o ≤ 30) (hF : 0 ≤ F ∧ F ≤ 400) (hF1 : 1 ≤ F) (hS : o < 30 → ∀ k, d = k + 1 → exC 346 (o + 1) (F - 1) k) (hB : ∀ k, d = k + 1 → exC 345 o (F - 1) k) : exC 346 o F d := fun _ _ _ _ _ _ h1 h2 h3 h4 h5 h6 h7 h8 => c_346 hd h1 h2 h3 h4 h5 h6 h7 h8 hor hF hF1 hS hB
/-- one level: from what stands a bracket deeper (o + 1) -/
theorem ex_step {o F b : Int} {D : Nat} (hor : 0 ≤ o ∧ o ≤ 30) (hF : 0 ≤ F ∧ F ≤ 300) (hb : b = F + 7) (hD : 48 ≤ D) (h6 : o < 30 → ∀ d, D ≤ d + 4 → exC 346 (o + 1) b d) (hx : o < 30 → ∀ d, D ≤ d + 2 → exC 339 (o + 1) b d) (h2 : o < 30 → ∀ d, D ≤ d + 4 → exC 342 (o + 1) (b + 3) d) : (∀ d, D ≤ d → exC 346 o (F + 8) d) ∧ (∀ d, D + 3 ≤ d → exC 342 o (F + 11) d) := by
  have s1 : ∀ d, D ≤ d → exC 346 o (F + 8) d := fun d hd => ex346 (by omega) hor (by omega) (by omega) (fun ho k e => by rw [show F + 8 - 1 = b by omega]; exact h6 ho k (by omega)) (fun k e => by rw [show F + 8 - 1 = b by omega]; exact ex345 (by omega) hor (by omega) (fun ho k' e' => hx ho k' (by omega)))
  have s2 : ∀ d, D + 1 ≤ d → exC 344 o (F + 8 + 1) d := fun d hd => ex344 (by omega) hor (by omega) (fun k e => s1 k (by omega))
  have s3 : ∀ d, D + 2 ≤ d → exC 343 o (F + 8 + 1 + 1) d := fun d hd => ex343 (by omega) hor (by omega) (fun k e => s2 k (by omega))
  refine ⟨s1, fun d hd => ?_⟩
  rw [show F + 11 = F + 8 + 1 + 1 + 1 by omega]
  exact ex342 (by omega) hor (by omega) (fun k e => s3 k (by omega)) (fun ho k e => by rw [show F + 8 + 1 + 1 = b + 3 by omega]; exact h2 ho k (by omega))
theorem ex_lv : ∀ (k : Nat), k ≤ 30 → (∀ d, 48 + 7 * k ≤ d → exC 346 (30 - (k : Int)) (8 * (k : Int) + 8) d) ∧ (∀ d, 51 + 7 * k ≤ d → exC 342 (30 - (k : Int)) (8 * (k : Int) + 11) d)
  | 0, _ => by
    have q := ex_step (o := 30) (F := 0) (b := 7) (D := 48) (by omega) (by omega) (by omega) (by omega) (fun h => by omega) (fun h => by omega) (fun h => by omega)
    exact ⟨fun d hd => q.1 d (by omega), fun d hd => q.2 d (by omega)⟩
  | k + 1, hk => by
    obtain ⟨a6, a2⟩ := ex_lv k (by omega)
    have e0 : ∀ d, 52 + 7 * k ≤ d → exC 340 (30 - (k : Int)) (8 * (k : Int) + 11 + 1) d := fun d hd => ex340 (by omega) (by omega) (by omega) (fun j e => a2 j (by omega))
    have e9 : ∀ d, 53 + 7 * k ≤ d → exC 339 (30 - (k : Int)) (8 * (k : Int) + 11 + 1 + 1) d := fun d hd => ex339 (by omega) (by omega) (by omega) (fun j e => e0 j (by omega))
    have eo : 30 - ((k + 1 : Nat) : Int) + 1 = 30 - (k : Int) := by omega
    have q := ex_step (o := 30 - ((k + 1 : Nat) : Int)) (F := 8 * (k : Int) + 8) (b := 8 * (k : Int) + 15) (D := 55 + 7 * k) (by omega) (by omega) (by omega) (by omega) (fun _ d hd => by rw [eo]; exact (a6 d (by omega)).mono (by omega)) (fun _ d hd => by rw [eo]; exact (e9 d (by omega)).mono (by omega)) (fun _ d hd => by rw [eo]; exact (a2 d (by omega)).mono (by omega))
    refine ⟨fun d hd => ?_, fun d hd => ?_⟩
    · rw [show 8 * ((k + 1 : Nat) : Int) + 8 = 8 * (k : Int) + 8 + 8 by omega]
      exact q.1 d (by omega)
    · rw [show 8 * ((k + 1 : Nat) : Int) + 11 = 8 * (k : Int) + 8 + 11 by omega]
      exact q.2 d (by omega)
/-- an expression, at o brackets -/
theorem c_exp {d : Nat} {o : Int} (hd : 280 ≤ d) (hor : 0 ≤ o ∧ o ≤ 30) : exC 339 o 300 d := by
  have hk : ((30 - o).toNat : Int) = 30 - o := by omega
  have q := (ex_lv (30 - o).toNat (by omega)).2
  rw [hk, show 30 - (30 - o) = o by omega] at q
  have e0 : ∀ d, 270 ≤ d → exC 340 o (8 * (30 - o) + 11 + 1) d := fun d hd => ex340 (by omega) hor (by omega) (fun j e => q j (by omega))
  exact (ex339 (by omega) hor (by omega) (fun j e => e0 j (by omega))).mono (by omega)
end
end
-- part a9
section
noncomputable section
theorem c_278_b {d : Nat} (hd : 24 ≤ d) {w : eW} (hT : e_Has mTy w) {p1 p2 p3 p4 : Int} (g1 : (-2147483648) ≤ p1 ∧ p1 ≤ 2147483647) (g2 : (-2147483648) ≤ p2 ∧ p2 ≤ 2147483647) (g3 : (-2147483648) ≤ p3 ∧ p3 ≤ 2147483647) (g4 : (-2147483648) ≤ p4 ∧ p4 ≤ 2147483647) : e_Ok 20 elay ecode eI d 278 (0, [(0, (1, 275)), (1, (0, p1)), (2, (0, p2)), (3, (0, p3)), (4, (0, p4))], [], w) (fun r w' => ∃ z : Int, r = [(0, z)] ∧ (w = w' ∨ (w 275 3 = 0 ∧ e_fr (mF 10 282 285) w w' ∧ e_Has mTy w' ∧ w' 275 10 = w 275 10 + 1))) := by
  obtain ⟨d, rfl⟩ : ∃ e, d = e + 1 := ⟨d - 1, by omega⟩
  have hop := e_Has.get hT (c := 275) (k := 3) (lo := 0) (hi := 1) (mt_o rfl) (by decide)
  have hr := e_Has.get hT (c := 275) (k := 10) (lo := 0) (hi := 4) (mt_o rfl) (by decide)
  refine e_Ok.ps3 (x := (4, 8000)) (y := (4, (-8000))) (z := (4, p1)) (q := 8) 4 rfl ?_
  refine e_Ok.callS rfl (e_dq hd rfl) rfl rfl (c_266) (fun r1 w2 h3 => ?_)
  obtain ⟨z4, rfl, rfl, q5⟩ := h3
  obtain ⟨rfl, q5⟩ | ⟨rfl, q5⟩ := q5
  · refine e_Ok.nrm (q := 11) (st' := [(0, 1)]) rfl rfl ?_
    refine e_Ok.if1 rfl (fun h6 => ?_) (fun h6 => ?_)
    · replace h6 : (1 : Int) = 0 := h6
      exfalso; omega
    · replace h6 : (1 : Int) ≠ 0 := (show ¬ ((1 : Int) = 0) from h6)
      refine e_Ok.ps3 (x := (4, 8000)) (y := (4, (-8000))) (z := (4, p2)) (q := 22) 4 rfl ?_
      refine e_Ok.callS rfl (e_dq hd rfl) rfl rfl (c_266) (fun r7 w8 h9 => ?_)
      obtain ⟨z10, rfl, rfl, q11⟩ := h9
      obtain ⟨rfl, q11⟩ | ⟨rfl, q11⟩ := q11
      · refine e_Ok.nrm (q := 25) (st' := [(0, 1)]) rfl rfl ?_
        refine e_Ok.if1 rfl (fun h12 => ?_) (fun h12 => ?_)
        · replace h12 : (1 : Int) = 0 := h12
          exfalso; omega
        · replace h12 : (1 : Int) ≠ 0 := (show ¬ ((1 : Int) = 0) from h12)
          refine e_Ok.ps3 (x := (4, 4095)) (y := (4, 0)) (z := (4, p3)) (q := 34) 4 rfl ?_
          refine e_Ok.callS rfl (e_dq hd rfl) rfl rfl (c_266) (fun r13 w14 h15 => ?_)
          obtain ⟨z16, rfl, rfl, q17⟩ := h15
          obtain ⟨rfl, q17⟩ | ⟨rfl, q17⟩ := q17
          · refine e_Ok.nrm (q := 37) (st' := [(0, 1)]) rfl rfl ?_
            refine e_Ok.if1 rfl (fun h18 => ?_) (fun h18 => ?_)
            · replace h18 : (1 : Int) = 0 := h18
              exfalso; omega
            · replace h18 : (1 : Int) ≠ 0 := (show ¬ ((1 : Int) = 0) from h18)
              refine e_Ok.ps3 (x := (4, 800)) (y := (4, 0)) (z := (4, p4)) (q := 47) 4 rfl ?_
              refine e_Ok.callS rfl (e_dq hd rfl) rfl rfl (c_266) (fun r19 w20 h21 => ?_)
              obtain ⟨z22, rfl, rfl, q23⟩ := h21
              obtain ⟨rfl, q23⟩ | ⟨rfl, q23⟩ := q23
              · refine e_Ok.nrm (q := 50) (st' := [(0, 1)]) rfl rfl ?_
                refine e_Ok.if1 rfl (fun h24 => ?_) (fun h24 => ?_)
                · replace h24 : (1 : Int) ≠ 0 := h24
                  refine e_Ok.ps1 (x := (1, 275)) (q := 56) 1 rfl ?_
                  refine e_Ok.getf (z := w 275 3) rfl (el_o rfl) rfl (ef_o rfl) rfl (by omega) ?_
                  refine e_Ok.if1 rfl (fun h25 => ?_) (fun h25 => ?_)
                  · replace h25 : (w 275 3 : Int) = 0 := h25
                    refine e_Ok.ps1 (x := (1, 275)) (q := 66) 1 rfl ?_
                    refine e_Ok.getf (z := w 275 10) rfl (el_o rfl) rfl (ef_o rfl) rfl (by omega) ?_
                    refine e_Ok.ps1 (x := (0, 4)) (q := 70) 1 rfl ?_
                    refine e_Ok.if2 rfl (fun h26 => ?_) (fun h26 => ?_)
                    · replace h26 : (w 275 10 : Int) ≠ 4 := h26
                      refine e_Ok.ps1 (x := (1, 275)) (q := 77) 1 rfl ?_
                      refine e_Ok.getr (z := 282) rfl (el_o rfl) rfl (ef_o rfl) (e_Has.eq hT (mt_o rfl)) ⟨by decide, by decide⟩ ?_
                      refine e_Ok.ps1 (x := (1, 275)) (q := 81) 1 rfl ?_
                      refine e_Ok.getf (z := w 275 10) rfl (el_o rfl) rfl (ef_o rfl) rfl (by omega) ?_
                      refine e_Ok.ps1 (x := (0, p1)) (q := 85) 1 rfl ?_
                      refine e_Ok.ast rfl (el_o rfl) rfl rfl (by omega) ?_
                      generalize hw27 : e_up w 282 (w 275 10) p1 = w27
                      have hT29 : e_Has mTy w27 := e_Has.upr hT hw27 (mt_o rfl) (by omega)
                      refine e_Ok.ps1 (x := (1, 275)) (q := 87) 1 rfl ?_
                      refine e_Ok.getr (z := 283) rfl (el_o rfl) rfl (ef_o rfl) (e_uq hw27 (Or.inl (by decide)) (e_Has.eq hT (mt_o rfl))) ⟨by decide, by decide⟩ ?_
                      refine e_Ok.ps1 (x := (1, 275)) (q := 91) 1 rfl ?_
                      refine e_Ok.getf (z := w 275 10) rfl (el_o rfl) rfl (ef_o rfl) (e_uq hw27 (Or.inl (by decide)) rfl) (by omega) ?_
                      refine e_Ok.ps1 (x := (0, p2)) (q := 95) 1 rfl ?_
                      refine e_Ok.ast rfl (el_o rfl) rfl rfl (by omega) ?_
                      generalize hw30 : e_up w27 283 (w 275 10) p2 = w30
                      have hT32 : e_Has mTy w30 := e_Has.upr hT29 hw30 (mt_o rfl) (by omega)
                      refine e_Ok.ps1 (x := (1, 275)) (q := 97) 1 rfl ?_
                      refine e_Ok.getr (z := 284) rfl (el_o rfl) rfl (ef_o rfl) (e_uq hw30 (Or.inl (by decide)) (e_uq hw27 (Or.inl (by decide)) (e_Has.eq hT (mt_o rfl)))) ⟨by decide, by decide⟩ ?_
                      refine e_Ok.ps1 (x := (1, 275)) (q := 101) 1 rfl ?_
                      refine e_Ok.getf (z := w 275 10) rfl (el_o rfl) rfl (ef_o rfl) (e_uq hw30 (Or.inl (by decide)) (e_uq hw27 (Or.inl (by decide)) rfl)) (by omega) ?_
                      refine e_Ok.ps1 (x := (0, p3)) (q := 105) 1 rfl ?_
                      refine e_Ok.ast rfl (el_o rfl) rfl rfl (by omega) ?_
                      generalize hw33 : e_up w30 284 (w 275 10) p3 = w33
                      have hT35 : e_Has mTy w33 := e_Has.upr hT32 hw33 (mt_o rfl) (by omega)
                      refine e_Ok.ps1 (x := (1, 275)) (q := 107) 1 rfl ?_
                      refine e_Ok.getr (z := 285) rfl (el_o rfl) rfl (ef_o rfl) (e_uq hw33 (Or.inl (by decide)) (e_uq hw30 (Or.inl (by decide)) (e_uq hw27 (Or.inl (by decide)) (e_Has.eq hT (mt_o rfl))))) ⟨by decide, by decide⟩ ?_
                      refine e_Ok.ps1 (x := (1, 275)) (q := 111) 1 rfl ?_
                      refine e_Ok.getf (z := w 275 10) rfl (el_o rfl) rfl (ef_o rfl) (e_uq hw33 (Or.inl (by decide)) (e_uq hw30 (Or.inl (by decide)) (e_uq hw27 (Or.inl (by decide)) rfl))) (by omega) ?_
                      refine e_Ok.ps1 (x := (0, p4)) (q := 116) 1 rfl ?_
                      refine e_Ok.ast rfl (el_o rfl) rfl rfl (by omega) ?_
                      generalize hw36 : e_up w33 285 (w 275 10) p4 = w36
                      have hT38 : e_Has mTy w36 := e_Has.upr hT35 hw36 (mt_o rfl) (by omega)
                      refine e_Ok.ps2 (x := (1, 275)) (y := (1, 275)) (q := 119) 2 rfl ?_
                      refine e_Ok.getf (z := w 275 10) rfl (el_o rfl) rfl (ef_o rfl) (e_uq hw36 (Or.inl (by decide)) (e_uq hw33 (Or.inl (by decide)) (e_uq hw30 (Or.inl (by decide)) (e_uq hw27 (Or.inl (by decide)) rfl)))) (by omega) ?_
                      refine e_Ok.ps1 (x := (0, 1)) (q := 123) 1 rfl ?_
                      refine e_Ok.add (z := w 275 10 + 1) rfl rfl (by omega) ?_
                      refine e_Ok.putf rfl (el_o rfl) rfl (ef_o rfl) ?_
                      generalize hw40 : e_up w36 275 10 (w 275 10 + 1) = w40
                      have hT42 : e_Has mTy w40 := e_Has.upr hT38 hw40 (mt_o rfl) (by omega)
                      refine e_Ok.ps1 (x := (1, 275)) (q := 128) 1 rfl ?_
                      refine e_Ok.getf (z := w 275 10 + 1) rfl (el_o rfl) rfl (ef_o rfl) (e_ue hw40) (by omega) ?_
                      refine e_Ok.ps1 (x := (0, 1)) (q := 132) 1 rfl ?_
                      refine e_Ok.sub' (z := w 275 10) rfl (by omega) (by omega) ?_
                      refine e_Ok.rets rfl rfl ?_
                      have e10 : w40 275 10 = w 275 10 + 1 := (e_ue hw40)
                      exact ⟨_, rfl, Or.inr ⟨by omega, (show e_fr (mF 10 282 285) w w40 from e_fr.up (show e_fr (mF 10 282 285) w w36 from e_fr.up (show e_fr (mF 10 282 285) w w33 from e_fr.up (show e_fr (mF 10 282 285) w w30 from e_fr.up (show e_fr (mF 10 282 285) w w27 from e_fr.up (e_fr.refl w) hw27 (by first | exact Or.inr ⟨(by decide), (by decide)⟩ | (unfold mF; omega))) hw30 (by first | exact Or.inr ⟨(by decide), (by decide)⟩ | (unfold mF; omega))) hw33 (by first | exact Or.inr ⟨(by decide), (by decide)⟩ | (unfold mF; omega))) hw36 (by first | exact Or.inr ⟨(by decide), (by decide)⟩ | (unfold mF; omega))) hw40 (by first | exact Or.inl ⟨rfl, rfl⟩ | (unfold mF; omega))), hT42, by omega⟩⟩
                    · replace h26 : (w 275 10 : Int) = 4 := Classical.not_not.mp (show ¬ ((w 275 10 : Int) ≠ 4) from h26)
                      refine e_Ok.ps1 (x := (0, (-3))) (q := 75) 1 rfl ?_
                      refine e_Ok.rets rfl rfl ?_
                      exact ⟨_, rfl, Or.inl rfl⟩
                  · replace h25 : (w 275 3 : Int) ≠ 0 := (show ¬ ((w 275 3 : Int) = 0) from h25)
                    refine e_Ok.ps1 (x := (0, (-2))) (q := 64) 1 rfl ?_
                    refine e_Ok.rets rfl rfl ?_
                    exact ⟨_, rfl, Or.inl rfl⟩
                · replace h24 : (1 : Int) = 0 := Classical.not_not.mp (show ¬ ((1 : Int) ≠ 0) from h24)
                  exfalso; omega
              · refine e_Ok.nrm (q := 50) (st' := [(0, 0)]) rfl rfl ?_
                refine e_Ok.if1 rfl (fun h43 => ?_) (fun h43 => ?_)
                · replace h43 : (0 : Int) ≠ 0 := h43
                  exfalso; omega
                · replace h43 : (0 : Int) = 0 := Classical.not_not.mp (show ¬ ((0 : Int) ≠ 0) from h43)
                  refine e_Ok.ps1 (x := (0, (-1))) (q := 54) 1 rfl ?_
                  refine e_Ok.rets rfl rfl ?_
                  exact ⟨_, rfl, Or.inl rfl⟩
          · refine e_Ok.nrm (q := 37) (st' := [(0, 0)]) rfl rfl ?_
            refine e_Ok.if1 rfl (fun h44 => ?_) (fun h44 => ?_)
            · replace h44 : (0 : Int) = 0 := h44
              refine e_Ok.ps1 (x := (0, (-1))) (q := 54) 1 rfl ?_
              refine e_Ok.rets rfl rfl ?_
              exact ⟨_, rfl, Or.inl rfl⟩
            · replace h44 : (0 : Int) ≠ 0 := (show ¬ ((0 : Int) = 0) from h44)
              exfalso; omega
      · refine e_Ok.nrm (q := 25) (st' := [(0, 0)]) rfl rfl ?_
        refine e_Ok.if1 rfl (fun h45 => ?_) (fun h45 => ?_)
        · replace h45 : (0 : Int) = 0 := h45
          refine e_Ok.ps1 (x := (0, (-1))) (q := 54) 1 rfl ?_
          refine e_Ok.rets rfl rfl ?_
          exact ⟨_, rfl, Or.inl rfl⟩
        · replace h45 : (0 : Int) ≠ 0 := (show ¬ ((0 : Int) = 0) from h45)
          exfalso; omega
  · refine e_Ok.nrm (q := 11) (st' := [(0, 0)]) rfl rfl ?_
    refine e_Ok.if1 rfl (fun h46 => ?_) (fun h46 => ?_)
    · replace h46 : (0 : Int) = 0 := h46
      refine e_Ok.ps1 (x := (0, (-1))) (q := 54) 1 rfl ?_
      refine e_Ok.rets rfl rfl ?_
      exact ⟨_, rfl, Or.inl rfl⟩
    · replace h46 : (0 : Int) ≠ 0 := (show ¬ ((0 : Int) = 0) from h46)
      exfalso; omega
theorem c_280_b {d : Nat} (hd : 24 ≤ d) {w : eW} (hT : e_Has mTy w) {p1 p2 p3 : Int} (g1 : (-2147483648) ≤ p1 ∧ p1 ≤ 2147483647) (g2 : (-2147483648) ≤ p2 ∧ p2 ≤ 2147483647) (g3 : (-2147483648) ≤ p3 ∧ p3 ≤ 2147483647) : e_Ok 20 elay ecode eI d 280 (0, [(0, (1, 275)), (1, (0, p1)), (2, (0, p2)), (3, (0, p3))], [], w) (fun r w' => ∃ z : Int, r = [(0, z)] ∧ (w = w' ∨ (w 275 3 = 0 ∧ e_fr (mF (-1) 293 293) w w' ∧ e_Has mTy w' ∧ True))) := by
  obtain ⟨d, rfl⟩ : ∃ e, d = e + 1 := ⟨d - 1, by omega⟩
  have hop := e_Has.get hT (c := 275) (k := 3) (lo := 0) (hi := 1) (mt_o rfl) (by decide)
  refine e_Ok.ps3 (x := (0, p2)) (y := (0, p1)) (z := (1, 275)) (q := 3) 3 rfl ?_
  refine e_Ok.callV rfl (e_dq hd rfl) rfl rfl rfl rfl (c_271 (e_dq hd rfl) hT) (fun r1 w2 h3 => ?_)
  obtain ⟨z4, rfl, rfl, q5⟩ := h3
  have h6 := e_Has.get hT (c := 275) (k := 10) (lo := 0) (hi := 4) (mt_o rfl) (by decide)
  have h7 := e_Has.get hT (c := 286) (k := p1) (lo := 0) (hi := 6) (mt_o rfl) (by decide)
  obtain ⟨rfl, q5⟩ | ⟨rfl, q5⟩ := q5
  · refine e_Ok.nrm (q := 6) (st' := [(0, 1)]) rfl rfl ?_
    refine e_Ok.if1 rfl (fun h8 => ?_) (fun h8 => ?_)
    · replace h8 : (1 : Int) = 0 := h8
      exfalso; omega
    · replace h8 : (1 : Int) ≠ 0 := (show ¬ ((1 : Int) = 0) from h8)
      refine e_Ok.ps3 (x := (4, 800)) (y := (4, 0)) (z := (4, p3)) (q := 15) 4 rfl ?_
      refine e_Ok.callS rfl (e_dq hd rfl) rfl rfl (c_266) (fun r9 w10 h11 => ?_)
      obtain ⟨z12, rfl, rfl, q13⟩ := h11
      obtain ⟨rfl, q13⟩ | ⟨rfl, q13⟩ := q13
      · refine e_Ok.nrm (q := 18) (st' := [(0, 1)]) rfl rfl ?_
        refine e_Ok.if1 rfl (fun h14 => ?_) (fun h14 => ?_)
        · replace h14 : (1 : Int) ≠ 0 := h14
          refine e_Ok.ps1 (x := (1, 275)) (q := 24) 1 rfl ?_
          refine e_Ok.getf (z := w 275 3) rfl (el_o rfl) rfl (ef_o rfl) rfl (by omega) ?_
          refine e_Ok.if1 rfl (fun h15 => ?_) (fun h15 => ?_)
          · replace h15 : (w 275 3 : Int) = 0 := h15
            refine e_Ok.ps1 (x := (1, 275)) (q := 34) 1 rfl ?_
            refine e_Ok.getr (z := 293) rfl (el_o rfl) rfl (ef_o rfl) (e_Has.eq hT (mt_o rfl)) ⟨by decide, by decide⟩ ?_
            refine e_Ok.ps2 (x := (0, p1)) (y := (0, 6)) (q := 40) 2 rfl ?_
            refine e_Ok.mul (z := 6 * p1) rfl rfl (by omega) ?_
            refine e_Ok.ps1 (x := (0, p2)) (q := 42) 1 rfl ?_
            refine e_Ok.add (z := 6 * p1 + p2) rfl rfl (by omega) ?_
            have h16 := (e_Has.get hT (c := 293) (k := 6 * p1 + p2) (lo := 0) (hi := 800) (mt_o rfl) (by decide))
            refine e_Ok.ald (z := w 293 (6 * p1 + p2)) rfl (el_o rfl) rfl (by omega) rfl (e_bq h16 (by decide) (by decide)) ?_
            refine e_Ok.run (t' := (47, [(4, (0, w 293 (6 * p1 + p2))), (0, (1, 275)), (1, (0, p1)), (2, (0, p2)), (3, (0, p3))], [(1, 275)], w)) 2 rfl ?_
            refine e_Ok.getr (z := 293) rfl (el_o rfl) rfl (ef_o rfl) (e_Has.eq hT (mt_o rfl)) ⟨by decide, by decide⟩ ?_
            refine e_Ok.ps2 (x := (0, p1)) (y := (0, 6)) (q := 53) 2 rfl ?_
            refine e_Ok.mul (z := 6 * p1) rfl rfl (by omega) ?_
            refine e_Ok.ps1 (x := (0, p2)) (q := 55) 1 rfl ?_
            refine e_Ok.add (z := 6 * p1 + p2) rfl rfl (by omega) ?_
            refine e_Ok.ps1 (x := (0, p3)) (q := 57) 1 rfl ?_
            refine e_Ok.ast rfl (el_o rfl) rfl rfl (by omega) ?_
            generalize hw17 : e_up w 293 (6 * p1 + p2) p3 = w17
            have hT19 : e_Has mTy w17 := e_Has.upr hT hw17 (mt_o rfl) (by omega)
            refine e_Ok.ps1 (x := (0, w 293 (6 * p1 + p2))) (q := 60) 1 rfl ?_
            refine e_Ok.rets rfl rfl ?_
            exact ⟨_, rfl, Or.inr ⟨by omega, (show e_fr (mF (-1) 293 293) w w17 from e_fr.up (e_fr.refl w) hw17 (by first | exact Or.inr ⟨(by decide), (by decide)⟩ | (unfold mF; omega))), hT19, trivial⟩⟩
          · replace h15 : (w 275 3 : Int) ≠ 0 := (show ¬ ((w 275 3 : Int) = 0) from h15)
            refine e_Ok.ps1 (x := (0, (-2))) (q := 32) 1 rfl ?_
            refine e_Ok.rets rfl rfl ?_
            exact ⟨_, rfl, Or.inl rfl⟩
        · replace h14 : (1 : Int) = 0 := Classical.not_not.mp (show ¬ ((1 : Int) ≠ 0) from h14)
          exfalso; omega
      · refine e_Ok.nrm (q := 18) (st' := [(0, 0)]) rfl rfl ?_
        refine e_Ok.if1 rfl (fun h20 => ?_) (fun h20 => ?_)
        · replace h20 : (0 : Int) ≠ 0 := h20
          exfalso; omega
        · replace h20 : (0 : Int) = 0 := Classical.not_not.mp (show ¬ ((0 : Int) ≠ 0) from h20)
          refine e_Ok.ps1 (x := (0, (-1))) (q := 22) 1 rfl ?_
          refine e_Ok.rets rfl rfl ?_
          exact ⟨_, rfl, Or.inl rfl⟩
  · refine e_Ok.nrm (q := 6) (st' := [(0, 0)]) rfl rfl ?_
    refine e_Ok.if1 rfl (fun h21 => ?_) (fun h21 => ?_)
    · replace h21 : (0 : Int) = 0 := h21
      refine e_Ok.ps1 (x := (0, (-1))) (q := 22) 1 rfl ?_
      refine e_Ok.rets rfl rfl ?_
      exact ⟨_, rfl, Or.inl rfl⟩
    · replace h21 : (0 : Int) ≠ 0 := (show ¬ ((0 : Int) = 0) from h21)
      exfalso; omega
theorem c_281_b {d : Nat} (hd : 24 ≤ d) {w : eW} (hT : e_Has mTy w) {p1 p2 p3 p4 : Int} (g1 : (-2147483648) ≤ p1 ∧ p1 ≤ 2147483647) (g2 : (-2147483648) ≤ p2 ∧ p2 ≤ 2147483647) (g3 : (-2147483648) ≤ p3 ∧ p3 ≤ 2147483647) (g4 : (-2147483648) ≤ p4 ∧ p4 ≤ 2147483647) : e_Ok 20 elay ecode eI d 281 (0, [(0, (1, 275)), (1, (0, p1)), (2, (0, p2)), (3, (0, p3)), (4, (0, p4))], [], w) (fun r w' => ∃ z : Int, r = [(0, z)] ∧ (w = w' ∨ (w 275 3 = 0 ∧ e_fr (mF (-1) 290 291) w w' ∧ e_Has mTy w' ∧ ∀ k, (w' 290 k = w 290 k ∨ 1 ≤ w' 290 k) ∧ (w' 291 k = w 291 k ∨ 1 ≤ w' 291 k)))) := by
  obtain ⟨d, rfl⟩ : ∃ e, d = e + 1 := ⟨d - 1, by omega⟩
  have hop := e_Has.get hT (c := 275) (k := 3) (lo := 0) (hi := 1) (mt_o rfl) (by decide)
  refine e_Ok.ps3 (x := (0, p2)) (y := (0, p1)) (z := (1, 275)) (q := 3) 3 rfl ?_
  refine e_Ok.callV rfl (e_dq hd rfl) rfl rfl rfl rfl (c_271 (e_dq hd rfl) hT) (fun r1 w2 h3 => ?_)
  obtain ⟨z4, rfl, rfl, q5⟩ := h3
  have h6 := e_Has.get hT (c := 275) (k := 10) (lo := 0) (hi := 4) (mt_o rfl) (by decide)
  have h7 := e_Has.get hT (c := 286) (k := p1) (lo := 0) (hi := 6) (mt_o rfl) (by decide)
  obtain ⟨rfl, q5⟩ | ⟨rfl, q5⟩ := q5
  · refine e_Ok.nrm (q := 6) (st' := [(0, 1)]) rfl rfl ?_
    refine e_Ok.if1 rfl (fun h8 => ?_) (fun h8 => ?_)
    · replace h8 : (1 : Int) = 0 := h8
      exfalso; omega
    · replace h8 : (1 : Int) ≠ 0 := (show ¬ ((1 : Int) = 0) from h8)
      refine e_Ok.ps3 (x := (4, 2000)) (y := (4, 1)) (z := (4, p3)) (q := 15) 4 rfl ?_
      refine e_Ok.callS rfl (e_dq hd rfl) rfl rfl (c_266) (fun r9 w10 h11 => ?_)
      obtain ⟨z12, rfl, rfl, q13⟩ := h11
      obtain ⟨rfl, q13⟩ | ⟨rfl, q13⟩ := q13
      · refine e_Ok.nrm (q := 18) (st' := [(0, 1)]) rfl rfl ?_
        refine e_Ok.if1 rfl (fun h14 => ?_) (fun h14 => ?_)
        · replace h14 : (1 : Int) = 0 := h14
          exfalso; omega
        · replace h14 : (1 : Int) ≠ 0 := (show ¬ ((1 : Int) = 0) from h14)
          refine e_Ok.ps3 (x := (4, 2000)) (y := (4, 1)) (z := (4, p4)) (q := 28) 4 rfl ?_
          refine e_Ok.callS rfl (e_dq hd rfl) rfl rfl (c_266) (fun r15 w16 h17 => ?_)
          obtain ⟨z18, rfl, rfl, q19⟩ := h17
          obtain ⟨rfl, q19⟩ | ⟨rfl, q19⟩ := q19
          · refine e_Ok.nrm (q := 31) (st' := [(0, 1)]) rfl rfl ?_
            refine e_Ok.if1 rfl (fun h20 => ?_) (fun h20 => ?_)
            · replace h20 : (1 : Int) ≠ 0 := h20
              refine e_Ok.ps1 (x := (1, 275)) (q := 37) 1 rfl ?_
              refine e_Ok.getf (z := w 275 3) rfl (el_o rfl) rfl (ef_o rfl) rfl (by omega) ?_
              refine e_Ok.if1 rfl (fun h21 => ?_) (fun h21 => ?_)
              · replace h21 : (w 275 3 : Int) = 0 := h21
                refine e_Ok.ps1 (x := (1, 275)) (q := 47) 1 rfl ?_
                refine e_Ok.getr (z := 290) rfl (el_o rfl) rfl (ef_o rfl) (e_Has.eq hT (mt_o rfl)) ⟨by decide, by decide⟩ ?_
                refine e_Ok.ps2 (x := (0, p1)) (y := (0, 6)) (q := 53) 2 rfl ?_
                refine e_Ok.mul (z := 6 * p1) rfl rfl (by omega) ?_
                refine e_Ok.ps1 (x := (0, p2)) (q := 55) 1 rfl ?_
                refine e_Ok.add (z := 6 * p1 + p2) rfl rfl (by omega) ?_
                refine e_Ok.ps1 (x := (0, p3)) (q := 57) 1 rfl ?_
                refine e_Ok.ast rfl (el_o rfl) rfl rfl (by omega) ?_
                generalize hw22 : e_up w 290 (6 * p1 + p2) p3 = w22
                have hT24 : e_Has mTy w22 := e_Has.upr hT hw22 (mt_o rfl) (by omega)
                refine e_Ok.ps1 (x := (1, 275)) (q := 59) 1 rfl ?_
                refine e_Ok.getr (z := 291) rfl (el_o rfl) rfl (ef_o rfl) (e_uq hw22 (Or.inl (by decide)) (e_Has.eq hT (mt_o rfl))) ⟨by decide, by decide⟩ ?_
                refine e_Ok.ps2 (x := (0, p1)) (y := (0, 6)) (q := 65) 2 rfl ?_
                refine e_Ok.mul (z := 6 * p1) rfl rfl (by omega) ?_
                refine e_Ok.ps1 (x := (0, p2)) (q := 67) 1 rfl ?_
                refine e_Ok.add (z := 6 * p1 + p2) rfl rfl (by omega) ?_
                refine e_Ok.ps1 (x := (0, p4)) (q := 70) 1 rfl ?_
                refine e_Ok.ast rfl (el_o rfl) rfl rfl (by omega) ?_
                generalize hw25 : e_up w22 291 (6 * p1 + p2) p4 = w25
                have hT27 : e_Has mTy w25 := e_Has.upr hT24 hw25 (mt_o rfl) (by omega)
                refine e_Ok.ps1 (x := (0, 0)) (q := 72) 1 rfl ?_
                refine e_Ok.rets rfl rfl ?_
                exact ⟨_, rfl, Or.inr ⟨by omega, (show e_fr (mF (-1) 290 291) w w25 from e_fr.up (show e_fr (mF (-1) 290 291) w w22 from e_fr.up (e_fr.refl w) hw22 (by first | exact Or.inr ⟨(by decide), (by decide)⟩ | (unfold mF; omega))) hw25 (by first | exact Or.inr ⟨(by decide), (by decide)⟩ | (unfold mF; omega))), hT27, (fun k => ⟨Decidable.byCases (p := k = 6 * p1 + p2) (fun e => Or.inr (by rw [← hw25, ← hw22, e, e_up_ne _ _ (Or.inl (by decide)), e_up_eq]; omega)) (fun e => Or.inl (by rw [← hw25, ← hw22]; exact (e_up_ne _ _ (Or.inl (by decide))).trans (e_up_ne _ _ (Or.inr e)))), Decidable.byCases (p := k = 6 * p1 + p2) (fun e => Or.inr (by rw [← hw25, e, e_up_eq]; omega)) (fun e => Or.inl (by rw [← hw25, ← hw22]; exact (e_up_ne _ _ (Or.inr e)).trans (e_up_ne _ _ (Or.inl (by decide)))))⟩)⟩⟩
              · replace h21 : (w 275 3 : Int) ≠ 0 := (show ¬ ((w 275 3 : Int) = 0) from h21)
                refine e_Ok.ps1 (x := (0, (-2))) (q := 45) 1 rfl ?_
                refine e_Ok.rets rfl rfl ?_
                exact ⟨_, rfl, Or.inl rfl⟩
            · replace h20 : (1 : Int) = 0 := Classical.not_not.mp (show ¬ ((1 : Int) ≠ 0) from h20)
              exfalso; omega
          · refine e_Ok.nrm (q := 31) (st' := [(0, 0)]) rfl rfl ?_
            refine e_Ok.if1 rfl (fun h28 => ?_) (fun h28 => ?_)
            · replace h28 : (0 : Int) ≠ 0 := h28
              exfalso; omega
            · replace h28 : (0 : Int) = 0 := Classical.not_not.mp (show ¬ ((0 : Int) ≠ 0) from h28)
              refine e_Ok.ps1 (x := (0, (-1))) (q := 35) 1 rfl ?_
              refine e_Ok.rets rfl rfl ?_
              exact ⟨_, rfl, Or.inl rfl⟩
      · refine e_Ok.nrm (q := 18) (st' := [(0, 0)]) rfl rfl ?_
        refine e_Ok.if1 rfl (fun h29 => ?_) (fun h29 => ?_)
        · replace h29 : (0 : Int) = 0 := h29
          refine e_Ok.ps1 (x := (0, (-1))) (q := 35) 1 rfl ?_
          refine e_Ok.rets rfl rfl ?_
          exact ⟨_, rfl, Or.inl rfl⟩
        · replace h29 : (0 : Int) ≠ 0 := (show ¬ ((0 : Int) = 0) from h29)
          exfalso; omega
  · refine e_Ok.nrm (q := 6) (st' := [(0, 0)]) rfl rfl ?_
    refine e_Ok.if1 rfl (fun h30 => ?_) (fun h30 => ?_)
    · replace h30 : (0 : Int) = 0 := h30
      refine e_Ok.ps1 (x := (0, (-1))) (q := 35) 1 rfl ?_
      refine e_Ok.rets rfl rfl ?_
      exact ⟨_, rfl, Or.inl rfl⟩
    · replace h30 : (0 : Int) ≠ 0 := (show ¬ ((0 : Int) = 0) from h30)
      exfalso; omega
theorem c_285_b {d : Nat} (hd : 24 ≤ d) {w : eW} (hT : e_Has mTy w) {p1 p2 p3 : Int} (g1 : (-2147483648) ≤ p1 ∧ p1 ≤ 2147483647) (g2 : (-2147483648) ≤ p2 ∧ p2 ≤ 2147483647) (g3 : (-2147483648) ≤ p3 ∧ p3 ≤ 2147483647) : e_Ok 20 elay ecode eI d 285 (0, [(0, (1, 275)), (1, (0, p1)), (2, (0, p2)), (3, (0, p3))], [], w) (fun r w' => ∃ z : Int, r = [(0, z)] ∧ (w = w' ∨ (w 275 3 = 0 ∧ e_fr (mF (-1) 299 299) w w' ∧ e_Has mTy w' ∧ True))) := by
  obtain ⟨d, rfl⟩ : ∃ e, d = e + 1 := ⟨d - 1, by omega⟩
  have hop := e_Has.get hT (c := 275) (k := 3) (lo := 0) (hi := 1) (mt_o rfl) (by decide)
  refine e_Ok.ps2 (x := (0, p1)) (y := (1, 275)) (q := 2) 2 rfl ?_
  refine e_Ok.callV rfl (e_dq hd rfl) rfl rfl rfl rfl (c_270 (e_dq hd rfl) hT) (fun r1 w2 h3 => ?_)
  have h4 := e_Has.get hT (c := 275) (k := 10) (lo := 0) (hi := 4) (mt_o rfl) (by decide)
  obtain ⟨z5, rfl, rfl, q6⟩ := h3
  obtain ⟨rfl, q6⟩ | ⟨rfl, q6⟩ := q6
  · refine e_Ok.nrm (q := 5) (st' := [(0, 1)]) rfl rfl ?_
    refine e_Ok.if1 rfl (fun h7 => ?_) (fun h7 => ?_)
    · replace h7 : (1 : Int) = 0 := h7
      exfalso; omega
    · replace h7 : (1 : Int) ≠ 0 := (show ¬ ((1 : Int) = 0) from h7)
      refine e_Ok.ps3 (x := (4, 6)) (y := (4, 0)) (z := (4, p2)) (q := 14) 4 rfl ?_
      refine e_Ok.callS rfl (e_dq hd rfl) rfl rfl (c_266) (fun r8 w9 h10 => ?_)
      obtain ⟨z11, rfl, rfl, q12⟩ := h10
      obtain ⟨rfl, q12⟩ | ⟨rfl, q12⟩ := q12
      · refine e_Ok.nrm (q := 17) (st' := [(0, 1)]) rfl rfl ?_
        refine e_Ok.if1 rfl (fun h13 => ?_) (fun h13 => ?_)
        · replace h13 : (1 : Int) = 0 := h13
          exfalso; omega
        · replace h13 : (1 : Int) ≠ 0 := (show ¬ ((1 : Int) = 0) from h13)
          refine e_Ok.ps3 (x := (1, 275)) (y := (4, 0)) (z := (4, p3)) (q := 24) 4 rfl ?_
          have h14 := (e_Has.get hT (c := 275) (k := 23) (lo := 0) (hi := 16) (mt_o rfl) (by decide))
          refine e_Ok.getf (z := w 275 23) rfl (el_o rfl) rfl (ef_o rfl) rfl (e_bq h14 (by decide) (by decide)) ?_
          refine e_Ok.ps1 (x := (0, 1)) (q := 28) 1 rfl ?_
          refine e_Ok.sub' (z := w 275 23 - 1) rfl rfl (by omega) ?_
          refine e_Ok.run (t' := (30, [(0, (1, 275)), (1, (0, p1)), (2, (0, p2)), (3, (0, p3))], [(4, w 275 23 - 1), (4, 0), (4, p3)], w)) 1 rfl ?_
          refine e_Ok.callS rfl (e_dq hd rfl) rfl rfl (c_266) (fun r15 w16 h17 => ?_)
          obtain ⟨z18, rfl, rfl, q19⟩ := h17
          obtain ⟨rfl, q19⟩ | ⟨rfl, q19⟩ := q19
          · refine e_Ok.nrm (q := 33) (st' := [(0, 1)]) rfl rfl ?_
            refine e_Ok.if1 rfl (fun h20 => ?_) (fun h20 => ?_)
            · replace h20 : (1 : Int) ≠ 0 := h20
              refine e_Ok.ps1 (x := (1, 275)) (q := 39) 1 rfl ?_
              refine e_Ok.getf (z := w 275 3) rfl (el_o rfl) rfl (ef_o rfl) rfl (by omega) ?_
              refine e_Ok.if1 rfl (fun h21 => ?_) (fun h21 => ?_)
              · replace h21 : (w 275 3 : Int) = 0 := h21
                refine e_Ok.ps2 (x := (0, p1)) (y := (0, 112)) (q := 51) 2 rfl ?_
                refine e_Ok.mul (z := 112 * p1) rfl rfl (by omega) ?_
                refine e_Ok.ps2 (x := (0, p2)) (y := (0, 16)) (q := 55) 2 rfl ?_
                refine e_Ok.mul (z := 16 * p2) rfl rfl (by omega) ?_
                refine e_Ok.add (z := 112 * p1 + 16 * p2) rfl rfl (by omega) ?_
                refine e_Ok.ps1 (x := (0, p3)) (q := 58) 1 rfl ?_
                refine e_Ok.add (z := 112 * p1 + 16 * p2 + p3) rfl rfl (by omega) ?_
                refine e_Ok.run (t' := (62, [(4, (0, 112 * p1 + 16 * p2 + p3)), (0, (1, 275)), (1, (0, p1)), (2, (0, p2)), (3, (0, p3))], [(1, 275)], w)) 2 rfl ?_
                refine e_Ok.getr (z := 299) rfl (el_o rfl) rfl (ef_o rfl) (e_Has.eq hT (mt_o rfl)) ⟨by decide, by decide⟩ ?_
                refine e_Ok.ps1 (x := (0, 112 * p1 + 16 * p2 + p3)) (q := 67) 1 rfl ?_
                have h22 := (e_Has.get hT (c := 299) (k := 112 * p1 + 16 * p2 + p3) (lo := 0) (hi := 1) (mt_o rfl) (by decide))
                refine e_Ok.ald (z := w 299 (112 * p1 + 16 * p2 + p3)) rfl (el_o rfl) rfl (by omega) rfl (e_bq h22 (by decide) (by decide)) ?_
                refine e_Ok.if1 rfl (fun h23 => ?_) (fun h23 => ?_)
                · replace h23 : (w 299 (112 * p1 + 16 * p2 + p3) : Int) = 0 := h23
                  refine e_Ok.run (t' := (79, [(5, (0, 1)), (4, (0, 112 * p1 + 16 * p2 + p3)), (0, (1, 275)), (1, (0, p1)), (2, (0, p2)), (3, (0, p3))], [(1, 275)], w)) 3 rfl ?_
                  refine e_Ok.getr (z := 299) rfl (el_o rfl) rfl (ef_o rfl) (e_Has.eq hT (mt_o rfl)) ⟨by decide, by decide⟩ ?_
                  refine e_Ok.ps2 (x := (0, 1)) (y := (0, 112 * p1 + 16 * p2 + p3)) (q := 85) 2 rfl ?_
                  refine e_Ok.ast rfl (el_o rfl) rfl (e_nar_b (by omega)) (by omega) ?_
                  generalize hw24 : e_up w 299 (112 * p1 + 16 * p2 + p3) 1 = w24
                  have hT26 : e_Has mTy w24 := e_Has.upr hT hw24 (mt_o rfl) (by omega)
                  refine e_Ok.ps1 (x := (0, 1)) (q := 88) 1 rfl ?_
                  refine e_Ok.rets rfl rfl ?_
                  exact ⟨_, rfl, Or.inr ⟨by omega, (show e_fr (mF (-1) 299 299) w w24 from e_fr.up (e_fr.refl w) hw24 (by first | exact Or.inr ⟨(by decide), (by decide)⟩ | (unfold mF; omega))), hT26, trivial⟩⟩
                · replace h23 : (w 299 (112 * p1 + 16 * p2 + p3) : Int) ≠ 0 := (show ¬ ((w 299 (112 * p1 + 16 * p2 + p3) : Int) = 0) from h23)
                  refine e_Ok.run (t' := (79, [(5, (0, 0)), (4, (0, 112 * p1 + 16 * p2 + p3)), (0, (1, 275)), (1, (0, p1)), (2, (0, p2)), (3, (0, p3))], [(1, 275)], w)) 4 rfl ?_
                  refine e_Ok.getr (z := 299) rfl (el_o rfl) rfl (ef_o rfl) (e_Has.eq hT (mt_o rfl)) ⟨by decide, by decide⟩ ?_
                  refine e_Ok.ps2 (x := (0, 1)) (y := (0, 112 * p1 + 16 * p2 + p3)) (q := 85) 2 rfl ?_
                  refine e_Ok.ast rfl (el_o rfl) rfl (e_nar_b (by omega)) (by omega) ?_
                  generalize hw27 : e_up w 299 (112 * p1 + 16 * p2 + p3) 1 = w27
                  have hT29 : e_Has mTy w27 := e_Has.upr hT hw27 (mt_o rfl) (by omega)
                  refine e_Ok.ps1 (x := (0, 0)) (q := 88) 1 rfl ?_
                  refine e_Ok.rets rfl rfl ?_
                  exact ⟨_, rfl, Or.inr ⟨by omega, (show e_fr (mF (-1) 299 299) w w27 from e_fr.up (e_fr.refl w) hw27 (by first | exact Or.inr ⟨(by decide), (by decide)⟩ | (unfold mF; omega))), hT29, trivial⟩⟩
              · replace h21 : (w 275 3 : Int) ≠ 0 := (show ¬ ((w 275 3 : Int) = 0) from h21)
                refine e_Ok.ps1 (x := (0, (-2))) (q := 47) 1 rfl ?_
                refine e_Ok.rets rfl rfl ?_
                exact ⟨_, rfl, Or.inl rfl⟩
            · replace h20 : (1 : Int) = 0 := Classical.not_not.mp (show ¬ ((1 : Int) ≠ 0) from h20)
              exfalso; omega
          · refine e_Ok.nrm (q := 33) (st' := [(0, 0)]) rfl rfl ?_
            refine e_Ok.if1 rfl (fun h30 => ?_) (fun h30 => ?_)
            · replace h30 : (0 : Int) ≠ 0 := h30
              exfalso; omega
            · replace h30 : (0 : Int) = 0 := Classical.not_not.mp (show ¬ ((0 : Int) ≠ 0) from h30)
              refine e_Ok.ps1 (x := (0, (-1))) (q := 37) 1 rfl ?_
              refine e_Ok.rets rfl rfl ?_
              exact ⟨_, rfl, Or.inl rfl⟩
      · refine e_Ok.nrm (q := 17) (st' := [(0, 0)]) rfl rfl ?_
        refine e_Ok.if1 rfl (fun h31 => ?_) (fun h31 => ?_)
        · replace h31 : (0 : Int) = 0 := h31
          refine e_Ok.ps1 (x := (0, (-1))) (q := 37) 1 rfl ?_
          refine e_Ok.rets rfl rfl ?_
          exact ⟨_, rfl, Or.inl rfl⟩
        · replace h31 : (0 : Int) ≠ 0 := (show ¬ ((0 : Int) = 0) from h31)
          exfalso; omega
  · refine e_Ok.nrm (q := 5) (st' := [(0, 0)]) rfl rfl ?_
    refine e_Ok.if1 rfl (fun h32 => ?_) (fun h32 => ?_)
    · replace h32 : (0 : Int) = 0 := h32
      refine e_Ok.ps1 (x := (0, (-1))) (q := 37) 1 rfl ?_
      refine e_Ok.rets rfl rfl ?_
      exact ⟨_, rfl, Or.inl rfl⟩
    · replace h32 : (0 : Int) ≠ 0 := (show ¬ ((0 : Int) = 0) from h32)
      exfalso; omega
set_option maxHeartbeats 4000000 in
theorem c_286_b {d : Nat} (hd : 24 ≤ d) {w : eW} (hT : e_Has mTy w) {p1 p2 p3 p4 p5 : Int} (g1 : (-2147483648) ≤ p1 ∧ p1 ≤ 2147483647) (g2 : (-2147483648) ≤ p2 ∧ p2 ≤ 2147483647) (g3 : (-2147483648) ≤ p3 ∧ p3 ≤ 2147483647) (g4 : (-2147483648) ≤ p4 ∧ p4 ≤ 2147483647) (g5 : (-2147483648) ≤ p5 ∧ p5 ≤ 2147483647) : e_Ok 20 elay ecode eI d 286 (0, [(0, (1, 275)), (1, (0, p1)), (2, (0, p2)), (3, (0, p3)), (4, (0, p4)), (5, (0, p5))], [], w) (fun r w' => ∃ z : Int, r = [(0, z)] ∧ (w = w' ∨ (w 275 3 = 0 ∧ e_fr (mF 30 300 306) w w' ∧ e_Has mTy w' ∧ True))) := by
  obtain ⟨d, rfl⟩ : ∃ e, d = e + 1 := ⟨d - 1, by omega⟩
  have hop := e_Has.get hT (c := 275) (k := 3) (lo := 0) (hi := 1) (mt_o rfl) (by decide)
  refine e_Ok.ps2 (x := (0, p2)) (y := (0, p1)) (q := 2) 2 rfl ?_
  refine e_Ok.callS rfl (e_dq hd rfl) rfl rfl (c_272 (e_dq hd rfl)) (fun r1 w2 h3 => ?_)
  obtain ⟨z4, rfl, rfl, q5⟩ := h3
  obtain ⟨rfl, q5⟩ | ⟨rfl, q5⟩ := q5
  · refine e_Ok.nrm (q := 5) (st' := [(0, 1)]) rfl rfl ?_
    refine e_Ok.if1 rfl (fun h6 => ?_) (fun h6 => ?_)
    · replace h6 : (1 : Int) = 0 := h6
      exfalso; omega
    · replace h6 : (1 : Int) ≠ 0 := (show ¬ ((1 : Int) = 0) from h6)
      refine e_Ok.ps3 (x := (4, 3)) (y := (4, 0)) (z := (4, p3)) (q := 14) 4 rfl ?_
      refine e_Ok.callS rfl (e_dq hd rfl) rfl rfl (c_266) (fun r7 w8 h9 => ?_)
      obtain ⟨z10, rfl, rfl, q11⟩ := h9
      obtain ⟨rfl, q11⟩ | ⟨rfl, q11⟩ := q11
      · refine e_Ok.nrm (q := 17) (st' := [(0, 1)]) rfl rfl ?_
        refine e_Ok.if1 rfl (fun h12 => ?_) (fun h12 => ?_)
        · replace h12 : (1 : Int) = 0 := h12
          exfalso; omega
        · replace h12 : (1 : Int) ≠ 0 := (show ¬ ((1 : Int) = 0) from h12)
          refine e_Ok.ps3 (x := (4, 16000)) (y := (4, 0)) (z := (4, p4)) (q := 27) 4 rfl ?_
          refine e_Ok.callS rfl (e_dq hd rfl) rfl rfl (c_266) (fun r13 w14 h15 => ?_)
          obtain ⟨z16, rfl, rfl, q17⟩ := h15
          obtain ⟨rfl, q17⟩ | ⟨rfl, q17⟩ := q17
          · refine e_Ok.nrm (q := 30) (st' := [(0, 1)]) rfl rfl ?_
            refine e_Ok.if1 rfl (fun h18 => ?_) (fun h18 => ?_)
            · replace h18 : (1 : Int) = 0 := h18
              exfalso; omega
            · replace h18 : (1 : Int) ≠ 0 := (show ¬ ((1 : Int) = 0) from h18)
              refine e_Ok.ps3 (x := (4, 2000)) (y := (4, 0)) (z := (4, p5)) (q := 40) 4 rfl ?_
              refine e_Ok.callS rfl (e_dq hd rfl) rfl rfl (c_266) (fun r19 w20 h21 => ?_)
              obtain ⟨z22, rfl, rfl, q23⟩ := h21
              obtain ⟨rfl, q23⟩ | ⟨rfl, q23⟩ := q23
              · refine e_Ok.nrm (q := 43) (st' := [(0, 1)]) rfl rfl ?_
                refine e_Ok.if1 rfl (fun h24 => ?_) (fun h24 => ?_)
                · replace h24 : (1 : Int) ≠ 0 := h24
                  have hC99 : e_Ok 20 elay ecode eI (d + 1) 286 (99, [(0, (1, 275)), (1, (0, p1)), (2, (0, p2)), (3, (0, p3)), (4, (0, p4)), (5, (0, p5))], [], w) (fun r w' => ∃ z : Int, r = [(0, z)] ∧ (w = w' ∨ (w 275 3 = 0 ∧ e_fr (mF 30 300 306) w w' ∧ e_Has mTy w' ∧ True))) := by
                    refine e_Ok.run (t' := (100, [(0, (1, 275)), (1, (0, p1)), (2, (0, p2)), (3, (0, p3)), (4, (0, p4)), (5, (0, p5))], [(1, 275)], w)) 1 rfl ?_
                    refine e_Ok.getf (z := w 275 3) rfl (el_o rfl) rfl (ef_o rfl) rfl (by omega) ?_
                    refine e_Ok.if1 rfl (fun h25 => ?_) (fun h25 => ?_)
                    · replace h25 : (w 275 3 : Int) = 0 := h25
                      refine e_Ok.ps1 (x := (1, 275)) (q := 110) 1 rfl ?_
                      have h26 := (e_Has.get hT (c := 275) (k := 30) (lo := 0) (hi := 4) (mt_o rfl) (by decide))
                      refine e_Ok.getf (z := w 275 30) rfl (el_o rfl) rfl (ef_o rfl) rfl (e_bq h26 (by decide) (by decide)) ?_
                      refine e_Ok.ps1 (x := (0, 4)) (q := 114) 1 rfl ?_
                      refine e_Ok.if2 rfl (fun h27 => ?_) (fun h27 => ?_)
                      · replace h27 : (w 275 30 : Int) ≠ 4 := h27
                        refine e_Ok.ps1 (x := (1, 275)) (q := 121) 1 rfl ?_
                        refine e_Ok.getr (z := 300) rfl (el_o rfl) rfl (ef_o rfl) (e_Has.eq hT (mt_o rfl)) ⟨by decide, by decide⟩ ?_
                        refine e_Ok.ps1 (x := (1, 275)) (q := 125) 1 rfl ?_
                        refine e_Ok.getf (z := w 275 30) rfl (el_o rfl) rfl (ef_o rfl) rfl (by omega) ?_
                        refine e_Ok.ps1 (x := (0, p1)) (q := 129) 1 rfl ?_
                        refine e_Ok.ast rfl (el_o rfl) rfl rfl (by omega) ?_
                        generalize hw28 : e_up w 300 (w 275 30) p1 = w28
                        have hT30 : e_Has mTy w28 := e_Has.upr hT hw28 (mt_o rfl) (by omega)
                        refine e_Ok.ps1 (x := (1, 275)) (q := 131) 1 rfl ?_
                        refine e_Ok.getr (z := 301) rfl (el_o rfl) rfl (ef_o rfl) (e_uq hw28 (Or.inl (by decide)) (e_Has.eq hT (mt_o rfl))) ⟨by decide, by decide⟩ ?_
                        refine e_Ok.ps1 (x := (1, 275)) (q := 135) 1 rfl ?_
                        refine e_Ok.getf (z := w 275 30) rfl (el_o rfl) rfl (ef_o rfl) (e_uq hw28 (Or.inl (by decide)) rfl) (by omega) ?_
                        refine e_Ok.ps1 (x := (0, p2)) (q := 139) 1 rfl ?_
                        refine e_Ok.ast rfl (el_o rfl) rfl rfl (by omega) ?_
                        generalize hw31 : e_up w28 301 (w 275 30) p2 = w31
                        have hT33 : e_Has mTy w31 := e_Has.upr hT30 hw31 (mt_o rfl) (by omega)
                        refine e_Ok.ps1 (x := (1, 275)) (q := 141) 1 rfl ?_
                        refine e_Ok.getr (z := 302) rfl (el_o rfl) rfl (ef_o rfl) (e_uq hw31 (Or.inl (by decide)) (e_uq hw28 (Or.inl (by decide)) (e_Has.eq hT (mt_o rfl)))) ⟨by decide, by decide⟩ ?_
                        refine e_Ok.ps1 (x := (1, 275)) (q := 145) 1 rfl ?_
                        refine e_Ok.getf (z := w 275 30) rfl (el_o rfl) rfl (ef_o rfl) (e_uq hw31 (Or.inl (by decide)) (e_uq hw28 (Or.inl (by decide)) rfl)) (by omega) ?_
                        refine e_Ok.ps1 (x := (0, p3)) (q := 149) 1 rfl ?_
                        refine e_Ok.ast rfl (el_o rfl) rfl rfl (by omega) ?_
                        generalize hw34 : e_up w31 302 (w 275 30) p3 = w34
                        have hT36 : e_Has mTy w34 := e_Has.upr hT33 hw34 (mt_o rfl) (by omega)
                        refine e_Ok.ps1 (x := (1, 275)) (q := 151) 1 rfl ?_
                        refine e_Ok.getr (z := 303) rfl (el_o rfl) rfl (ef_o rfl) (e_uq hw34 (Or.inl (by decide)) (e_uq hw31 (Or.inl (by decide)) (e_uq hw28 (Or.inl (by decide)) (e_Has.eq hT (mt_o rfl))))) ⟨by decide, by decide⟩ ?_
                        refine e_Ok.ps1 (x := (1, 275)) (q := 155) 1 rfl ?_
                        refine e_Ok.getf (z := w 275 30) rfl (el_o rfl) rfl (ef_o rfl) (e_uq hw34 (Or.inl (by decide)) (e_uq hw31 (Or.inl (by decide)) (e_uq hw28 (Or.inl (by decide)) rfl))) (by omega) ?_
                        refine e_Ok.ps1 (x := (0, p4)) (q := 160) 1 rfl ?_
                        refine e_Ok.ast rfl (el_o rfl) rfl rfl (by omega) ?_
                        generalize hw37 : e_up w34 303 (w 275 30) p4 = w37
                        have hT40 : e_Has mTy w37 := e_Has.upr hT36 hw37 (mt_o rfl) (by omega)
                        refine e_Ok.ps1 (x := (1, 275)) (q := 162) 1 rfl ?_
                        refine e_Ok.getr (z := 304) rfl (el_o rfl) rfl (ef_o rfl) (e_uq hw37 (Or.inl (by decide)) (e_uq hw34 (Or.inl (by decide)) (e_uq hw31 (Or.inl (by decide)) (e_uq hw28 (Or.inl (by decide)) (e_Has.eq hT (mt_o rfl)))))) ⟨by decide, by decide⟩ ?_
                        refine e_Ok.ps1 (x := (1, 275)) (q := 166) 1 rfl ?_
                        refine e_Ok.getf (z := w 275 30) rfl (el_o rfl) rfl (ef_o rfl) (e_uq hw37 (Or.inl (by decide)) (e_uq hw34 (Or.inl (by decide)) (e_uq hw31 (Or.inl (by decide)) (e_uq hw28 (Or.inl (by decide)) rfl)))) (by omega) ?_
                        refine e_Ok.ps1 (x := (0, 0)) (q := 170) 1 rfl ?_
                        refine e_Ok.ast rfl (el_o rfl) rfl rfl (by omega) ?_
                        generalize hw41 : e_up w37 304 (w 275 30) 0 = w41
                        have hT43 : e_Has mTy w41 := e_Has.upr hT40 hw41 (mt_o rfl) (by omega)
                        refine e_Ok.ps1 (x := (1, 275)) (q := 172) 1 rfl ?_
                        refine e_Ok.getr (z := 306) rfl (el_o rfl) rfl (ef_o rfl) (e_uq hw41 (Or.inl (by decide)) (e_uq hw37 (Or.inl (by decide)) (e_uq hw34 (Or.inl (by decide)) (e_uq hw31 (Or.inl (by decide)) (e_uq hw28 (Or.inl (by decide)) (e_Has.eq hT (mt_o rfl))))))) ⟨by decide, by decide⟩ ?_
                        refine e_Ok.ps1 (x := (1, 275)) (q := 176) 1 rfl ?_
                        refine e_Ok.getf (z := w 275 30) rfl (el_o rfl) rfl (ef_o rfl) (e_uq hw41 (Or.inl (by decide)) (e_uq hw37 (Or.inl (by decide)) (e_uq hw34 (Or.inl (by decide)) (e_uq hw31 (Or.inl (by decide)) (e_uq hw28 (Or.inl (by decide)) rfl))))) (by omega) ?_
                        refine e_Ok.ps1 (x := (0, (-1))) (q := 180) 1 rfl ?_
                        refine e_Ok.ast rfl (el_o rfl) rfl rfl (by omega) ?_
                        generalize hw44 : e_up w41 306 (w 275 30) (-1) = w44
                        have hT46 : e_Has mTy w44 := e_Has.upr hT43 hw44 (mt_o rfl) (by omega)
                        refine e_Ok.ps1 (x := (1, 275)) (q := 182) 1 rfl ?_
                        refine e_Ok.getr (z := 305) rfl (el_o rfl) rfl (ef_o rfl) (e_uq hw44 (Or.inl (by decide)) (e_uq hw41 (Or.inl (by decide)) (e_uq hw37 (Or.inl (by decide)) (e_uq hw34 (Or.inl (by decide)) (e_uq hw31 (Or.inl (by decide)) (e_uq hw28 (Or.inl (by decide)) (e_Has.eq hT (mt_o rfl)))))))) ⟨by decide, by decide⟩ ?_
                        refine e_Ok.ps1 (x := (1, 275)) (q := 186) 1 rfl ?_
                        refine e_Ok.getf (z := w 275 30) rfl (el_o rfl) rfl (ef_o rfl) (e_uq hw44 (Or.inl (by decide)) (e_uq hw41 (Or.inl (by decide)) (e_uq hw37 (Or.inl (by decide)) (e_uq hw34 (Or.inl (by decide)) (e_uq hw31 (Or.inl (by decide)) (e_uq hw28 (Or.inl (by decide)) rfl)))))) (by omega) ?_
                        refine e_Ok.ps1 (x := (0, p5)) (q := 191) 1 rfl ?_
                        refine e_Ok.ast rfl (el_o rfl) rfl rfl (by omega) ?_
                        generalize hw47 : e_up w44 305 (w 275 30) p5 = w47
                        have hT49 : e_Has mTy w47 := e_Has.upr hT46 hw47 (mt_o rfl) (by omega)
                        refine e_Ok.ps2 (x := (1, 275)) (y := (1, 275)) (q := 194) 2 rfl ?_
                        refine e_Ok.getf (z := w 275 30) rfl (el_o rfl) rfl (ef_o rfl) (e_uq hw47 (Or.inl (by decide)) (e_uq hw44 (Or.inl (by decide)) (e_uq hw41 (Or.inl (by decide)) (e_uq hw37 (Or.inl (by decide)) (e_uq hw34 (Or.inl (by decide)) (e_uq hw31 (Or.inl (by decide)) (e_uq hw28 (Or.inl (by decide)) rfl))))))) (by omega) ?_
                        refine e_Ok.ps1 (x := (0, 1)) (q := 198) 1 rfl ?_
                        refine e_Ok.add (z := w 275 30 + 1) rfl rfl (by omega) ?_
                        refine e_Ok.putf rfl (el_o rfl) rfl (ef_o rfl) ?_
                        generalize hw50 : e_up w47 275 30 (w 275 30 + 1) = w50
                        have hT52 : e_Has mTy w50 := e_Has.upr hT49 hw50 (mt_o rfl) (by omega)
                        refine e_Ok.ps1 (x := (1, 275)) (q := 203) 1 rfl ?_
                        refine e_Ok.getf (z := w 275 30 + 1) rfl (el_o rfl) rfl (ef_o rfl) (e_ue hw50) (by omega) ?_
                        refine e_Ok.ps1 (x := (0, 1)) (q := 207) 1 rfl ?_
                        refine e_Ok.sub' (z := w 275 30) rfl (by omega) (by omega) ?_
                        refine e_Ok.rets rfl rfl ?_
                        exact ⟨_, rfl, Or.inr ⟨by omega, (show e_fr (mF 30 300 306) w w50 from e_fr.up (show e_fr (mF 30 300 306) w w47 from e_fr.up (show e_fr (mF 30 300 306) w w44 from e_fr.up (show e_fr (mF 30 300 306) w w41 from e_fr.up (show e_fr (mF 30 300 306) w w37 from e_fr.up (show e_fr (mF 30 300 306) w w34 from e_fr.up (show e_fr (mF 30 300 306) w w31 from e_fr.up (show e_fr (mF 30 300 306) w w28 from e_fr.up (e_fr.refl w) hw28 (by first | exact Or.inr ⟨(by decide), (by decide)⟩ | (unfold mF; omega))) hw31 (by first | exact Or.inr ⟨(by decide), (by decide)⟩ | (unfold mF; omega))) hw34 (by first | exact Or.inr ⟨(by decide), (by decide)⟩ | (unfold mF; omega))) hw37 (by first | exact Or.inr ⟨(by decide), (by decide)⟩ | (unfold mF; omega))) hw41 (by first | exact Or.inr ⟨(by decide), (by decide)⟩ | (unfold mF; omega))) hw44 (by first | exact Or.inr ⟨(by decide), (by decide)⟩ | (unfold mF; omega))) hw47 (by first | exact Or.inr ⟨(by decide), (by decide)⟩ | (unfold mF; omega))) hw50 (by first | exact Or.inl ⟨rfl, rfl⟩ | (unfold mF; omega))), hT52, trivial⟩⟩
                      · replace h27 : (w 275 30 : Int) = 4 := Classical.not_not.mp (show ¬ ((w 275 30 : Int) ≠ 4) from h27)
                        refine e_Ok.ps1 (x := (0, (-3))) (q := 119) 1 rfl ?_
                        refine e_Ok.rets rfl rfl ?_
                        exact ⟨_, rfl, Or.inl rfl⟩
                    · replace h25 : (w 275 3 : Int) ≠ 0 := (show ¬ ((w 275 3 : Int) = 0) from h25)
                      refine e_Ok.ps1 (x := (0, (-2))) (q := 108) 1 rfl ?_
                      refine e_Ok.rets rfl rfl ?_
                      exact ⟨_, rfl, Or.inl rfl⟩
                  refine e_Ok.run (t' := (50, [(0, (1, 275)), (1, (0, p1)), (2, (0, p2)), (3, (0, p3)), (4, (0, p4)), (5, (0, p5))], [(0, 2), (0, p3)], w)) 2 rfl ?_
                  refine e_Ok.if2 rfl (fun h53 => ?_) (fun h53 => ?_)
                  · replace h53 : (p3 : Int) ≥ 2 := h53
                    refine e_Ok.ps1 (x := (0, p4)) (q := 60) 1 rfl ?_
                    refine e_Ok.neg (z := -p4) rfl (by omega) (by omega) ?_
                    refine e_Ok.run (t' := (65, [(6, (0, -p4)), (0, (1, 275)), (1, (0, p1)), (2, (0, p2)), (3, (0, p3)), (4, (0, p4)), (5, (0, p5))], [(0, 2), (0, p3)], w)) 3 rfl ?_
                    refine e_Ok.remn (fun z54 hz54 => ?_) rfl (by omega) (by omega)
                    replace hz54 : z54 = p3 % 2 := hz54
                    have z54r : 0 ≤ z54 ∧ z54 ≤ 1 := by omega
                    refine e_Ok.if1 rfl (fun h55 => ?_) (fun h55 => ?_)
                    · replace h55 : (z54 : Int) ≠ 0 := h55
                      refine e_Ok.ps3 (x := (0, 2)) (y := (0, p3)) (z := (0, p1)) (q := 79) 3 rfl ?_
                      refine e_Ok.remn (fun z56 hz56 => ?_) rfl (by omega) (by omega)
                      replace hz56 : z56 = p3 % 2 := hz56
                      have z56r : 0 ≤ z56 ∧ z56 ≤ 1 := by omega
                      refine e_Ok.if1 rfl (fun h57 => ?_) (fun h57 => ?_)
                      · replace h57 : (z56 : Int) ≠ 0 := h57
                        refine e_Ok.ps2 (x := (0, -p4)) (y := (0, p2)) (q := 90) 2 rfl ?_
                        refine e_Ok.add (z := p2 - p4) rfl (by omega) (by omega) ?_
                        refine e_Ok.callS rfl (e_dq hd rfl) rfl rfl (c_272 (e_dq hd rfl)) (fun r58 w59 h60 => ?_)
                        obtain ⟨z61, rfl, rfl, q62⟩ := h60
                        obtain ⟨rfl, q62⟩ | ⟨rfl, q62⟩ := q62
                        · refine e_Ok.nrm (q := 94) (st' := [(0, 1)]) rfl rfl ?_
                          refine e_Ok.if1 rfl (fun h63 => ?_) (fun h63 => ?_)
                          · replace h63 : (1 : Int) ≠ 0 := h63
                            refine e_Ok.sub eAlk (e_sub_of rfl ?_) hC99
                            exact ⟨rfl, rfl, rfl, rfl, rfl, rfl, trivial⟩
                          · replace h63 : (1 : Int) = 0 := Classical.not_not.mp (show ¬ ((1 : Int) ≠ 0) from h63)
                            exfalso; omega
                        · refine e_Ok.nrm (q := 94) (st' := [(0, 0)]) rfl rfl ?_
                          refine e_Ok.if1 rfl (fun h64 => ?_) (fun h64 => ?_)
                          · replace h64 : (0 : Int) ≠ 0 := h64
                            exfalso; omega
                          · replace h64 : (0 : Int) = 0 := Classical.not_not.mp (show ¬ ((0 : Int) ≠ 0) from h64)
                            refine e_Ok.ps1 (x := (0, (-1))) (q := 98) 1 rfl ?_
                            refine e_Ok.rets rfl rfl ?_
                            exact ⟨_, rfl, Or.inl rfl⟩
                      · replace h57 : (z56 : Int) = 0 := Classical.not_not.mp (show ¬ ((z56 : Int) ≠ 0) from h57)
                        refine e_Ok.ps1 (x := (0, p2)) (q := 91) 2 rfl ?_
                        refine e_Ok.callS rfl (e_dq hd rfl) rfl rfl (c_272 (e_dq hd rfl)) (fun r65 w66 h67 => ?_)
                        obtain ⟨z68, rfl, rfl, q69⟩ := h67
                        obtain ⟨rfl, q69⟩ | ⟨rfl, q69⟩ := q69
                        · refine e_Ok.nrm (q := 94) (st' := [(0, 1)]) rfl rfl ?_
                          refine e_Ok.if1 rfl (fun h70 => ?_) (fun h70 => ?_)
                          · replace h70 : (1 : Int) ≠ 0 := h70
                            refine e_Ok.sub eAlk (e_sub_of rfl ?_) hC99
                            exact ⟨rfl, rfl, rfl, rfl, rfl, rfl, trivial⟩
                          · replace h70 : (1 : Int) = 0 := Classical.not_not.mp (show ¬ ((1 : Int) ≠ 0) from h70)
                            exfalso; omega
                        · refine e_Ok.nrm (q := 94) (st' := [(0, 0)]) rfl rfl ?_
                          refine e_Ok.if1 rfl (fun h71 => ?_) (fun h71 => ?_)
                          · replace h71 : (0 : Int) ≠ 0 := h71
                            exfalso; omega
                          · replace h71 : (0 : Int) = 0 := Classical.not_not.mp (show ¬ ((0 : Int) ≠ 0) from h71)
                            refine e_Ok.ps1 (x := (0, (-1))) (q := 98) 1 rfl ?_
                            refine e_Ok.rets rfl rfl ?_
                            exact ⟨_, rfl, Or.inl rfl⟩
                    · replace h55 : (z54 : Int) = 0 := Classical.not_not.mp (show ¬ ((z54 : Int) ≠ 0) from h55)
                      refine e_Ok.ps2 (x := (0, -p4)) (y := (0, p1)) (q := 72) 2 rfl ?_
                      refine e_Ok.add (z := p1 - p4) rfl (by omega) (by omega) ?_
                      refine e_Ok.ps2 (x := (0, 2)) (y := (0, p3)) (q := 79) 3 rfl ?_
                      refine e_Ok.remn (fun z72 hz72 => ?_) rfl (by omega) (by omega)
                      replace hz72 : z72 = p3 % 2 := hz72
                      have z72r : 0 ≤ z72 ∧ z72 ≤ 1 := by omega
                      refine e_Ok.if1 rfl (fun h73 => ?_) (fun h73 => ?_)
                      · replace h73 : (z72 : Int) ≠ 0 := h73
                        refine e_Ok.ps2 (x := (0, -p4)) (y := (0, p2)) (q := 90) 2 rfl ?_
                        refine e_Ok.add (z := p2 - p4) rfl (by omega) (by omega) ?_
                        refine e_Ok.callS rfl (e_dq hd rfl) rfl rfl (c_272 (e_dq hd rfl)) (fun r74 w75 h76 => ?_)
                        obtain ⟨z77, rfl, rfl, q78⟩ := h76
                        obtain ⟨rfl, q78⟩ | ⟨rfl, q78⟩ := q78
                        · refine e_Ok.nrm (q := 94) (st' := [(0, 1)]) rfl rfl ?_
                          refine e_Ok.if1 rfl (fun h79 => ?_) (fun h79 => ?_)
                          · replace h79 : (1 : Int) ≠ 0 := h79
                            refine e_Ok.sub eAlk (e_sub_of rfl ?_) hC99
                            exact ⟨rfl, rfl, rfl, rfl, rfl, rfl, trivial⟩
                          · replace h79 : (1 : Int) = 0 := Classical.not_not.mp (show ¬ ((1 : Int) ≠ 0) from h79)
                            exfalso; omega
                        · refine e_Ok.nrm (q := 94) (st' := [(0, 0)]) rfl rfl ?_
                          refine e_Ok.if1 rfl (fun h80 => ?_) (fun h80 => ?_)
                          · replace h80 : (0 : Int) ≠ 0 := h80
                            exfalso; omega
                          · replace h80 : (0 : Int) = 0 := Classical.not_not.mp (show ¬ ((0 : Int) ≠ 0) from h80)
                            refine e_Ok.ps1 (x := (0, (-1))) (q := 98) 1 rfl ?_
                            refine e_Ok.rets rfl rfl ?_
                            exact ⟨_, rfl, Or.inl rfl⟩
                      · replace h73 : (z72 : Int) = 0 := Classical.not_not.mp (show ¬ ((z72 : Int) ≠ 0) from h73)
                        refine e_Ok.ps1 (x := (0, p2)) (q := 91) 2 rfl ?_
                        refine e_Ok.callS rfl (e_dq hd rfl) rfl rfl (c_272 (e_dq hd rfl)) (fun r81 w82 h83 => ?_)
                        obtain ⟨z84, rfl, rfl, q85⟩ := h83
                        obtain ⟨rfl, q85⟩ | ⟨rfl, q85⟩ := q85
                        · refine e_Ok.nrm (q := 94) (st' := [(0, 1)]) rfl rfl ?_
                          refine e_Ok.if1 rfl (fun h86 => ?_) (fun h86 => ?_)
                          · replace h86 : (1 : Int) ≠ 0 := h86
                            refine e_Ok.sub eAlk (e_sub_of rfl ?_) hC99
                            exact ⟨rfl, rfl, rfl, rfl, rfl, rfl, trivial⟩
                          · replace h86 : (1 : Int) = 0 := Classical.not_not.mp (show ¬ ((1 : Int) ≠ 0) from h86)
                            exfalso; omega
                        · refine e_Ok.nrm (q := 94) (st' := [(0, 0)]) rfl rfl ?_
                          refine e_Ok.if1 rfl (fun h87 => ?_) (fun h87 => ?_)
                          · replace h87 : (0 : Int) ≠ 0 := h87
                            exfalso; omega
                          · replace h87 : (0 : Int) = 0 := Classical.not_not.mp (show ¬ ((0 : Int) ≠ 0) from h87)
                            refine e_Ok.ps1 (x := (0, (-1))) (q := 98) 1 rfl ?_
                            refine e_Ok.rets rfl rfl ?_
                            exact ⟨_, rfl, Or.inl rfl⟩
                  · replace h53 : (p3 : Int) < 2 := Int.not_le.mp (show ¬ ((p3 : Int) ≥ 2) from h53)
                    refine e_Ok.run (t' := (65, [(6, (0, p4)), (0, (1, 275)), (1, (0, p1)), (2, (0, p2)), (3, (0, p3)), (4, (0, p4)), (5, (0, p5))], [(0, 2), (0, p3)], w)) 5 rfl ?_
                    refine e_Ok.remn (fun z88 hz88 => ?_) rfl (by omega) (by omega)
                    replace hz88 : z88 = p3 % 2 := hz88
                    have z88r : 0 ≤ z88 ∧ z88 ≤ 1 := by omega
                    refine e_Ok.if1 rfl (fun h89 => ?_) (fun h89 => ?_)
                    · replace h89 : (z88 : Int) ≠ 0 := h89
                      refine e_Ok.ps3 (x := (0, 2)) (y := (0, p3)) (z := (0, p1)) (q := 79) 3 rfl ?_
                      refine e_Ok.remn (fun z90 hz90 => ?_) rfl (by omega) (by omega)
                      replace hz90 : z90 = p3 % 2 := hz90
                      have z90r : 0 ≤ z90 ∧ z90 ≤ 1 := by omega
                      refine e_Ok.if1 rfl (fun h91 => ?_) (fun h91 => ?_)
                      · replace h91 : (z90 : Int) ≠ 0 := h91
                        refine e_Ok.ps2 (x := (0, p4)) (y := (0, p2)) (q := 90) 2 rfl ?_
                        refine e_Ok.add (z := p2 + p4) rfl rfl (by omega) ?_
                        refine e_Ok.callS rfl (e_dq hd rfl) rfl rfl (c_272 (e_dq hd rfl)) (fun r92 w93 h94 => ?_)
                        obtain ⟨z95, rfl, rfl, q101⟩ := h94
                        obtain ⟨rfl, q101⟩ | ⟨rfl, q101⟩ := q101
                        · refine e_Ok.nrm (q := 94) (st' := [(0, 1)]) rfl rfl ?_
                          refine e_Ok.if1 rfl (fun h103 => ?_) (fun h103 => ?_)
                          · replace h103 : (1 : Int) ≠ 0 := h103
                            refine e_Ok.sub eAlk (e_sub_of rfl ?_) hC99
                            exact ⟨rfl, rfl, rfl, rfl, rfl, rfl, trivial⟩
                          · replace h103 : (1 : Int) = 0 := Classical.not_not.mp (show ¬ ((1 : Int) ≠ 0) from h103)
                            exfalso; omega
                        · refine e_Ok.nrm (q := 94) (st' := [(0, 0)]) rfl rfl ?_
                          refine e_Ok.if1 rfl (fun h104 => ?_) (fun h104 => ?_)
                          · replace h104 : (0 : Int) ≠ 0 := h104
                            exfalso; omega
                          · replace h104 : (0 : Int) = 0 := Classical.not_not.mp (show ¬ ((0 : Int) ≠ 0) from h104)
                            refine e_Ok.ps1 (x := (0, (-1))) (q := 98) 1 rfl ?_
                            refine e_Ok.rets rfl rfl ?_
                            exact ⟨_, rfl, Or.inl rfl⟩
                      · replace h91 : (z90 : Int) = 0 := Classical.not_not.mp (show ¬ ((z90 : Int) ≠ 0) from h91)
                        refine e_Ok.ps1 (x := (0, p2)) (q := 91) 2 rfl ?_
                        refine e_Ok.callS rfl (e_dq hd rfl) rfl rfl (c_272 (e_dq hd rfl)) (fun r105 w106 h107 => ?_)
                        obtain ⟨z108, rfl, rfl, q109⟩ := h107
                        obtain ⟨rfl, q109⟩ | ⟨rfl, q109⟩ := q109
                        · refine e_Ok.nrm (q := 94) (st' := [(0, 1)]) rfl rfl ?_
                          refine e_Ok.if1 rfl (fun h110 => ?_) (fun h110 => ?_)
                          · replace h110 : (1 : Int) ≠ 0 := h110
                            refine e_Ok.sub eAlk (e_sub_of rfl ?_) hC99
                            exact ⟨rfl, rfl, rfl, rfl, rfl, rfl, trivial⟩
                          · replace h110 : (1 : Int) = 0 := Classical.not_not.mp (show ¬ ((1 : Int) ≠ 0) from h110)
                            exfalso; omega
                        · refine e_Ok.nrm (q := 94) (st' := [(0, 0)]) rfl rfl ?_
                          refine e_Ok.if1 rfl (fun h111 => ?_) (fun h111 => ?_)
                          · replace h111 : (0 : Int) ≠ 0 := h111
                            exfalso; omega
                          · replace h111 : (0 : Int) = 0 := Classical.not_not.mp (show ¬ ((0 : Int) ≠ 0) from h111)
                            refine e_Ok.ps1 (x := (0, (-1))) (q := 98) 1 rfl ?_
                            refine e_Ok.rets rfl rfl ?_
                            exact ⟨_, rfl, Or.inl rfl⟩
                    · replace h89 : (z88 : Int) = 0 := Classical.not_not.mp (show ¬ ((z88 : Int) ≠ 0) from h89)
                      refine e_Ok.ps2 (x := (0, p4)) (y := (0, p1)) (q := 72) 2 rfl ?_
                      refine e_Ok.add (z := p1 + p4) rfl rfl (by omega) ?_
                      refine e_Ok.ps2 (x := (0, 2)) (y := (0, p3)) (q := 79) 3 rfl ?_
                      refine e_Ok.remn (fun z112 hz112 => ?_) rfl (by omega) (by omega)
                      replace hz112 : z112 = p3 % 2 := hz112
                      have z112r : 0 ≤ z112 ∧ z112 ≤ 1 := by omega
                      refine e_Ok.if1 rfl (fun h113 => ?_) (fun h113 => ?_)
                      · replace h113 : (z112 : Int) ≠ 0 := h113
                        refine e_Ok.ps2 (x := (0, p4)) (y := (0, p2)) (q := 90) 2 rfl ?_
                        refine e_Ok.add (z := p2 + p4) rfl rfl (by omega) ?_
                        refine e_Ok.callS rfl (e_dq hd rfl) rfl rfl (c_272 (e_dq hd rfl)) (fun r114 w115 h116 => ?_)
                        obtain ⟨z117, rfl, rfl, q118⟩ := h116
                        obtain ⟨rfl, q118⟩ | ⟨rfl, q118⟩ := q118
                        · refine e_Ok.nrm (q := 94) (st' := [(0, 1)]) rfl rfl ?_
                          refine e_Ok.if1 rfl (fun h119 => ?_) (fun h119 => ?_)
                          · replace h119 : (1 : Int) ≠ 0 := h119
                            refine e_Ok.sub eAlk (e_sub_of rfl ?_) hC99
                            exact ⟨rfl, rfl, rfl, rfl, rfl, rfl, trivial⟩
                          · replace h119 : (1 : Int) = 0 := Classical.not_not.mp (show ¬ ((1 : Int) ≠ 0) from h119)
                            exfalso; omega
                        · refine e_Ok.nrm (q := 94) (st' := [(0, 0)]) rfl rfl ?_
                          refine e_Ok.if1 rfl (fun h120 => ?_) (fun h120 => ?_)
                          · replace h120 : (0 : Int) ≠ 0 := h120
                            exfalso; omega
                          · replace h120 : (0 : Int) = 0 := Classical.not_not.mp (show ¬ ((0 : Int) ≠ 0) from h120)
                            refine e_Ok.ps1 (x := (0, (-1))) (q := 98) 1 rfl ?_
                            refine e_Ok.rets rfl rfl ?_
                            exact ⟨_, rfl, Or.inl rfl⟩
                      · replace h113 : (z112 : Int) = 0 := Classical.not_not.mp (show ¬ ((z112 : Int) ≠ 0) from h113)
                        refine e_Ok.ps1 (x := (0, p2)) (q := 91) 2 rfl ?_
                        refine e_Ok.callS rfl (e_dq hd rfl) rfl rfl (c_272 (e_dq hd rfl)) (fun r121 w122 h123 => ?_)
                        obtain ⟨z124, rfl, rfl, q125⟩ := h123
                        obtain ⟨rfl, q125⟩ | ⟨rfl, q125⟩ := q125
                        · refine e_Ok.nrm (q := 94) (st' := [(0, 1)]) rfl rfl ?_
                          refine e_Ok.if1 rfl (fun h126 => ?_) (fun h126 => ?_)
                          · replace h126 : (1 : Int) ≠ 0 := h126
                            refine e_Ok.sub eAlk (e_sub_of rfl ?_) hC99
                            exact ⟨rfl, rfl, rfl, rfl, rfl, rfl, trivial⟩
                          · replace h126 : (1 : Int) = 0 := Classical.not_not.mp (show ¬ ((1 : Int) ≠ 0) from h126)
                            exfalso; omega
                        · refine e_Ok.nrm (q := 94) (st' := [(0, 0)]) rfl rfl ?_
                          refine e_Ok.if1 rfl (fun h127 => ?_) (fun h127 => ?_)
                          · replace h127 : (0 : Int) ≠ 0 := h127
                            exfalso; omega
                          · replace h127 : (0 : Int) = 0 := Classical.not_not.mp (show ¬ ((0 : Int) ≠ 0) from h127)
                            refine e_Ok.ps1 (x := (0, (-1))) (q := 98) 1 rfl ?_
                            refine e_Ok.rets rfl rfl ?_
                            exact ⟨_, rfl, Or.inl rfl⟩
                · replace h24 : (1 : Int) = 0 := Classical.not_not.mp (show ¬ ((1 : Int) ≠ 0) from h24)
                  exfalso; omega
              · refine e_Ok.nrm (q := 43) (st' := [(0, 0)]) rfl rfl ?_
                refine e_Ok.if1 rfl (fun h128 => ?_) (fun h128 => ?_)
                · replace h128 : (0 : Int) ≠ 0 := h128
                  exfalso; omega
                · replace h128 : (0 : Int) = 0 := Classical.not_not.mp (show ¬ ((0 : Int) ≠ 0) from h128)
                  refine e_Ok.ps1 (x := (0, (-1))) (q := 47) 1 rfl ?_
                  refine e_Ok.rets rfl rfl ?_
                  exact ⟨_, rfl, Or.inl rfl⟩
          · refine e_Ok.nrm (q := 30) (st' := [(0, 0)]) rfl rfl ?_
            refine e_Ok.if1 rfl (fun h129 => ?_) (fun h129 => ?_)
            · replace h129 : (0 : Int) = 0 := h129
              refine e_Ok.ps1 (x := (0, (-1))) (q := 47) 1 rfl ?_
              refine e_Ok.rets rfl rfl ?_
              exact ⟨_, rfl, Or.inl rfl⟩
            · replace h129 : (0 : Int) ≠ 0 := (show ¬ ((0 : Int) = 0) from h129)
              exfalso; omega
      · refine e_Ok.nrm (q := 17) (st' := [(0, 0)]) rfl rfl ?_
        refine e_Ok.if1 rfl (fun h130 => ?_) (fun h130 => ?_)
        · replace h130 : (0 : Int) = 0 := h130
          refine e_Ok.ps1 (x := (0, (-1))) (q := 47) 1 rfl ?_
          refine e_Ok.rets rfl rfl ?_
          exact ⟨_, rfl, Or.inl rfl⟩
        · replace h130 : (0 : Int) ≠ 0 := (show ¬ ((0 : Int) = 0) from h130)
          exfalso; omega
  · refine e_Ok.nrm (q := 5) (st' := [(0, 0)]) rfl rfl ?_
    refine e_Ok.if1 rfl (fun h131 => ?_) (fun h131 => ?_)
    · replace h131 : (0 : Int) = 0 := h131
      refine e_Ok.ps1 (x := (0, (-1))) (q := 47) 1 rfl ?_
      refine e_Ok.rets rfl rfl ?_
      exact ⟨_, rfl, Or.inl rfl⟩
    · replace h131 : (0 : Int) ≠ 0 := (show ¬ ((0 : Int) = 0) from h131)
      exfalso; omega
theorem c_287_b {d : Nat} (hd : 24 ≤ d) {w : eW} (hT : e_Has mTy w) {p1 p2 : Int} (g1 : (-2147483648) ≤ p1 ∧ p1 ≤ 2147483647) (g2 : (-2147483648) ≤ p2 ∧ p2 ≤ 2147483647) : e_Ok 20 elay ecode eI d 287 (0, [(0, (1, 275)), (1, (0, p1)), (2, (0, p2))], [], w) (fun r w' => ∃ z : Int, r = [(0, z)] ∧ (w = w' ∨ (w 275 3 = 0 ∧ e_fr (mF (-1) 304 304) w w' ∧ e_Has mTy w' ∧ True))) := by
  obtain ⟨d, rfl⟩ : ∃ e, d = e + 1 := ⟨d - 1, by omega⟩
  have hop := e_Has.get hT (c := 275) (k := 3) (lo := 0) (hi := 1) (mt_o rfl) (by decide)
  refine e_Ok.ps3 (x := (1, 275)) (y := (4, 0)) (z := (4, p1)) (q := 4) 4 rfl ?_
  have h1 := (e_Has.get hT (c := 275) (k := 30) (lo := 0) (hi := 4) (mt_o rfl) (by decide))
  refine e_Ok.getf (z := w 275 30) rfl (el_o rfl) rfl (ef_o rfl) rfl (e_bq h1 (by decide) (by decide)) ?_
  refine e_Ok.ps1 (x := (0, 1)) (q := 8) 1 rfl ?_
  refine e_Ok.sub' (z := w 275 30 - 1) rfl rfl (by omega) ?_
  refine e_Ok.run (t' := (10, [(0, (1, 275)), (1, (0, p1)), (2, (0, p2))], [(4, w 275 30 - 1), (4, 0), (4, p1)], w)) 1 rfl ?_
  refine e_Ok.callS rfl (e_dq hd rfl) rfl rfl (c_266) (fun r2 w3 h4 => ?_)
  obtain ⟨z5, rfl, rfl, q6⟩ := h4
  obtain ⟨rfl, q6⟩ | ⟨rfl, q6⟩ := q6
  · refine e_Ok.nrm (q := 13) (st' := [(0, 1)]) rfl rfl ?_
    refine e_Ok.if1 rfl (fun h7 => ?_) (fun h7 => ?_)
    · replace h7 : (1 : Int) = 0 := h7
      exfalso; omega
    · replace h7 : (1 : Int) ≠ 0 := (show ¬ ((1 : Int) = 0) from h7)
      refine e_Ok.ps3 (x := (4, 100)) (y := (4, 0)) (z := (4, p2)) (q := 22) 4 rfl ?_
      refine e_Ok.callS rfl (e_dq hd rfl) rfl rfl (c_266) (fun r8 w9 h10 => ?_)
      obtain ⟨z11, rfl, rfl, q12⟩ := h10
      obtain ⟨rfl, q12⟩ | ⟨rfl, q12⟩ := q12
      · refine e_Ok.nrm (q := 25) (st' := [(0, 1)]) rfl rfl ?_
        refine e_Ok.if1 rfl (fun h13 => ?_) (fun h13 => ?_)
        · replace h13 : (1 : Int) ≠ 0 := h13
          refine e_Ok.ps1 (x := (1, 275)) (q := 31) 1 rfl ?_
          refine e_Ok.getf (z := w 275 3) rfl (el_o rfl) rfl (ef_o rfl) rfl (by omega) ?_
          refine e_Ok.if1 rfl (fun h14 => ?_) (fun h14 => ?_)
          · replace h14 : (w 275 3 : Int) = 0 := h14
            refine e_Ok.ps1 (x := (1, 275)) (q := 41) 1 rfl ?_
            refine e_Ok.getr (z := 304) rfl (el_o rfl) rfl (ef_o rfl) (e_Has.eq hT (mt_o rfl)) ⟨by decide, by decide⟩ ?_
            refine e_Ok.ps1 (x := (0, p1)) (q := 45) 1 rfl ?_
            have h15 := (e_Has.get hT (c := 304) (k := p1) (lo := 0) (hi := 100) (mt_o rfl) (by decide))
            refine e_Ok.ald (z := w 304 p1) rfl (el_o rfl) rfl (by omega) rfl (e_bq h15 (by decide) (by decide)) ?_
            refine e_Ok.run (t' := (48, [(3, (0, w 304 p1)), (0, (1, 275)), (1, (0, p1)), (2, (0, p2))], [(1, 275)], w)) 2 rfl ?_
            refine e_Ok.getr (z := 304) rfl (el_o rfl) rfl (ef_o rfl) (e_Has.eq hT (mt_o rfl)) ⟨by decide, by decide⟩ ?_
            refine e_Ok.ps2 (x := (0, p2)) (y := (0, p1)) (q := 53) 2 rfl ?_
            refine e_Ok.ast rfl (el_o rfl) rfl rfl (by omega) ?_
            generalize hw16 : e_up w 304 p1 p2 = w16
            have hT18 : e_Has mTy w16 := e_Has.upr hT hw16 (mt_o rfl) (by omega)
            refine e_Ok.ps1 (x := (0, w 304 p1)) (q := 55) 1 rfl ?_
            refine e_Ok.rets rfl rfl ?_
            exact ⟨_, rfl, Or.inr ⟨by omega, (show e_fr (mF (-1) 304 304) w w16 from e_fr.up (e_fr.refl w) hw16 (by first | exact Or.inr ⟨(by decide), (by decide)⟩ | (unfold mF; omega))), hT18, trivial⟩⟩
          · replace h14 : (w 275 3 : Int) ≠ 0 := (show ¬ ((w 275 3 : Int) = 0) from h14)
            refine e_Ok.ps1 (x := (0, (-2))) (q := 39) 1 rfl ?_
            refine e_Ok.rets rfl rfl ?_
            exact ⟨_, rfl, Or.inl rfl⟩
        · replace h13 : (1 : Int) = 0 := Classical.not_not.mp (show ¬ ((1 : Int) ≠ 0) from h13)
          exfalso; omega
      · refine e_Ok.nrm (q := 25) (st' := [(0, 0)]) rfl rfl ?_
        refine e_Ok.if1 rfl (fun h19 => ?_) (fun h19 => ?_)
        · replace h19 : (0 : Int) ≠ 0 := h19
          exfalso; omega
        · replace h19 : (0 : Int) = 0 := Classical.not_not.mp (show ¬ ((0 : Int) ≠ 0) from h19)
          refine e_Ok.ps1 (x := (0, (-1))) (q := 29) 1 rfl ?_
          refine e_Ok.rets rfl rfl ?_
          exact ⟨_, rfl, Or.inl rfl⟩
  · refine e_Ok.nrm (q := 13) (st' := [(0, 0)]) rfl rfl ?_
    refine e_Ok.if1 rfl (fun h20 => ?_) (fun h20 => ?_)
    · replace h20 : (0 : Int) = 0 := h20
      refine e_Ok.ps1 (x := (0, (-1))) (q := 29) 1 rfl ?_
      refine e_Ok.rets rfl rfl ?_
      exact ⟨_, rfl, Or.inl rfl⟩
    · replace h20 : (0 : Int) ≠ 0 := (show ¬ ((0 : Int) = 0) from h20)
      exfalso; omega
theorem c_288_b {d : Nat} (hd : 24 ≤ d) {w : eW} (hT : e_Has mTy w) {p1 p2 p3 p4 : Int} (g1 : (-2147483648) ≤ p1 ∧ p1 ≤ 2147483647) (g2 : (-2147483648) ≤ p2 ∧ p2 ≤ 2147483647) (g3 : (-2147483648) ≤ p3 ∧ p3 ≤ 2147483647) (g4 : (-2147483648) ≤ p4 ∧ p4 ≤ 2147483647) : e_Ok 20 elay ecode eI d 288 (0, [(0, (1, 275)), (1, (0, p1)), (2, (0, p2)), (3, (0, p3)), (4, (0, p4))], [], w) (fun r w' => ∃ z : Int, r = [(0, z)] ∧ (w = w' ∨ (w 275 3 = 0 ∧ e_fr (mF (-1) 306 308) w w' ∧ e_Has mTy w' ∧ True))) := by
  obtain ⟨d, rfl⟩ : ∃ e, d = e + 1 := ⟨d - 1, by omega⟩
  have hop := e_Has.get hT (c := 275) (k := 3) (lo := 0) (hi := 1) (mt_o rfl) (by decide)
  refine e_Ok.ps3 (x := (1, 275)) (y := (4, 0)) (z := (4, p1)) (q := 4) 4 rfl ?_
  have h1 := (e_Has.get hT (c := 275) (k := 30) (lo := 0) (hi := 4) (mt_o rfl) (by decide))
  refine e_Ok.getf (z := w 275 30) rfl (el_o rfl) rfl (ef_o rfl) rfl (e_bq h1 (by decide) (by decide)) ?_
  refine e_Ok.ps1 (x := (0, 1)) (q := 8) 1 rfl ?_
  refine e_Ok.sub' (z := w 275 30 - 1) rfl rfl (by omega) ?_
  refine e_Ok.run (t' := (10, [(0, (1, 275)), (1, (0, p1)), (2, (0, p2)), (3, (0, p3)), (4, (0, p4))], [(4, w 275 30 - 1), (4, 0), (4, p1)], w)) 1 rfl ?_
  refine e_Ok.callS rfl (e_dq hd rfl) rfl rfl (c_266) (fun r2 w3 h4 => ?_)
  obtain ⟨z5, rfl, rfl, q6⟩ := h4
  obtain ⟨rfl, q6⟩ | ⟨rfl, q6⟩ := q6
  · refine e_Ok.nrm (q := 13) (st' := [(0, 1)]) rfl rfl ?_
    refine e_Ok.if1 rfl (fun h7 => ?_) (fun h7 => ?_)
    · replace h7 : (1 : Int) = 0 := h7
      exfalso; omega
    · replace h7 : (1 : Int) ≠ 0 := (show ¬ ((1 : Int) = 0) from h7)
      refine e_Ok.ps3 (x := (4, 63)) (y := (4, 0)) (z := (4, p2)) (q := 22) 4 rfl ?_
      refine e_Ok.callS rfl (e_dq hd rfl) rfl rfl (c_266) (fun r8 w9 h10 => ?_)
      obtain ⟨z11, rfl, rfl, q12⟩ := h10
      obtain ⟨rfl, q12⟩ | ⟨rfl, q12⟩ := q12
      · refine e_Ok.nrm (q := 25) (st' := [(0, 1)]) rfl rfl ?_
        refine e_Ok.if1 rfl (fun h13 => ?_) (fun h13 => ?_)
        · replace h13 : (1 : Int) = 0 := h13
          exfalso; omega
        · replace h13 : (1 : Int) ≠ 0 := (show ¬ ((1 : Int) = 0) from h13)
          refine e_Ok.ps1 (x := (0, p3)) (q := 29) 1 rfl ?_
          refine e_Ok.if1 rfl (fun h14 => ?_) (fun h14 => ?_)
          · replace h14 : (p3 : Int) < 0 := h14
            refine e_Ok.ps1 (x := (0, (-1))) (q := 39) 1 rfl ?_
            refine e_Ok.rets rfl rfl ?_
            exact ⟨_, rfl, Or.inl rfl⟩
          · replace h14 : (p3 : Int) ≥ 0 := Int.not_lt.mp (show ¬ ((p3 : Int) < 0) from h14)
            refine e_Ok.ps2 (x := (0, p3)) (y := (0, p4)) (q := 35) 2 rfl ?_
            refine e_Ok.if2 rfl (fun h15 => ?_) (fun h15 => ?_)
            · replace h15 : (p4 : Int) ≥ p3 := h15
              refine e_Ok.ps1 (x := (1, 275)) (q := 41) 1 rfl ?_
              refine e_Ok.getf (z := w 275 3) rfl (el_o rfl) rfl (ef_o rfl) rfl (by omega) ?_
              refine e_Ok.if1 rfl (fun h16 => ?_) (fun h16 => ?_)
              · replace h16 : (w 275 3 : Int) = 0 := h16
                refine e_Ok.ps1 (x := (1, 275)) (q := 51) 1 rfl ?_
                refine e_Ok.getr (z := 306) rfl (el_o rfl) rfl (ef_o rfl) (e_Has.eq hT (mt_o rfl)) ⟨by decide, by decide⟩ ?_
                refine e_Ok.ps2 (x := (0, p2)) (y := (0, p1)) (q := 56) 2 rfl ?_
                refine e_Ok.ast rfl (el_o rfl) rfl rfl (by omega) ?_
                generalize hw17 : e_up w 306 p1 p2 = w17
                have hT19 : e_Has mTy w17 := e_Has.upr hT hw17 (mt_o rfl) (by omega)
                refine e_Ok.ps1 (x := (1, 275)) (q := 58) 1 rfl ?_
                refine e_Ok.getr (z := 307) rfl (el_o rfl) rfl (ef_o rfl) (e_uq hw17 (Or.inl (by decide)) (e_Has.eq hT (mt_o rfl))) ⟨by decide, by decide⟩ ?_
                refine e_Ok.ps2 (x := (0, p3)) (y := (0, p1)) (q := 63) 2 rfl ?_
                refine e_Ok.ast rfl (el_o rfl) rfl rfl (by omega) ?_
                generalize hw20 : e_up w17 307 p1 p3 = w20
                have hT22 : e_Has mTy w20 := e_Has.upr hT19 hw20 (mt_o rfl) (by omega)
                refine e_Ok.ps1 (x := (1, 275)) (q := 65) 1 rfl ?_
                refine e_Ok.getr (z := 308) rfl (el_o rfl) rfl (ef_o rfl) (e_uq hw20 (Or.inl (by decide)) (e_uq hw17 (Or.inl (by decide)) (e_Has.eq hT (mt_o rfl)))) ⟨by decide, by decide⟩ ?_
                refine e_Ok.ps2 (x := (0, p4)) (y := (0, p1)) (q := 71) 2 rfl ?_
                refine e_Ok.ast rfl (el_o rfl) rfl rfl (by omega) ?_
                generalize hw23 : e_up w20 308 p1 p4 = w23
                have hT25 : e_Has mTy w23 := e_Has.upr hT22 hw23 (mt_o rfl) (by omega)
                refine e_Ok.ps1 (x := (0, 0)) (q := 73) 1 rfl ?_
                refine e_Ok.rets rfl rfl ?_
                exact ⟨_, rfl, Or.inr ⟨by omega, (show e_fr (mF (-1) 306 308) w w23 from e_fr.up (show e_fr (mF (-1) 306 308) w w20 from e_fr.up (show e_fr (mF (-1) 306 308) w w17 from e_fr.up (e_fr.refl w) hw17 (by first | exact Or.inr ⟨(by decide), (by decide)⟩ | (unfold mF; omega))) hw20 (by first | exact Or.inr ⟨(by decide), (by decide)⟩ | (unfold mF; omega))) hw23 (by first | exact Or.inr ⟨(by decide), (by decide)⟩ | (unfold mF; omega))), hT25, trivial⟩⟩
              · replace h16 : (w 275 3 : Int) ≠ 0 := (show ¬ ((w 275 3 : Int) = 0) from h16)
                refine e_Ok.ps1 (x := (0, (-2))) (q := 49) 1 rfl ?_
                refine e_Ok.rets rfl rfl ?_
                exact ⟨_, rfl, Or.inl rfl⟩
            · replace h15 : (p4 : Int) < p3 := Int.not_le.mp (show ¬ ((p4 : Int) ≥ p3) from h15)
              refine e_Ok.ps1 (x := (0, (-1))) (q := 39) 1 rfl ?_
              refine e_Ok.rets rfl rfl ?_
              exact ⟨_, rfl, Or.inl rfl⟩
      · refine e_Ok.nrm (q := 25) (st' := [(0, 0)]) rfl rfl ?_
        refine e_Ok.if1 rfl (fun h26 => ?_) (fun h26 => ?_)
        · replace h26 : (0 : Int) = 0 := h26
          refine e_Ok.ps1 (x := (0, (-1))) (q := 39) 1 rfl ?_
          refine e_Ok.rets rfl rfl ?_
          exact ⟨_, rfl, Or.inl rfl⟩
        · replace h26 : (0 : Int) ≠ 0 := (show ¬ ((0 : Int) = 0) from h26)
          exfalso; omega
  · refine e_Ok.nrm (q := 13) (st' := [(0, 0)]) rfl rfl ?_
    refine e_Ok.if1 rfl (fun h27 => ?_) (fun h27 => ?_)
    · replace h27 : (0 : Int) = 0 := h27
      refine e_Ok.ps1 (x := (0, (-1))) (q := 39) 1 rfl ?_
      refine e_Ok.rets rfl rfl ?_
      exact ⟨_, rfl, Or.inl rfl⟩
    · replace h27 : (0 : Int) ≠ 0 := (show ¬ ((0 : Int) = 0) from h27)
      exfalso; omega
theorem c_291_b {d : Nat} (hd : 24 ≤ d) {w : eW} (hT : e_Has mTy w) {p1 p2 p3 p4 p5 : Int} (g1 : (-2147483648) ≤ p1 ∧ p1 ≤ 2147483647) (g2 : (-2147483648) ≤ p2 ∧ p2 ≤ 2147483647) (g3 : (-2147483648) ≤ p3 ∧ p3 ≤ 2147483647) (g4 : (-2147483648) ≤ p4 ∧ p4 ≤ 2147483647) (g5 : (-2147483648) ≤ p5 ∧ p5 ≤ 2147483647) : e_Ok 20 elay ecode eI d 291 (0, [(0, (1, 275)), (1, (0, p1)), (2, (0, p2)), (3, (0, p3)), (4, (0, p4)), (5, (0, p5))], [], w) (fun r w' => ∃ z : Int, r = [(0, z)] ∧ (w = w' ∨ (w 275 3 = 0 ∧ e_fr (mF 42 310 315) w w' ∧ e_Has mTy w' ∧ (w' 275 42 = w 275 42 + 1 ∧ w' 310 (w 275 42) = p1 ∧ p1 < w 275 10 ∧ ∀ k, k ≠ w 275 42 → w' 310 k = w 310 k)))) := by
  obtain ⟨d, rfl⟩ : ∃ e, d = e + 1 := ⟨d - 1, by omega⟩
  have hop := e_Has.get hT (c := 275) (k := 3) (lo := 0) (hi := 1) (mt_o rfl) (by decide)
  have hz := e_Has.get hT (c := 275) (k := 42) (lo := 0) (hi := 8) (mt_o rfl) (by decide)
  refine e_Ok.ps2 (x := (0, p1)) (y := (1, 275)) (q := 2) 2 rfl ?_
  refine e_Ok.callV rfl (e_dq hd rfl) rfl rfl rfl rfl (c_270 (e_dq hd rfl) hT) (fun r1 w2 h3 => ?_)
  have h4 := e_Has.get hT (c := 275) (k := 10) (lo := 0) (hi := 4) (mt_o rfl) (by decide)
  obtain ⟨z5, rfl, rfl, q6⟩ := h3
  obtain ⟨rfl, q6⟩ | ⟨rfl, q6⟩ := q6
  · refine e_Ok.nrm (q := 5) (st' := [(0, 1)]) rfl rfl ?_
    refine e_Ok.if1 rfl (fun h7 => ?_) (fun h7 => ?_)
    · replace h7 : (1 : Int) = 0 := h7
      exfalso; omega
    · replace h7 : (1 : Int) ≠ 0 := (show ¬ ((1 : Int) = 0) from h7)
      refine e_Ok.ps4 (x := (0, p5)) (y := (0, p4)) (z := (0, p3)) (u := (0, p2)) (q := 14) 4 rfl ?_
      refine e_Ok.callS rfl (e_dq hd rfl) rfl rfl (c_273 (e_dq hd rfl) (by omega) (by omega)) (fun r8 w9 h10 => ?_)
      obtain ⟨z11, rfl, rfl, q12⟩ := h10
      obtain ⟨rfl, q12⟩ | ⟨rfl, q12⟩ := q12
      · refine e_Ok.nrm (q := 17) (st' := [(0, 1)]) rfl rfl ?_
        refine e_Ok.if1 rfl (fun h13 => ?_) (fun h13 => ?_)
        · replace h13 : (1 : Int) ≠ 0 := h13
          refine e_Ok.ps1 (x := (1, 275)) (q := 23) 1 rfl ?_
          refine e_Ok.getf (z := w 275 3) rfl (el_o rfl) rfl (ef_o rfl) rfl (by omega) ?_
          refine e_Ok.if1 rfl (fun h14 => ?_) (fun h14 => ?_)
          · replace h14 : (w 275 3 : Int) = 0 := h14
            refine e_Ok.ps1 (x := (1, 275)) (q := 33) 1 rfl ?_
            refine e_Ok.getf (z := w 275 42) rfl (el_o rfl) rfl (ef_o rfl) rfl (by omega) ?_
            refine e_Ok.ps1 (x := (0, 8)) (q := 38) 1 rfl ?_
            refine e_Ok.if2 rfl (fun h15 => ?_) (fun h15 => ?_)
            · replace h15 : (w 275 42 : Int) ≠ 8 := h15
              refine e_Ok.ps1 (x := (1, 275)) (q := 45) 1 rfl ?_
              refine e_Ok.getr (z := 310) rfl (el_o rfl) rfl (ef_o rfl) (e_Has.eq hT (mt_o rfl)) ⟨by decide, by decide⟩ ?_
              refine e_Ok.ps1 (x := (1, 275)) (q := 49) 1 rfl ?_
              refine e_Ok.getf (z := w 275 42) rfl (el_o rfl) rfl (ef_o rfl) rfl (by omega) ?_
              refine e_Ok.ps1 (x := (0, p1)) (q := 53) 1 rfl ?_
              refine e_Ok.ast rfl (el_o rfl) rfl rfl (by omega) ?_
              generalize hw16 : e_up w 310 (w 275 42) p1 = w16
              have hT18 : e_Has mTy w16 := e_Has.upr hT hw16 (mt_o rfl) (by omega)
              refine e_Ok.ps1 (x := (1, 275)) (q := 55) 1 rfl ?_
              refine e_Ok.getr (z := 311) rfl (el_o rfl) rfl (ef_o rfl) (e_uq hw16 (Or.inl (by decide)) (e_Has.eq hT (mt_o rfl))) ⟨by decide, by decide⟩ ?_
              refine e_Ok.ps1 (x := (1, 275)) (q := 59) 1 rfl ?_
              refine e_Ok.getf (z := w 275 42) rfl (el_o rfl) rfl (ef_o rfl) (e_uq hw16 (Or.inl (by decide)) rfl) (by omega) ?_
              refine e_Ok.ps1 (x := (0, p2)) (q := 63) 1 rfl ?_
              refine e_Ok.ast rfl (el_o rfl) rfl rfl (by omega) ?_
              generalize hw19 : e_up w16 311 (w 275 42) p2 = w19
              have hT21 : e_Has mTy w19 := e_Has.upr hT18 hw19 (mt_o rfl) (by omega)
              refine e_Ok.ps1 (x := (1, 275)) (q := 65) 1 rfl ?_
              refine e_Ok.getr (z := 312) rfl (el_o rfl) rfl (ef_o rfl) (e_uq hw19 (Or.inl (by decide)) (e_uq hw16 (Or.inl (by decide)) (e_Has.eq hT (mt_o rfl)))) ⟨by decide, by decide⟩ ?_
              refine e_Ok.ps1 (x := (1, 275)) (q := 69) 1 rfl ?_
              refine e_Ok.getf (z := w 275 42) rfl (el_o rfl) rfl (ef_o rfl) (e_uq hw19 (Or.inl (by decide)) (e_uq hw16 (Or.inl (by decide)) rfl)) (by omega) ?_
              refine e_Ok.ps1 (x := (0, p3)) (q := 73) 1 rfl ?_
              refine e_Ok.ast rfl (el_o rfl) rfl rfl (by omega) ?_
              generalize hw22 : e_up w19 312 (w 275 42) p3 = w22
              have hT24 : e_Has mTy w22 := e_Has.upr hT21 hw22 (mt_o rfl) (by omega)
              refine e_Ok.ps1 (x := (1, 275)) (q := 75) 1 rfl ?_
              refine e_Ok.getr (z := 313) rfl (el_o rfl) rfl (ef_o rfl) (e_uq hw22 (Or.inl (by decide)) (e_uq hw19 (Or.inl (by decide)) (e_uq hw16 (Or.inl (by decide)) (e_Has.eq hT (mt_o rfl))))) ⟨by decide, by decide⟩ ?_
              refine e_Ok.ps1 (x := (1, 275)) (q := 79) 1 rfl ?_
              refine e_Ok.getf (z := w 275 42) rfl (el_o rfl) rfl (ef_o rfl) (e_uq hw22 (Or.inl (by decide)) (e_uq hw19 (Or.inl (by decide)) (e_uq hw16 (Or.inl (by decide)) rfl))) (by omega) ?_
              refine e_Ok.ps1 (x := (0, p4)) (q := 84) 1 rfl ?_
              refine e_Ok.ast rfl (el_o rfl) rfl rfl (by omega) ?_
              generalize hw25 : e_up w22 313 (w 275 42) p4 = w25
              have hT27 : e_Has mTy w25 := e_Has.upr hT24 hw25 (mt_o rfl) (by omega)
              refine e_Ok.ps1 (x := (1, 275)) (q := 86) 1 rfl ?_
              refine e_Ok.getr (z := 314) rfl (el_o rfl) rfl (ef_o rfl) (e_uq hw25 (Or.inl (by decide)) (e_uq hw22 (Or.inl (by decide)) (e_uq hw19 (Or.inl (by decide)) (e_uq hw16 (Or.inl (by decide)) (e_Has.eq hT (mt_o rfl)))))) ⟨by decide, by decide⟩ ?_
              refine e_Ok.ps1 (x := (1, 275)) (q := 90) 1 rfl ?_
              refine e_Ok.getf (z := w 275 42) rfl (el_o rfl) rfl (ef_o rfl) (e_uq hw25 (Or.inl (by decide)) (e_uq hw22 (Or.inl (by decide)) (e_uq hw19 (Or.inl (by decide)) (e_uq hw16 (Or.inl (by decide)) rfl)))) (by omega) ?_
              refine e_Ok.ps1 (x := (0, p5)) (q := 95) 1 rfl ?_
              refine e_Ok.ast rfl (el_o rfl) rfl rfl (by omega) ?_
              generalize hw28 : e_up w25 314 (w 275 42) p5 = w28
              have hT30 : e_Has mTy w28 := e_Has.upr hT27 hw28 (mt_o rfl) (by omega)
              refine e_Ok.ps1 (x := (1, 275)) (q := 97) 1 rfl ?_
              refine e_Ok.getr (z := 315) rfl (el_o rfl) rfl (ef_o rfl) (e_uq hw28 (Or.inl (by decide)) (e_uq hw25 (Or.inl (by decide)) (e_uq hw22 (Or.inl (by decide)) (e_uq hw19 (Or.inl (by decide)) (e_uq hw16 (Or.inl (by decide)) (e_Has.eq hT (mt_o rfl))))))) ⟨by decide, by decide⟩ ?_
              refine e_Ok.ps1 (x := (1, 275)) (q := 101) 1 rfl ?_
              refine e_Ok.getf (z := w 275 42) rfl (el_o rfl) rfl (ef_o rfl) (e_uq hw28 (Or.inl (by decide)) (e_uq hw25 (Or.inl (by decide)) (e_uq hw22 (Or.inl (by decide)) (e_uq hw19 (Or.inl (by decide)) (e_uq hw16 (Or.inl (by decide)) rfl))))) (by omega) ?_
              refine e_Ok.ps1 (x := (0, (-1))) (q := 105) 1 rfl ?_
              refine e_Ok.ast rfl (el_o rfl) rfl rfl (by omega) ?_
              generalize hw31 : e_up w28 315 (w 275 42) (-1) = w31
              have hT33 : e_Has mTy w31 := e_Has.upr hT30 hw31 (mt_o rfl) (by omega)
              refine e_Ok.ps2 (x := (1, 275)) (y := (1, 275)) (q := 108) 2 rfl ?_
              refine e_Ok.getf (z := w 275 42) rfl (el_o rfl) rfl (ef_o rfl) (e_uq hw31 (Or.inl (by decide)) (e_uq hw28 (Or.inl (by decide)) (e_uq hw25 (Or.inl (by decide)) (e_uq hw22 (Or.inl (by decide)) (e_uq hw19 (Or.inl (by decide)) (e_uq hw16 (Or.inl (by decide)) rfl)))))) (by omega) ?_
              refine e_Ok.ps1 (x := (0, 1)) (q := 112) 1 rfl ?_
              refine e_Ok.add (z := w 275 42 + 1) rfl rfl (by omega) ?_
              refine e_Ok.putf rfl (el_o rfl) rfl (ef_o rfl) ?_
              generalize hw34 : e_up w31 275 42 (w 275 42 + 1) = w34
              have hT36 : e_Has mTy w34 := e_Has.upr hT33 hw34 (mt_o rfl) (by omega)
              refine e_Ok.ps1 (x := (1, 275)) (q := 117) 1 rfl ?_
              refine e_Ok.getf (z := w 275 42 + 1) rfl (el_o rfl) rfl (ef_o rfl) (e_ue hw34) (by omega) ?_
              refine e_Ok.ps1 (x := (0, 1)) (q := 121) 1 rfl ?_
              refine e_Ok.sub' (z := w 275 42) rfl (by omega) (by omega) ?_
              refine e_Ok.rets rfl rfl ?_
              have e42 : w34 275 42 = w 275 42 + 1 := (e_ue hw34)
              exact ⟨_, rfl, Or.inr ⟨by omega, (show e_fr (mF 42 310 315) w w34 from e_fr.up (show e_fr (mF 42 310 315) w w31 from e_fr.up (show e_fr (mF 42 310 315) w w28 from e_fr.up (show e_fr (mF 42 310 315) w w25 from e_fr.up (show e_fr (mF 42 310 315) w w22 from e_fr.up (show e_fr (mF 42 310 315) w w19 from e_fr.up (show e_fr (mF 42 310 315) w w16 from e_fr.up (e_fr.refl w) hw16 (by first | exact Or.inr ⟨(by decide), (by decide)⟩ | (unfold mF; omega))) hw19 (by first | exact Or.inr ⟨(by decide), (by decide)⟩ | (unfold mF; omega))) hw22 (by first | exact Or.inr ⟨(by decide), (by decide)⟩ | (unfold mF; omega))) hw25 (by first | exact Or.inr ⟨(by decide), (by decide)⟩ | (unfold mF; omega))) hw28 (by first | exact Or.inr ⟨(by decide), (by decide)⟩ | (unfold mF; omega))) hw31 (by first | exact Or.inr ⟨(by decide), (by decide)⟩ | (unfold mF; omega))) hw34 (by first | exact Or.inl ⟨rfl, rfl⟩ | (unfold mF; omega))), hT36, ⟨by omega, (e_uq hw34 (Or.inl (by first | decide | omega)) (e_uq hw31 (Or.inl (by first | decide | omega)) (e_uq hw28 (Or.inl (by first | decide | omega)) (e_uq hw25 (Or.inl (by first | decide | omega)) (e_uq hw22 (Or.inl (by first | decide | omega)) (e_uq hw19 (Or.inl (by first | decide | omega)) (e_ue hw16))))))), by omega, fun k q => (by rw [← hw34, ← hw31, ← hw28, ← hw25, ← hw22, ← hw19, ← hw16]; exact (e_up_ne _ _ (by omega)).trans ((e_up_ne _ _ (by omega)).trans ((e_up_ne _ _ (by omega)).trans ((e_up_ne _ _ (by omega)).trans ((e_up_ne _ _ (by omega)).trans ((e_up_ne _ _ (by omega)).trans ((e_up_ne _ _ (by omega)))))))))⟩⟩⟩
            · replace h15 : (w 275 42 : Int) = 8 := Classical.not_not.mp (show ¬ ((w 275 42 : Int) ≠ 8) from h15)
              refine e_Ok.ps1 (x := (0, (-3))) (q := 43) 1 rfl ?_
              refine e_Ok.rets rfl rfl ?_
              exact ⟨_, rfl, Or.inl rfl⟩
          · replace h14 : (w 275 3 : Int) ≠ 0 := (show ¬ ((w 275 3 : Int) = 0) from h14)
            refine e_Ok.ps1 (x := (0, (-2))) (q := 31) 1 rfl ?_
            refine e_Ok.rets rfl rfl ?_
            exact ⟨_, rfl, Or.inl rfl⟩
        · replace h13 : (1 : Int) = 0 := Classical.not_not.mp (show ¬ ((1 : Int) ≠ 0) from h13)
          exfalso; omega
      · refine e_Ok.nrm (q := 17) (st' := [(0, 0)]) rfl rfl ?_
        refine e_Ok.if1 rfl (fun h37 => ?_) (fun h37 => ?_)
        · replace h37 : (0 : Int) ≠ 0 := h37
          exfalso; omega
        · replace h37 : (0 : Int) = 0 := Classical.not_not.mp (show ¬ ((0 : Int) ≠ 0) from h37)
          refine e_Ok.ps1 (x := (0, (-1))) (q := 21) 1 rfl ?_
          refine e_Ok.rets rfl rfl ?_
          exact ⟨_, rfl, Or.inl rfl⟩
  · refine e_Ok.nrm (q := 5) (st' := [(0, 0)]) rfl rfl ?_
    refine e_Ok.if1 rfl (fun h38 => ?_) (fun h38 => ?_)
    · replace h38 : (0 : Int) = 0 := h38
      refine e_Ok.ps1 (x := (0, (-1))) (q := 21) 1 rfl ?_
      refine e_Ok.rets rfl rfl ?_
      exact ⟨_, rfl, Or.inl rfl⟩
    · replace h38 : (0 : Int) ≠ 0 := (show ¬ ((0 : Int) = 0) from h38)
      exfalso; omega
theorem c_292_b {d : Nat} (hd : 24 ≤ d) {w : eW} (hT : e_Has mTy w) {p1 p2 : Int} (g1 : (-2147483648) ≤ p1 ∧ p1 ≤ 2147483647) (g2 : (-2147483648) ≤ p2 ∧ p2 ≤ 2147483647) : e_Ok 20 elay ecode eI d 292 (0, [(0, (1, 275)), (1, (0, p1)), (2, (0, p2))], [], w) (fun r w' => ∃ z : Int, r = [(0, z)] ∧ (w = w' ∨ (w 275 3 = 0 ∧ e_fr (mF (-1) 315 315) w w' ∧ e_Has mTy w' ∧ True))) := by
  obtain ⟨d, rfl⟩ : ∃ e, d = e + 1 := ⟨d - 1, by omega⟩
  have hop := e_Has.get hT (c := 275) (k := 3) (lo := 0) (hi := 1) (mt_o rfl) (by decide)
  refine e_Ok.ps3 (x := (1, 275)) (y := (4, 0)) (z := (4, p1)) (q := 4) 4 rfl ?_
  have h1 := (e_Has.get hT (c := 275) (k := 42) (lo := 0) (hi := 8) (mt_o rfl) (by decide))
  refine e_Ok.getf (z := w 275 42) rfl (el_o rfl) rfl (ef_o rfl) rfl (e_bq h1 (by decide) (by decide)) ?_
  refine e_Ok.ps1 (x := (0, 1)) (q := 8) 1 rfl ?_
  refine e_Ok.sub' (z := w 275 42 - 1) rfl rfl (by omega) ?_
  refine e_Ok.run (t' := (10, [(0, (1, 275)), (1, (0, p1)), (2, (0, p2))], [(4, w 275 42 - 1), (4, 0), (4, p1)], w)) 1 rfl ?_
  refine e_Ok.callS rfl (e_dq hd rfl) rfl rfl (c_266) (fun r2 w3 h4 => ?_)
  obtain ⟨z5, rfl, rfl, q6⟩ := h4
  obtain ⟨rfl, q6⟩ | ⟨rfl, q6⟩ := q6
  · refine e_Ok.nrm (q := 13) (st' := [(0, 1)]) rfl rfl ?_
    refine e_Ok.if1 rfl (fun h7 => ?_) (fun h7 => ?_)
    · replace h7 : (1 : Int) = 0 := h7
      exfalso; omega
    · replace h7 : (1 : Int) ≠ 0 := (show ¬ ((1 : Int) = 0) from h7)
      refine e_Ok.ps3 (x := (4, 32000)) (y := (4, (-1))) (z := (4, p2)) (q := 24) 4 rfl ?_
      refine e_Ok.callS rfl (e_dq hd rfl) rfl rfl (c_266) (fun r8 w9 h10 => ?_)
      obtain ⟨z11, rfl, rfl, q12⟩ := h10
      obtain ⟨rfl, q12⟩ | ⟨rfl, q12⟩ := q12
      · refine e_Ok.nrm (q := 27) (st' := [(0, 1)]) rfl rfl ?_
        refine e_Ok.if1 rfl (fun h13 => ?_) (fun h13 => ?_)
        · replace h13 : (1 : Int) ≠ 0 := h13
          refine e_Ok.ps1 (x := (1, 275)) (q := 33) 1 rfl ?_
          refine e_Ok.getf (z := w 275 3) rfl (el_o rfl) rfl (ef_o rfl) rfl (by omega) ?_
          refine e_Ok.if1 rfl (fun h14 => ?_) (fun h14 => ?_)
          · replace h14 : (w 275 3 : Int) = 0 := h14
            refine e_Ok.ps1 (x := (1, 275)) (q := 43) 1 rfl ?_
            refine e_Ok.getr (z := 315) rfl (el_o rfl) rfl (ef_o rfl) (e_Has.eq hT (mt_o rfl)) ⟨by decide, by decide⟩ ?_
            refine e_Ok.ps1 (x := (0, p1)) (q := 47) 1 rfl ?_
            have h15 := (e_Has.get hT (c := 315) (k := p1) (lo := (-2147483648)) (hi := 2147483647) (mt_o rfl) (by decide))
            refine e_Ok.ald (z := w 315 p1) rfl (el_o rfl) rfl (by omega) rfl (e_bq h15 (by decide) (by decide)) ?_
            refine e_Ok.run (t' := (50, [(3, (0, w 315 p1)), (0, (1, 275)), (1, (0, p1)), (2, (0, p2))], [(1, 275)], w)) 2 rfl ?_
            refine e_Ok.getr (z := 315) rfl (el_o rfl) rfl (ef_o rfl) (e_Has.eq hT (mt_o rfl)) ⟨by decide, by decide⟩ ?_
            refine e_Ok.ps2 (x := (0, p2)) (y := (0, p1)) (q := 55) 2 rfl ?_
            refine e_Ok.ast rfl (el_o rfl) rfl rfl (by omega) ?_
            generalize hw16 : e_up w 315 p1 p2 = w16
            have hT18 : e_Has mTy w16 := e_Has.upr hT hw16 (mt_o rfl) (by omega)
            refine e_Ok.ps1 (x := (0, w 315 p1)) (q := 57) 1 rfl ?_
            refine e_Ok.rets rfl rfl ?_
            exact ⟨_, rfl, Or.inr ⟨by omega, (show e_fr (mF (-1) 315 315) w w16 from e_fr.up (e_fr.refl w) hw16 (by first | exact Or.inr ⟨(by decide), (by decide)⟩ | (unfold mF; omega))), hT18, trivial⟩⟩
          · replace h14 : (w 275 3 : Int) ≠ 0 := (show ¬ ((w 275 3 : Int) = 0) from h14)
            refine e_Ok.ps1 (x := (0, (-2))) (q := 41) 1 rfl ?_
            refine e_Ok.rets rfl rfl ?_
            exact ⟨_, rfl, Or.inl rfl⟩
        · replace h13 : (1 : Int) = 0 := Classical.not_not.mp (show ¬ ((1 : Int) ≠ 0) from h13)
          exfalso; omega
      · refine e_Ok.nrm (q := 27) (st' := [(0, 0)]) rfl rfl ?_
        refine e_Ok.if1 rfl (fun h19 => ?_) (fun h19 => ?_)
        · replace h19 : (0 : Int) ≠ 0 := h19
          exfalso; omega
        · replace h19 : (0 : Int) = 0 := Classical.not_not.mp (show ¬ ((0 : Int) ≠ 0) from h19)
          refine e_Ok.ps1 (x := (0, (-1))) (q := 31) 1 rfl ?_
          refine e_Ok.rets rfl rfl ?_
          exact ⟨_, rfl, Or.inl rfl⟩
  · refine e_Ok.nrm (q := 13) (st' := [(0, 0)]) rfl rfl ?_
    refine e_Ok.if1 rfl (fun h20 => ?_) (fun h20 => ?_)
    · replace h20 : (0 : Int) = 0 := h20
      refine e_Ok.ps1 (x := (0, (-1))) (q := 31) 1 rfl ?_
      refine e_Ok.rets rfl rfl ?_
      exact ⟨_, rfl, Or.inl rfl⟩
    · replace h20 : (0 : Int) ≠ 0 := (show ¬ ((0 : Int) = 0) from h20)
      exfalso; omega
theorem c_293_b {d : Nat} (hd : 24 ≤ d) {w : eW} (hT : e_Has mTy w) {p1 : Int} (g1 : (-2147483648) ≤ p1 ∧ p1 ≤ 2147483647) : e_Ok 20 elay ecode eI d 293 (0, [(0, (1, 275)), (1, (0, p1))], [], w) (fun r w' => ∃ z : Int, r = [(0, z)] ∧ (w = w' ∨ (w 275 3 = 0 ∧ e_fr (mF 49 316 316) w w' ∧ e_Has mTy w' ∧ True))) := by
  obtain ⟨d, rfl⟩ : ∃ e, d = e + 1 := ⟨d - 1, by omega⟩
  have hop := e_Has.get hT (c := 275) (k := 3) (lo := 0) (hi := 1) (mt_o rfl) (by decide)
  refine e_Ok.ps3 (x := (4, 1000)) (y := (4, 0)) (z := (4, p1)) (q := 6) 4 rfl ?_
  refine e_Ok.callS rfl (e_dq hd rfl) rfl rfl (c_266) (fun r1 w2 h3 => ?_)
  obtain ⟨z4, rfl, rfl, q5⟩ := h3
  obtain ⟨rfl, q5⟩ | ⟨rfl, q5⟩ := q5
  · refine e_Ok.nrm (q := 9) (st' := [(0, 1)]) rfl rfl ?_
    refine e_Ok.if1 rfl (fun h6 => ?_) (fun h6 => ?_)
    · replace h6 : (1 : Int) ≠ 0 := h6
      refine e_Ok.ps1 (x := (1, 275)) (q := 15) 1 rfl ?_
      refine e_Ok.getf (z := w 275 3) rfl (el_o rfl) rfl (ef_o rfl) rfl (by omega) ?_
      refine e_Ok.if1 rfl (fun h7 => ?_) (fun h7 => ?_)
      · replace h7 : (w 275 3 : Int) = 0 := h7
        refine e_Ok.ps1 (x := (1, 275)) (q := 25) 1 rfl ?_
        have h8 := (e_Has.get hT (c := 275) (k := 49) (lo := 0) (hi := 8) (mt_o rfl) (by decide))
        refine e_Ok.getf (z := w 275 49) rfl (el_o rfl) rfl (ef_o rfl) rfl (e_bq h8 (by decide) (by decide)) ?_
        refine e_Ok.ps1 (x := (0, 8)) (q := 30) 1 rfl ?_
        refine e_Ok.if2 rfl (fun h9 => ?_) (fun h9 => ?_)
        · replace h9 : (w 275 49 : Int) ≠ 8 := h9
          refine e_Ok.ps1 (x := (1, 275)) (q := 37) 1 rfl ?_
          refine e_Ok.getr (z := 316) rfl (el_o rfl) rfl (ef_o rfl) (e_Has.eq hT (mt_o rfl)) ⟨by decide, by decide⟩ ?_
          refine e_Ok.ps1 (x := (1, 275)) (q := 41) 1 rfl ?_
          refine e_Ok.getf (z := w 275 49) rfl (el_o rfl) rfl (ef_o rfl) rfl (by omega) ?_
          refine e_Ok.ps1 (x := (0, p1)) (q := 45) 1 rfl ?_
          refine e_Ok.ast rfl (el_o rfl) rfl rfl (by omega) ?_
          generalize hw10 : e_up w 316 (w 275 49) p1 = w10
          have hT12 : e_Has mTy w10 := e_Has.upr hT hw10 (mt_o rfl) (by omega)
          refine e_Ok.ps2 (x := (1, 275)) (y := (1, 275)) (q := 48) 2 rfl ?_
          refine e_Ok.getf (z := w 275 49) rfl (el_o rfl) rfl (ef_o rfl) (e_uq hw10 (Or.inl (by decide)) rfl) (by omega) ?_
          refine e_Ok.ps1 (x := (0, 1)) (q := 52) 1 rfl ?_
          refine e_Ok.add (z := w 275 49 + 1) rfl rfl (by omega) ?_
          refine e_Ok.putf rfl (el_o rfl) rfl (ef_o rfl) ?_
          generalize hw13 : e_up w10 275 49 (w 275 49 + 1) = w13
          have hT15 : e_Has mTy w13 := e_Has.upr hT12 hw13 (mt_o rfl) (by omega)
          refine e_Ok.ps1 (x := (1, 275)) (q := 57) 1 rfl ?_
          refine e_Ok.getf (z := w 275 49 + 1) rfl (el_o rfl) rfl (ef_o rfl) (e_ue hw13) (by omega) ?_
          refine e_Ok.ps1 (x := (0, 1)) (q := 61) 1 rfl ?_
          refine e_Ok.sub' (z := w 275 49) rfl (by omega) (by omega) ?_
          refine e_Ok.rets rfl rfl ?_
          exact ⟨_, rfl, Or.inr ⟨by omega, (show e_fr (mF 49 316 316) w w13 from e_fr.up (show e_fr (mF 49 316 316) w w10 from e_fr.up (e_fr.refl w) hw10 (by first | exact Or.inr ⟨(by decide), (by decide)⟩ | (unfold mF; omega))) hw13 (by first | exact Or.inl ⟨rfl, rfl⟩ | (unfold mF; omega))), hT15, trivial⟩⟩
        · replace h9 : (w 275 49 : Int) = 8 := Classical.not_not.mp (show ¬ ((w 275 49 : Int) ≠ 8) from h9)
          refine e_Ok.ps1 (x := (0, (-3))) (q := 35) 1 rfl ?_
          refine e_Ok.rets rfl rfl ?_
          exact ⟨_, rfl, Or.inl rfl⟩
      · replace h7 : (w 275 3 : Int) ≠ 0 := (show ¬ ((w 275 3 : Int) = 0) from h7)
        refine e_Ok.ps1 (x := (0, (-2))) (q := 23) 1 rfl ?_
        refine e_Ok.rets rfl rfl ?_
        exact ⟨_, rfl, Or.inl rfl⟩
    · replace h6 : (1 : Int) = 0 := Classical.not_not.mp (show ¬ ((1 : Int) ≠ 0) from h6)
      exfalso; omega
  · refine e_Ok.nrm (q := 9) (st' := [(0, 0)]) rfl rfl ?_
    refine e_Ok.if1 rfl (fun h16 => ?_) (fun h16 => ?_)
    · replace h16 : (0 : Int) ≠ 0 := h16
      exfalso; omega
    · replace h16 : (0 : Int) = 0 := Classical.not_not.mp (show ¬ ((0 : Int) ≠ 0) from h16)
      refine e_Ok.ps1 (x := (0, (-1))) (q := 13) 1 rfl ?_
      refine e_Ok.rets rfl rfl ?_
      exact ⟨_, rfl, Or.inl rfl⟩
theorem c_294_b {d : Nat} (hd : 24 ≤ d) {w : eW} (hT : e_Has mTy w) {p1 p2 : Int} (g1 : (-2147483648) ≤ p1 ∧ p1 ≤ 2147483647) (g2 : 0 ≤ p2 ∧ p2 ≤ 1) : e_Ok 20 elay ecode eI d 294 (0, [(0, (1, 275)), (1, (0, p1)), (2, (0, p2))], [], w) (fun r w' => ∃ z : Int, r = [(0, z)] ∧ (w = w' ∨ (w 275 3 = 0 ∧ e_fr (mF (-1) 317 317) w w' ∧ e_Has mTy w' ∧ True))) := by
  obtain ⟨d, rfl⟩ : ∃ e, d = e + 1 := ⟨d - 1, by omega⟩
  have hop := e_Has.get hT (c := 275) (k := 3) (lo := 0) (hi := 1) (mt_o rfl) (by decide)
  refine e_Ok.ps3 (x := (4, 7)) (y := (4, 0)) (z := (4, p1)) (q := 6) 4 rfl ?_
  refine e_Ok.callS rfl (e_dq hd rfl) rfl rfl (c_266) (fun r1 w2 h3 => ?_)
  obtain ⟨z4, rfl, rfl, q5⟩ := h3
  obtain ⟨rfl, q5⟩ | ⟨rfl, q5⟩ := q5
  · refine e_Ok.nrm (q := 9) (st' := [(0, 1)]) rfl rfl ?_
    refine e_Ok.if1 rfl (fun h6 => ?_) (fun h6 => ?_)
    · replace h6 : (1 : Int) ≠ 0 := h6
      refine e_Ok.ps1 (x := (1, 275)) (q := 15) 1 rfl ?_
      refine e_Ok.getf (z := w 275 3) rfl (el_o rfl) rfl (ef_o rfl) rfl (by omega) ?_
      refine e_Ok.if1 rfl (fun h7 => ?_) (fun h7 => ?_)
      · replace h7 : (w 275 3 : Int) = 0 := h7
        refine e_Ok.ps1 (x := (1, 275)) (q := 25) 1 rfl ?_
        refine e_Ok.getr (z := 317) rfl (el_o rfl) rfl (ef_o rfl) (e_Has.eq hT (mt_o rfl)) ⟨by decide, by decide⟩ ?_
        refine e_Ok.ps2 (x := (0, p2)) (y := (0, p1)) (q := 30) 2 rfl ?_
        refine e_Ok.ast rfl (el_o rfl) rfl (e_nar_b (by omega)) (by omega) ?_
        generalize hw8 : e_up w 317 p1 p2 = w8
        have hT10 : e_Has mTy w8 := e_Has.upr hT hw8 (mt_o rfl) (by omega)
        refine e_Ok.ps1 (x := (0, 0)) (q := 32) 1 rfl ?_
        refine e_Ok.rets rfl rfl ?_
        exact ⟨_, rfl, Or.inr ⟨by omega, (show e_fr (mF (-1) 317 317) w w8 from e_fr.up (e_fr.refl w) hw8 (by first | exact Or.inr ⟨(by decide), (by decide)⟩ | (unfold mF; omega))), hT10, trivial⟩⟩
      · replace h7 : (w 275 3 : Int) ≠ 0 := (show ¬ ((w 275 3 : Int) = 0) from h7)
        refine e_Ok.ps1 (x := (0, (-2))) (q := 23) 1 rfl ?_
        refine e_Ok.rets rfl rfl ?_
        exact ⟨_, rfl, Or.inl rfl⟩
    · replace h6 : (1 : Int) = 0 := Classical.not_not.mp (show ¬ ((1 : Int) ≠ 0) from h6)
      exfalso; omega
  · refine e_Ok.nrm (q := 9) (st' := [(0, 0)]) rfl rfl ?_
    refine e_Ok.if1 rfl (fun h11 => ?_) (fun h11 => ?_)
    · replace h11 : (0 : Int) ≠ 0 := h11
      exfalso; omega
    · replace h11 : (0 : Int) = 0 := Classical.not_not.mp (show ¬ ((0 : Int) ≠ 0) from h11)
      refine e_Ok.ps1 (x := (0, (-1))) (q := 13) 1 rfl ?_
      refine e_Ok.rets rfl rfl ?_
      exact ⟨_, rfl, Or.inl rfl⟩
theorem c_282_b {d : Nat} (hd : 24 ≤ d) {w : eW} (hT : e_Has mTy w) {p1 p2 p3 p4 p5 : Int} (g1 : 0 ≤ p1 ∧ p1 ≤ 1) (g2 : (-16000) ≤ p2 ∧ p2 ≤ 16000) (g3 : (-16000) ≤ p3 ∧ p3 ≤ 16000) (g4 : (-2147483648) ≤ p4 ∧ p4 ≤ 2147483647) (g5 : (-2147483648) ≤ p5 ∧ p5 ≤ 2147483647) : e_Ok 20 elay ecode eI d 282 (0, [(0, (1, 275)), (1, (0, p1)), (2, (0, p2)), (3, (0, p3)), (4, (0, p4)), (5, (0, p5))], [], w) (fun r w' => ∃ z : Int, r = [(0, z)] ∧ (w = w' ∨ (w 275 3 = 0 ∧ e_fr (mF 23 294 298) w w' ∧ e_Has mTy w' ∧ True))) := by
  have hop := e_Has.get hT (c := 275) (k := 3) (lo := 0) (hi := 1) (mt_o rfl) (by decide)
  refine e_Ok.ps1 (x := (1, 275)) (q := 1) 1 rfl ?_
  refine e_Ok.getf (z := w 275 3) rfl (el_o rfl) rfl (ef_o rfl) rfl (by omega) ?_
  refine e_Ok.if1 rfl (fun h1 => ?_) (fun h1 => ?_)
  · replace h1 : (w 275 3 : Int) = 0 := h1
    refine e_Ok.ps1 (x := (1, 275)) (q := 11) 1 rfl ?_
    have h2 := (e_Has.get hT (c := 275) (k := 23) (lo := 0) (hi := 16) (mt_o rfl) (by decide))
    refine e_Ok.getf (z := w 275 23) rfl (el_o rfl) rfl (ef_o rfl) rfl (e_bq h2 (by decide) (by decide)) ?_
    refine e_Ok.ps1 (x := (0, 16)) (q := 16) 1 rfl ?_
    refine e_Ok.if2 rfl (fun h3 => ?_) (fun h3 => ?_)
    · replace h3 : (w 275 23 : Int) ≠ 16 := h3
      refine e_Ok.ps1 (x := (1, 275)) (q := 23) 1 rfl ?_
      refine e_Ok.getr (z := 294) rfl (el_o rfl) rfl (ef_o rfl) (e_Has.eq hT (mt_o rfl)) ⟨by decide, by decide⟩ ?_
      refine e_Ok.ps1 (x := (1, 275)) (q := 27) 1 rfl ?_
      refine e_Ok.getf (z := w 275 23) rfl (el_o rfl) rfl (ef_o rfl) rfl (by omega) ?_
      refine e_Ok.ps1 (x := (0, p1)) (q := 31) 1 rfl ?_
      refine e_Ok.ast rfl (el_o rfl) rfl (e_nar_b (by omega)) (by omega) ?_
      generalize hw4 : e_up w 294 (w 275 23) p1 = w4
      have hT6 : e_Has mTy w4 := e_Has.upr hT hw4 (mt_o rfl) (by omega)
      refine e_Ok.ps1 (x := (1, 275)) (q := 33) 1 rfl ?_
      refine e_Ok.getr (z := 295) rfl (el_o rfl) rfl (ef_o rfl) (e_uq hw4 (Or.inl (by decide)) (e_Has.eq hT (mt_o rfl))) ⟨by decide, by decide⟩ ?_
      refine e_Ok.ps1 (x := (1, 275)) (q := 37) 1 rfl ?_
      refine e_Ok.getf (z := w 275 23) rfl (el_o rfl) rfl (ef_o rfl) (e_uq hw4 (Or.inl (by decide)) rfl) (by omega) ?_
      refine e_Ok.ps1 (x := (0, p2)) (q := 41) 1 rfl ?_
      refine e_Ok.ast rfl (el_o rfl) rfl rfl (by omega) ?_
      generalize hw7 : e_up w4 295 (w 275 23) p2 = w7
      have hT9 : e_Has mTy w7 := e_Has.upr hT6 hw7 (mt_o rfl) (by omega)
      refine e_Ok.ps1 (x := (1, 275)) (q := 43) 1 rfl ?_
      refine e_Ok.getr (z := 296) rfl (el_o rfl) rfl (ef_o rfl) (e_uq hw7 (Or.inl (by decide)) (e_uq hw4 (Or.inl (by decide)) (e_Has.eq hT (mt_o rfl)))) ⟨by decide, by decide⟩ ?_
      refine e_Ok.ps1 (x := (1, 275)) (q := 47) 1 rfl ?_
      refine e_Ok.getf (z := w 275 23) rfl (el_o rfl) rfl (ef_o rfl) (e_uq hw7 (Or.inl (by decide)) (e_uq hw4 (Or.inl (by decide)) rfl)) (by omega) ?_
      refine e_Ok.ps1 (x := (0, p3)) (q := 51) 1 rfl ?_
      refine e_Ok.ast rfl (el_o rfl) rfl rfl (by omega) ?_
      generalize hw10 : e_up w7 296 (w 275 23) p3 = w10
      have hT12 : e_Has mTy w10 := e_Has.upr hT9 hw10 (mt_o rfl) (by omega)
      refine e_Ok.ps1 (x := (1, 275)) (q := 53) 1 rfl ?_
      refine e_Ok.getr (z := 297) rfl (el_o rfl) rfl (ef_o rfl) (e_uq hw10 (Or.inl (by decide)) (e_uq hw7 (Or.inl (by decide)) (e_uq hw4 (Or.inl (by decide)) (e_Has.eq hT (mt_o rfl))))) ⟨by decide, by decide⟩ ?_
      refine e_Ok.ps1 (x := (1, 275)) (q := 57) 1 rfl ?_
      refine e_Ok.getf (z := w 275 23) rfl (el_o rfl) rfl (ef_o rfl) (e_uq hw10 (Or.inl (by decide)) (e_uq hw7 (Or.inl (by decide)) (e_uq hw4 (Or.inl (by decide)) rfl))) (by omega) ?_
      refine e_Ok.ps1 (x := (0, p4)) (q := 62) 1 rfl ?_
      refine e_Ok.ast rfl (el_o rfl) rfl rfl (by omega) ?_
      generalize hw13 : e_up w10 297 (w 275 23) p4 = w13
      have hT15 : e_Has mTy w13 := e_Has.upr hT12 hw13 (mt_o rfl) (by omega)
      refine e_Ok.ps1 (x := (1, 275)) (q := 64) 1 rfl ?_
      refine e_Ok.getr (z := 298) rfl (el_o rfl) rfl (ef_o rfl) (e_uq hw13 (Or.inl (by decide)) (e_uq hw10 (Or.inl (by decide)) (e_uq hw7 (Or.inl (by decide)) (e_uq hw4 (Or.inl (by decide)) (e_Has.eq hT (mt_o rfl)))))) ⟨by decide, by decide⟩ ?_
      refine e_Ok.ps1 (x := (1, 275)) (q := 68) 1 rfl ?_
      refine e_Ok.getf (z := w 275 23) rfl (el_o rfl) rfl (ef_o rfl) (e_uq hw13 (Or.inl (by decide)) (e_uq hw10 (Or.inl (by decide)) (e_uq hw7 (Or.inl (by decide)) (e_uq hw4 (Or.inl (by decide)) rfl)))) (by omega) ?_
      refine e_Ok.ps1 (x := (0, p5)) (q := 73) 1 rfl ?_
      refine e_Ok.ast rfl (el_o rfl) rfl rfl (by omega) ?_
      generalize hw16 : e_up w13 298 (w 275 23) p5 = w16
      have hT18 : e_Has mTy w16 := e_Has.upr hT15 hw16 (mt_o rfl) (by omega)
      refine e_Ok.ps2 (x := (1, 275)) (y := (1, 275)) (q := 76) 2 rfl ?_
      refine e_Ok.getf (z := w 275 23) rfl (el_o rfl) rfl (ef_o rfl) (e_uq hw16 (Or.inl (by decide)) (e_uq hw13 (Or.inl (by decide)) (e_uq hw10 (Or.inl (by decide)) (e_uq hw7 (Or.inl (by decide)) (e_uq hw4 (Or.inl (by decide)) rfl))))) (by omega) ?_
      refine e_Ok.ps1 (x := (0, 1)) (q := 80) 1 rfl ?_
      refine e_Ok.add (z := w 275 23 + 1) rfl rfl (by omega) ?_
      refine e_Ok.putf rfl (el_o rfl) rfl (ef_o rfl) ?_
      generalize hw19 : e_up w16 275 23 (w 275 23 + 1) = w19
      have hT21 : e_Has mTy w19 := e_Has.upr hT18 hw19 (mt_o rfl) (by omega)
      refine e_Ok.ps1 (x := (1, 275)) (q := 85) 1 rfl ?_
      refine e_Ok.getf (z := w 275 23 + 1) rfl (el_o rfl) rfl (ef_o rfl) (e_ue hw19) (by omega) ?_
      refine e_Ok.ps1 (x := (0, 1)) (q := 89) 1 rfl ?_
      refine e_Ok.sub' (z := w 275 23) rfl (by omega) (by omega) ?_
      refine e_Ok.rets rfl rfl ?_
      exact ⟨_, rfl, Or.inr ⟨by omega, (show e_fr (mF 23 294 298) w w19 from e_fr.up (show e_fr (mF 23 294 298) w w16 from e_fr.up (show e_fr (mF 23 294 298) w w13 from e_fr.up (show e_fr (mF 23 294 298) w w10 from e_fr.up (show e_fr (mF 23 294 298) w w7 from e_fr.up (show e_fr (mF 23 294 298) w w4 from e_fr.up (e_fr.refl w) hw4 (by first | exact Or.inr ⟨(by decide), (by decide)⟩ | (unfold mF; omega))) hw7 (by first | exact Or.inr ⟨(by decide), (by decide)⟩ | (unfold mF; omega))) hw10 (by first | exact Or.inr ⟨(by decide), (by decide)⟩ | (unfold mF; omega))) hw13 (by first | exact Or.inr ⟨(by decide), (by decide)⟩ | (unfold mF; omega))) hw16 (by first | exact Or.inr ⟨(by decide), (by decide)⟩ | (unfold mF; omega))) hw19 (by first | exact Or.inl ⟨rfl, rfl⟩ | (unfold mF; omega))), hT21, trivial⟩⟩
    · replace h3 : (w 275 23 : Int) = 16 := Classical.not_not.mp (show ¬ ((w 275 23 : Int) ≠ 16) from h3)
      refine e_Ok.ps1 (x := (0, (-3))) (q := 21) 1 rfl ?_
      refine e_Ok.rets rfl rfl ?_
      exact ⟨_, rfl, Or.inl rfl⟩
  · replace h1 : (w 275 3 : Int) ≠ 0 := (show ¬ ((w 275 3 : Int) = 0) from h1)
    refine e_Ok.ps1 (x := (0, (-2))) (q := 9) 1 rfl ?_
    refine e_Ok.rets rfl rfl ?_
    exact ⟨_, rfl, Or.inl rfl⟩
theorem c_283_b {d : Nat} (hd : 26 ≤ d) {w : eW} (hT : e_Has mTy w) {p1 p2 p3 : Int} (g1 : (-2147483648) ≤ p1 ∧ p1 ≤ 2147483647) (g2 : (-2147483648) ≤ p2 ∧ p2 ≤ 2147483647) (g3 : (-2147483648) ≤ p3 ∧ p3 ≤ 2147483647) : e_Ok 20 elay ecode eI d 283 (0, [(0, (1, 275)), (1, (0, p1)), (2, (0, p2)), (3, (0, p3))], [], w) (fun r w' => ∃ z : Int, r = [(0, z)] ∧ (w = w' ∨ (w 275 3 = 0 ∧ e_fr (mF 23 294 298) w w' ∧ e_Has mTy w' ∧ True))) := by
  obtain ⟨d, rfl⟩ : ∃ e, d = e + 1 := ⟨d - 1, by omega⟩
  have hop := e_Has.get hT (c := 275) (k := 3) (lo := 0) (hi := 1) (mt_o rfl) (by decide)
  refine e_Ok.ps2 (x := (0, p2)) (y := (0, p1)) (q := 2) 2 rfl ?_
  refine e_Ok.callS rfl (e_dq hd rfl) rfl rfl (c_272 (e_dq hd rfl)) (fun r1 w2 h3 => ?_)
  obtain ⟨z4, rfl, rfl, q5⟩ := h3
  obtain ⟨rfl, q5⟩ | ⟨rfl, q5⟩ := q5
  · refine e_Ok.nrm (q := 5) (st' := [(0, 1)]) rfl rfl ?_
    refine e_Ok.if1 rfl (fun h6 => ?_) (fun h6 => ?_)
    · replace h6 : (1 : Int) = 0 := h6
      exfalso; omega
    · replace h6 : (1 : Int) ≠ 0 := (show ¬ ((1 : Int) = 0) from h6)
      refine e_Ok.ps3 (x := (4, 8000)) (y := (4, 0)) (z := (4, p3)) (q := 14) 4 rfl ?_
      refine e_Ok.callS rfl (e_dq hd rfl) rfl rfl (c_266) (fun r7 w8 h9 => ?_)
      obtain ⟨z10, rfl, rfl, q11⟩ := h9
      obtain ⟨rfl, q11⟩ | ⟨rfl, q11⟩ := q11
      · refine e_Ok.nrm (q := 17) (st' := [(0, 1)]) rfl rfl ?_
        refine e_Ok.if1 rfl (fun h12 => ?_) (fun h12 => ?_)
        · replace h12 : (1 : Int) = 0 := h12
          exfalso; omega
        · replace h12 : (1 : Int) ≠ 0 := (show ¬ ((1 : Int) = 0) from h12)
          refine e_Ok.run (t' := (26, [(0, (1, 275)), (1, (0, p1)), (2, (0, p2)), (3, (0, p3))], [(0, 0), (0, p3), (0, p2), (0, p1), (0, 0), (1, 275)], w)) 6 rfl ?_
          refine e_Ok.callV rfl (e_dq hd rfl) rfl rfl rfl rfl (c_282_b (e_dq hd rfl) hT (by omega) (by omega) (by omega) (by omega) (by omega)) (fun r13 w14 h15 => ?_)
          obtain ⟨z16, rfl, q17⟩ := h15
          refine e_Ok.nrm (q := 29) (st' := [(0, z16)]) rfl rfl ?_
          refine e_Ok.ps0 (q := 33) 1 rfl ?_
          refine e_Ok.rets rfl rfl ?_
          exact ⟨_, rfl, q17⟩
      · refine e_Ok.nrm (q := 17) (st' := [(0, 0)]) rfl rfl ?_
        refine e_Ok.if1 rfl (fun h18 => ?_) (fun h18 => ?_)
        · replace h18 : (0 : Int) = 0 := h18
          refine e_Ok.ps1 (x := (0, (-1))) (q := 33) 1 rfl ?_
          refine e_Ok.rets rfl rfl ?_
          exact ⟨_, rfl, Or.inl rfl⟩
        · replace h18 : (0 : Int) ≠ 0 := (show ¬ ((0 : Int) = 0) from h18)
          exfalso; omega
  · refine e_Ok.nrm (q := 5) (st' := [(0, 0)]) rfl rfl ?_
    refine e_Ok.if1 rfl (fun h19 => ?_) (fun h19 => ?_)
    · replace h19 : (0 : Int) = 0 := h19
      refine e_Ok.ps1 (x := (0, (-1))) (q := 33) 1 rfl ?_
      refine e_Ok.rets rfl rfl ?_
      exact ⟨_, rfl, Or.inl rfl⟩
    · replace h19 : (0 : Int) ≠ 0 := (show ¬ ((0 : Int) = 0) from h19)
      exfalso; omega
theorem c_284_b {d : Nat} (hd : 26 ≤ d) {w : eW} (hT : e_Has mTy w) {p1 p2 p3 p4 : Int} (g1 : (-2147483648) ≤ p1 ∧ p1 ≤ 2147483647) (g2 : (-2147483648) ≤ p2 ∧ p2 ≤ 2147483647) (g3 : (-2147483648) ≤ p3 ∧ p3 ≤ 2147483647) (g4 : (-2147483648) ≤ p4 ∧ p4 ≤ 2147483647) : e_Ok 20 elay ecode eI d 284 (0, [(0, (1, 275)), (1, (0, p1)), (2, (0, p2)), (3, (0, p3)), (4, (0, p4))], [], w) (fun r w' => ∃ z : Int, r = [(0, z)] ∧ (w = w' ∨ (w 275 3 = 0 ∧ e_fr (mF 23 294 298) w w' ∧ e_Has mTy w' ∧ True))) := by
  obtain ⟨d, rfl⟩ : ∃ e, d = e + 1 := ⟨d - 1, by omega⟩
  have hop := e_Has.get hT (c := 275) (k := 3) (lo := 0) (hi := 1) (mt_o rfl) (by decide)
  refine e_Ok.ps4 (x := (0, p4)) (y := (0, p3)) (z := (0, p2)) (u := (0, p1)) (q := 5) 4 rfl ?_
  refine e_Ok.callS rfl (e_dq hd rfl) rfl rfl (c_273 (e_dq hd rfl) (by omega) (by omega)) (fun r1 w2 h3 => ?_)
  obtain ⟨z4, rfl, rfl, q5⟩ := h3
  obtain ⟨rfl, q5⟩ | ⟨rfl, q5⟩ := q5
  · refine e_Ok.nrm (q := 8) (st' := [(0, 1)]) rfl rfl ?_
    refine e_Ok.if1 rfl (fun h6 => ?_) (fun h6 => ?_)
    · replace h6 : (1 : Int) = 0 := h6
      exfalso; omega
    · replace h6 : (1 : Int) ≠ 0 := (show ¬ ((1 : Int) = 0) from h6)
      refine e_Ok.run (t' := (18, [(0, (1, 275)), (1, (0, p1)), (2, (0, p2)), (3, (0, p3)), (4, (0, p4))], [(0, p4), (0, p3), (0, p2), (0, p1), (0, 1), (1, 275)], w)) 6 rfl ?_
      refine e_Ok.callV rfl (e_dq hd rfl) rfl rfl rfl rfl (c_282_b (e_dq hd rfl) hT (by omega) (by omega) (by omega) (by omega) (by omega)) (fun r7 w8 h9 => ?_)
      obtain ⟨z10, rfl, q11⟩ := h9
      refine e_Ok.nrm (q := 21) (st' := [(0, z10)]) rfl rfl ?_
      refine e_Ok.ps0 (q := 25) 1 rfl ?_
      refine e_Ok.rets rfl rfl ?_
      exact ⟨_, rfl, q11⟩
  · refine e_Ok.nrm (q := 8) (st' := [(0, 0)]) rfl rfl ?_
    refine e_Ok.if1 rfl (fun h12 => ?_) (fun h12 => ?_)
    · replace h12 : (0 : Int) = 0 := h12
      refine e_Ok.ps1 (x := (0, (-1))) (q := 25) 1 rfl ?_
      refine e_Ok.rets rfl rfl ?_
      exact ⟨_, rfl, Or.inl rfl⟩
    · replace h12 : (0 : Int) ≠ 0 := (show ¬ ((0 : Int) = 0) from h12)
      exfalso; omega
end
end
-- part b0
section
noncomputable section
/-! while a cell is built, nothing moves in it -/
def qtB (w : eW) : Prop := (w 276 0 = 0 ∧ w 276 5 = 0) ∧ (∀ a, 0 ≤ a → a ≤ 3 → w 276 (36 * a + 16) = 0 ∧ w 276 (36 * a + 20) = 0 ∧ w 276 (36 * a + 22) = 0 ∧ ∀ j, 0 ≤ j → j ≤ 5 → w 276 (36 * a + j + 32) = 0 ∧ w 276 (36 * a + j + 38) = 0) ∧ (∀ t, 0 ≤ t → t ≤ 15 → w 276 (1260 * t + 416) = 0)
theorem newOk.quiet {w : eW} (h : newOk w) : qtB w := by
  obtain ⟨-, -, -, hk⟩ := h
  have z : ∀ k, 0 ≤ k → k < 33060 → ¬ mRa 276 k → ¬ mRb 276 k → ¬ mRc 276 k → w 276 k = 0 := hk
  refine ⟨⟨z 0 (by omega) (by omega) (by unfold mRa; omega) (by unfold mRb; omega) (by unfold mRc; omega), z 5 (by omega) (by omega) (by unfold mRa; omega) (by unfold mRb; omega) (by unfold mRc; omega)⟩, fun a g1 g2 => ⟨z _ (by omega) (by omega) (by unfold mRa; omega) (by unfold mRb; omega) (by unfold mRc; omega), z _ (by omega) (by omega) (by unfold mRa; omega) (by unfold mRb; omega) (by unfold mRc; omega), z _ (by omega) (by omega) (by unfold mRa; omega) (by unfold mRb; omega) (by unfold mRc; omega), fun j g3 g4 => ⟨z _ (by omega) (by omega) (by unfold mRa; omega) (by unfold mRb; omega) (by unfold mRc; omega), z _ (by omega) (by omega) (by unfold mRa; omega) (by unfold mRb; omega) (by unfold mRc; omega)⟩⟩, fun t g1 g2 => z _ (by omega) (by omega) (by unfold mRa; omega) (by unfold mRb; omega) (by unfold mRc; omega)⟩
theorem mMo.quiet {w : eW} (hT : e_Has mTy w) (h : qtB w) : mMo w (-1) := by
  obtain ⟨-, h2, -⟩ := h
  have har := e_Has.get hT (c := 275) (k := 10) (lo := 0) (hi := 4) (mt_o rfl) (by decide)
  refine ⟨fun a j g1 g2 g3 g4 => ?_, fun a g1 g2 => ⟨fun e => ?_, fun e => ?_⟩, fun _ a g1 g2 => (h2 a g1 (by omega)).1⟩
  · have hj := e_Has.get hT (c := 286) (k := a) (lo := 0) (hi := 6) (mt_o rfl) (by decide)
    obtain ⟨q1, -, -, q4⟩ := h2 a g1 g2
    obtain ⟨q5, q6⟩ := q4 j g3 (by omega)
    have hl := e_Has.get hT (c := 288) (k := 6 * a + j) (lo := -100000) (hi := 0) (mt_o rfl) (by decide)
    have hh := e_Has.get hT (c := 289) (k := 6 * a + j) (lo := 0) (hi := 100000) (mt_o rfl) (by decide)
    unfold moJ
    rw [q1, q5, q6]
    exact ⟨by omega, fun _ => rfl, fun e => by omega, fun e => by omega⟩
  · have := (h2 a g1 g2).2.1; omega
  · have := (h2 a g1 g2).2.2.1; omega
/-- a cell that is built -/
def bInv (w : eW) (G : Int → Gh) : Prop := e_Has mTy w ∧ mAc w ∧ mCf w ∧ mZn w ∧ (∀ b, w 275 10 ≤ b → b ≤ 3 → w 286 b = 0) ∧ mOr w (w 275 40) ∧ gAll w G ∧ qtB w
theorem bInv.inv {w : eW} {G : Int → Gh} (h : bInv w G) : mInv w G := by
  obtain ⟨h1, h2, h3, h4, h5, h6, h7, h8⟩ := h
  exact ⟨h1, h2, h3, h4, h5, mMo.quiet h1 h8, h6, h7, fun v v1 v2 => tkOk.not (Or.inl (by have := h8.2.2 v v1 v2; omega))⟩
theorem newOk.bInv {w : eW} (hT : e_Has mTy w) (h : newOk w) : bInv w G0 := by
  have q := newOk.inv hT h
  exact ⟨q.1, q.2.1, q.2.2.1, q.2.2.2.1, q.2.2.2.2.1, q.2.2.2.2.2.2.1, q.2.2.2.2.2.2.2.1, newOk.quiet h⟩
end
end
