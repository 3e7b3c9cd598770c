noncomputable section
set_option maxHeartbeats 4000000 in
theorem c_340 {d : Nat} (hd : 47 ≤ d) {w : eW} {N nt s e o F : Int} {P : Int → Prop} (hc : cSt w N) (hNr : 0 ≤ N ∧ N ≤ 4000) (h0 : w 275 88 = 0) (ho : w 275 83 = o) (hs : w 275 81 = s) (hb : 0 ≤ w 275 78 ∧ w 275 78 + 2 * (N - w 275 86) ≤ 8100 ∧ 0 ≤ w 275 94 ∧ w 275 94 + (N - w 275 86) ≤ 4050) (hw : wfE w N (w 275 78) (w 275 94) nt P s e) (he : e ≤ w 275 86) (hor : 0 ≤ o ∧ o ≤ 30) (hF : 0 ≤ F ∧ F ≤ 400) (hS : ∀ k, d = k + 1 → exC 342 o F k) : e_Ok 20 elay ecode eI d 340 (0, [(0, (1, 275))], [], w) (fun r w' => r = [] ∧ exQ w w' N nt P s (e + 1) (F + 1)) := by
  obtain ⟨d, rfl⟩ : ∃ e, d = e + 1 := ⟨d - 1, by omega⟩
  have hct := tkS.lin hc.2.2.2.1
  have hcf := e_Has.get hc.2.1 (c := 275) (k := 88) (lo := 0) (hi := 7) rfl (by decide)
  have hsb := hc.2.2.2.2
  rw [hs] at hsb
  have he0 := hw.2.2.2.2.2.1
  have hwH : Hid (w 275 88 = 0 → wfE w N (w 275 78) (w 275 94) nt P s e) := Hid.mk (fun _ => hw)
  refine e_Ok.run (t' := (1, [(0, (1, 275))], [(1, 275)], w)) 1 rfl ?_
  refine e_Ok.callV rfl (by omega) rfl rfl rfl rfl ((hS d rfl) w N nt s (e) P hc hNr (by omega) (by omega) hs (by omega) (hwH.out (by omega)) (by omega)) (fun r1 w2 h3 => ?_)
  obtain ⟨rfl, q4F, q4c, q4l, q4w⟩ := h3
  unfold cLn at q4l
  replace q4w : Hid (w2 275 88 = 0 → wfE w2 N (w2 275 78) (w2 275 94) nt P s (e + 1)) := Hid.mk (fun z => wfE.d (q4w z) (by omega))
  have f5 : e_fr (mEx (w 275 78) (w 275 94)) w w2 := e_fr.trans (e_fr.refl w) (e_fr.mono q4F (fun c k g => by unfold mEx at g; unfold mEx; omega))
  have t6t := tkS.lin q4c.2.2.2.1
  have t6f := e_Has.get q4c.2.1 (c := 275) (k := 88) (lo := 0) (hi := 7) rfl (by decide)
  show e_Ok 20 elay ecode eI (d + 1) 340 (4, [(0, (1, 275))], [], w2) _
  refine e_Ok.run (t' := (6, [(1, (0, (-1))), (0, (1, 275))], [], w2)) 2 rfl ?_
  have hL7 : ∀ (nn : Nat) (y1 : Int) (v1 : eW) (Q : Int → Prop), e_fr (mEx (w 275 78) (w 275 94)) w v1 ∧ cSt v1 N ∧ cLn w v1 F ∧ ((0 ≤ v1 275 86 ∧ v1 275 86 ≤ N)) ∧ CHN v1 (v1 275 78) y1 Q ∧ (∀ p, Q p → w 275 78 ≤ p) ∧ (0 ≤ y1 → v1 275 88 = 0 → v1 275 78 + 1 ≤ w 275 78 + 2 * (v1 275 86 - w 275 86)) ∧ (Hid (v1 275 88 = 0 → wfE v1 N (v1 275 78) (v1 275 94) nt (fun p => P p ∨ Q p) s (e + 1) ∧ chO v1 Q s (e + 1))) ∧ ((-1 ≤ y1 ∧ y1 ≤ 9900)) → N - v1 275 86 < nn → e_Ok 20 elay ecode eI (d + 1) 340 (6, [(0, (1, 275)), (1, (0, y1))], [], v1) (fun r w' => r = [] ∧ exQ w w' N nt P s (e + 1) (F + 1)) := by
    intro nn
    induction nn with
    | zero => intro y1 v1 Q hj hm; obtain ⟨j9, j10, j11, j12, j13, j14, j15, j16, j17⟩ := hj; exfalso; omega
    | succ nn ih8 =>
      intro y1 v1 Q hj hm
      obtain ⟨j9, j10, j11, j12, j13, j14, j15, j16, j17⟩ := hj
      have xl := j11
      unfold cLn at xl
      have xt := tkS.lin j10.2.2.2.1
      have xf := e_Has.get j10.2.1 (c := 275) (k := 88) (lo := 0) (hi := 7) rfl (by decide)
      have wf18 : Hid (v1 275 88 = 0 → wfE v1 N (v1 275 78) (v1 275 94) nt (fun p => P p ∨ Q p) s (e + 1)) := Hid.mk (fun z => (j16.out z).1)
      refine e_Ok.run (t' := (7, [(0, (1, 275)), (1, (0, y1))], [(1, 275)], v1)) 1 rfl ?_
      refine e_Ok.getf (z := v1 275 88) rfl (el_o rfl) rfl rfl rfl (by omega) ?_
      refine e_Ok.if1 rfl (fun h19 => ?_) (fun h19 => ?_)
      · replace h19 : (v1 275 88 : Int) ≠ 0 := h19
        refine e_Ok.run (t' := (43, [(0, (1, 275)), (1, (0, y1))], [(0, y1), (1, 275)], v1)) 2 rfl ?_
        refine e_Ok.callV rfl (by omega) rfl rfl rfl rfl (c_341 (by omega) j10.1 (n := v1 275 78) rfl (by omega) (s := s) (Eq.trans (j9 275 81 (by unfold mEx; omega)) hs) (by omega) (by omega) j13) (fun r20 w21 h22 => ?_)
        obtain ⟨rfl, q23⟩ := h22
        obtain ⟨rfl, q23c⟩ | ⟨q23c, w24, q23e, q23T, q239, q23o⟩ := q23
        · show e_Ok 20 elay ecode eI (d + 1) 340 (46, [(0, (1, 275)), (1, (0, y1))], [], v1) _
          have wf25 : Hid (v1 275 88 = 0 → wfE v1 N (v1 275 78) (v1 275 94) nt P s (e + 1)) := Hid.mk (fun z => wfE.cg (j16.out z).1 (fun p => ⟨fun g => Or.inl g, fun g => g.elim id (fun g => by have := j13.2.2.1 p g; omega)⟩))
          refine e_Ok.rets rfl rfl ?_
          exact ⟨rfl, j9, j10, by unfold cLn; omega, (fun z => absurd z (by omega))⟩
        · show e_Ok 20 elay ecode eI (d + 1) 340 (46, [(0, (1, 275)), (1, (0, y1))], [], w21) _
          have u26 : w21 275 78 = v1 275 78 + 1 := Eq.trans (q23o 275 78 (fun z => absurd z.1 (by decide))) q23e.2.2.2.2
          have u27 : w21 275 83 = v1 275 83 := Eq.trans (q23o 275 83 (fun z => absurd z.1 (by decide))) (q23e.1 275 83 (by omega))
          have u28 : w21 275 84 = v1 275 84 := Eq.trans (q23o 275 84 (fun z => absurd z.1 (by decide))) (q23e.1 275 84 (by omega))
          have u29 : w21 275 85 = v1 275 85 := Eq.trans (q23o 275 85 (fun z => absurd z.1 (by decide))) (q23e.1 275 85 (by omega))
          have u30 : w21 275 86 = v1 275 86 := Eq.trans (q23o 275 86 (fun z => absurd z.1 (by decide))) (q23e.1 275 86 (by omega))
          have u31 : w21 275 87 = v1 275 87 := Eq.trans (q23o 275 87 (fun z => absurd z.1 (by decide))) (q23e.1 275 87 (by omega))
          have u32 : w21 275 88 = v1 275 88 := Eq.trans (q23o 275 88 (fun z => absurd z.1 (by decide))) (q23e.1 275 88 (by omega))
          have u33 : w21 275 94 = v1 275 94 := Eq.trans (q23o 275 94 (fun z => absurd z.1 (by decide))) (q23e.1 275 94 (by omega))
          have f34 : e_fr (mEx (w 275 78) (w 275 94)) w w21 := e_fr.trans j9 (fun c k g => Eq.trans (q23o c k (fun ⟨z1, p, z2, z3⟩ => g (by have h1 := j14 p z2; unfold mEx; omega))) (q23e.1 c k (fun g2 => g (by unfold mEx; omega))))
          have c35 := cSt.cl j10 q23e q23o q23T (by omega)
          have t36t := tkS.lin c35.2.2.2.1
          have t36f := e_Has.get c35.2.1 (c := 275) (k := 88) (lo := 0) (hi := 7) rfl (by decide)
          have wf37 : Hid (w21 275 88 = 0 → wfE w21 N (w21 275 78) (w21 275 94) nt P s (e + 1)) := Hid.mk (fun z => by rw [u26, u33]; exact wfE.close (j16.out (by omega)).1 q23e (by omega) (fun p g => ⟨by have := j13.2.2.1 p g; omega, ((j16.out (by omega)).2 p g).1, ((j16.out (by omega)).2 p g).2.1, ((j16.out (by omega)).2 p g).2.2⟩) q239 q23o)
          refine e_Ok.rets rfl rfl ?_
          exact ⟨rfl, f34, c35, by unfold cLn; omega, (fun z => absurd z (by omega))⟩
      · replace h19 : (v1 275 88 : Int) = 0 := by have q : ¬ ((v1 275 88 : Int) ≠ 0) := h19; omega
        refine e_Ok.run (t' := (16, [(0, (1, 275)), (1, (0, y1))], [(0, 25), (1, 275)], v1)) 2 rfl ?_
        refine e_Ok.callV rfl (by omega) rfl rfl rfl rfl (c_332 j10.1 (N := N) j10.2.2.2.1) (fun r38 w40 h41 => ?_)
        obtain ⟨z42, rfl, rfl, q43⟩ := h41
        obtain ⟨rfl, q43, q43b⟩ | ⟨rfl, q43n⟩ := q43
        · show e_Ok 20 elay ecode eI (d + 1) 340 (19, [(0, (1, 275)), (1, (0, y1))], [(0, 1)], v1) _
          refine e_Ok.if1 rfl (fun h44 => ?_) (fun h44 => ?_)
          · replace h44 : (1 : Int) = 0 := h44
            exfalso; omega
          · replace h44 : (1 : Int) ≠ 0 := by have q : ¬ ((1 : Int) = 0) := h44; omega
            refine e_Ok.run (t' := (26, [(0, (1, 275)), (1, (0, y1))], [(0, y1), (0, 23), (1, 275)], v1)) 3 rfl ?_
            refine e_Ok.callV rfl (by omega) rfl rfl rfl rfl (c_336 j10.1 (n := v1 275 78) rfl (by omega) (s := s) (Eq.trans (j9 275 81 (by unfold mEx; omega)) hs) (by omega)) (fun r45 w46 h47 => ?_)
            obtain ⟨rfl, q48⟩ := h47
            have u49 : w46 275 78 = v1 275 78 + 1 := q48.2.2.2.2
            have u50 : w46 275 83 = v1 275 83 := q48.1 275 83 (by omega)
            have u51 : w46 275 84 = v1 275 84 := q48.1 275 84 (by omega)
            have u52 : w46 275 85 = v1 275 85 := q48.1 275 85 (by omega)
            have u53 : w46 275 86 = v1 275 86 := q48.1 275 86 (by omega)
            have u54 : w46 275 87 = v1 275 87 := q48.1 275 87 (by omega)
            have u55 : w46 275 88 = v1 275 88 := q48.1 275 88 (by omega)
            have u56 : w46 275 94 = v1 275 94 := q48.1 275 94 (by omega)
            have f57 : e_fr (mEx (w 275 78) (w 275 94)) w w46 := e_fr.trans j9 (fun c k g => q48.1 c k (fun g2 => g (by unfold mEx; omega)))
            have c58 := cSt.em j10 q48 (by omega) (by omega) (by omega)
            have t59t := tkS.lin c58.2.2.2.1
            have t59f := e_Has.get c58.2.1 (c := 275) (k := 88) (lo := 0) (hi := 7) rfl (by decide)
            have wf60 : Hid (w46 275 88 = 0 → wfE w46 N (w46 275 78) (w46 275 94) nt (fun p => (fun p => P p ∨ Q p) p ∨ p = v1 275 78) s (e)) := Hid.mk (fun z => by rw [u49, u56]; exact wfE.d (wfE.jump (wf18.out (by omega)) q48 (by decide) (by omega)) (by omega))
            show e_Ok 20 elay ecode eI (d + 1) 340 (29, [(0, (1, 275)), (1, (0, y1))], [(0, v1 275 78)], w46) _
            refine e_Ok.run (t' := (31, [(1, (0, v1 275 78)), (0, (1, 275))], [(1, 275)], w46)) 2 rfl ?_
            refine e_Ok.callV rfl (by omega) rfl rfl rfl rfl (c_327 (by omega) c58.1 c58.2.1 c58.2.2.1 hNr (t := w46 275 87) rfl (by omega)) (fun r61 w62 h63 => ?_)
            have p65 := tkS.pos c58.2.2.2.1 (by omega)
            have p66 := tkS.key c58.2.2.2.1 (by omega)
            obtain ⟨rfl, q64, q64s, q64t⟩ := h63
            have u67 : w62 275 78 = w46 275 78 := q64 275 78 (by unfold mTq; omega)
            have u68 : w62 275 83 = w46 275 83 := q64 275 83 (by unfold mTq; omega)
            have u69 : w62 275 88 = w46 275 88 := q64 275 88 (by unfold mTq; omega)
            have u70 : w62 275 94 = w46 275 94 := q64 275 94 (by unfold mTq; omega)
            have f71 : e_fr (mEx (w 275 78) (w 275 94)) w w62 := e_fr.trans f57 (e_fr.mono q64 (fun c k g => by unfold mTq at g; unfold mEx; omega))
            have c72 := cSt.tk c58 q64 q64s
            have t73t := tkS.lin c72.2.2.2.1
            have t73f := e_Has.get c72.2.1 (c := 275) (k := 88) (lo := 0) (hi := 7) rfl (by decide)
            have wf74 : Hid (w62 275 88 = 0 → wfE w62 N (w62 275 78) (w62 275 94) nt (fun p => (fun p => P p ∨ Q p) p ∨ p = v1 275 78) s (e)) := Hid.mk (fun z => by rw [u67, u70]; exact wfE.pr (wf60.out (by omega)) (prE.tk q64))
            show e_Ok 20 elay ecode eI (d + 1) 340 (34, [(1, (0, v1 275 78)), (0, (1, 275))], [], w62) _
            refine e_Ok.run (t' := (35, [(1, (0, v1 275 78)), (0, (1, 275))], [(1, 275)], w62)) 1 rfl ?_
            refine e_Ok.callV rfl (by omega) rfl rfl rfl rfl ((hS d rfl) w62 N nt s (e) (fun p => (fun p => P p ∨ Q p) p ∨ p = v1 275 78) c72 hNr (by omega) (by omega) (Eq.trans (f71 275 81 (by unfold mEx; omega)) hs) (by omega) (wf74.out (by omega)) (by omega)) (fun r75 w76 h77 => ?_)
            obtain ⟨rfl, q78F, q78c, q78l, q78w⟩ := h77
            unfold cLn at q78l
            replace q78w : Hid (w76 275 88 = 0 → wfE w76 N (w76 275 78) (w76 275 94) nt (fun p => (fun p => P p ∨ Q p) p ∨ p = v1 275 78) s (e + 1)) := Hid.mk (fun z => wfE.d (q78w z) (by omega))
            have f79 : e_fr (mEx (w 275 78) (w 275 94)) w w76 := e_fr.trans f71 (e_fr.mono q78F (fun c k g => by unfold mEx at g; unfold mEx; omega))
            have t80t := tkS.lin q78c.2.2.2.1
            have t80f := e_Has.get q78c.2.1 (c := 275) (k := 88) (lo := 0) (hi := 7) rfl (by decide)
            show e_Ok 20 elay ecode eI (d + 1) 340 (38, [(1, (0, v1 275 78)), (0, (1, 275))], [], w76) _
            refine e_Ok.run (t' := (6, [(1, (0, v1 275 78)), (0, (1, 275))], [], w76)) 1 rfl ?_
            refine e_Ok.sub eAlk (e_sub_of rfl ?_) (ih8 (v1 275 78) w76 (fun p => Q p ∨ p = v1 275 78) ⟨f79, q78c, (by unfold cLn; omega), by omega, (CHN.keep (CHN.add j13 q48 (by omega)) (by omega) (fun p g1 g2 => Eq.trans (q78F 329 _ (by unfold mEx; omega)) (q64 329 _ (by unfold mTq; omega)))), (fun p g => by rcases g with g | g; exact j14 p g; omega), (fun _ z => by omega), (Hid.mk (fun z => ⟨wfE.cg (q78w.out z) (fun p => ⟨fun g => g.elim (fun g => Or.inl (Or.inl g)) (fun g => g.elim (fun g => Or.inl (Or.inr g)) Or.inr), fun g => g.elim (fun g => g.elim Or.inl (fun g => Or.inr (Or.inl g))) (fun g => Or.inr (Or.inr g))⟩), chO.keep (n := v1 275 78 + 1) (chO.add (j16.out (by omega)).2 (fun p g => by have := j13.2.2.1 p g; omega) q48 (by decide) (j16.out (by omega)).1.2.2.2.1) (fun p g => by rcases g with g | g; have := j13.2.2.1 p g; omega; omega) (fun p g => ⟨Eq.trans (q78F 328 _ (by unfold mEx; omega)) (q64 328 _ (by unfold mTq; omega)), Eq.trans (q78F 330 _ (by unfold mEx; omega)) (q64 330 _ (by unfold mTq; omega))⟩)⟩)), by omega⟩ (by omega))
            exact ⟨rfl, rfl, trivial⟩
        · show e_Ok 20 elay ecode eI (d + 1) 340 (19, [(0, (1, 275)), (1, (0, y1))], [(0, 0)], v1) _
          refine e_Ok.if1 rfl (fun h81 => ?_) (fun h81 => ?_)
          · replace h81 : (0 : Int) = 0 := h81
            refine e_Ok.run (t' := (43, [(0, (1, 275)), (1, (0, y1))], [(0, y1), (1, 275)], v1)) 2 rfl ?_
            refine e_Ok.callV rfl (by omega) rfl rfl rfl rfl (c_341 (by omega) j10.1 (n := v1 275 78) rfl (by omega) (s := s) (Eq.trans (j9 275 81 (by unfold mEx; omega)) hs) (by omega) (by omega) j13) (fun r82 w83 h84 => ?_)
            obtain ⟨rfl, q85⟩ := h84
            obtain ⟨rfl, q85c⟩ | ⟨q85c, w86, q85e, q85T, q859, q85o⟩ := q85
            · show e_Ok 20 elay ecode eI (d + 1) 340 (46, [(0, (1, 275)), (1, (0, y1))], [], v1) _
              have wf87 : Hid (v1 275 88 = 0 → wfE v1 N (v1 275 78) (v1 275 94) nt P s (e + 1)) := Hid.mk (fun z => wfE.cg (j16.out z).1 (fun p => ⟨fun g => Or.inl g, fun g => g.elim id (fun g => by have := j13.2.2.1 p g; omega)⟩))
              refine e_Ok.rets rfl rfl ?_
              exact ⟨rfl, j9, j10, by unfold cLn; omega, wf87.out⟩
            · show e_Ok 20 elay ecode eI (d + 1) 340 (46, [(0, (1, 275)), (1, (0, y1))], [], w83) _
              have u88 : w83 275 78 = v1 275 78 + 1 := Eq.trans (q85o 275 78 (fun z => absurd z.1 (by decide))) q85e.2.2.2.2
              have u89 : w83 275 83 = v1 275 83 := Eq.trans (q85o 275 83 (fun z => absurd z.1 (by decide))) (q85e.1 275 83 (by omega))
              have u90 : w83 275 84 = v1 275 84 := Eq.trans (q85o 275 84 (fun z => absurd z.1 (by decide))) (q85e.1 275 84 (by omega))
              have u91 : w83 275 85 = v1 275 85 := Eq.trans (q85o 275 85 (fun z => absurd z.1 (by decide))) (q85e.1 275 85 (by omega))
              have u92 : w83 275 86 = v1 275 86 := Eq.trans (q85o 275 86 (fun z => absurd z.1 (by decide))) (q85e.1 275 86 (by omega))
              have u93 : w83 275 87 = v1 275 87 := Eq.trans (q85o 275 87 (fun z => absurd z.1 (by decide))) (q85e.1 275 87 (by omega))
              have u94 : w83 275 88 = v1 275 88 := Eq.trans (q85o 275 88 (fun z => absurd z.1 (by decide))) (q85e.1 275 88 (by omega))
              have u95 : w83 275 94 = v1 275 94 := Eq.trans (q85o 275 94 (fun z => absurd z.1 (by decide))) (q85e.1 275 94 (by omega))
              have f101 : e_fr (mEx (w 275 78) (w 275 94)) w w83 := e_fr.trans j9 (fun c k g => Eq.trans (q85o c k (fun ⟨z1, p, z2, z3⟩ => g (by have h1 := j14 p z2; unfold mEx; omega))) (q85e.1 c k (fun g2 => g (by unfold mEx; omega))))
              have c103 := cSt.cl j10 q85e q85o q85T (by omega)
              have t104t := tkS.lin c103.2.2.2.1
              have t104f := e_Has.get c103.2.1 (c := 275) (k := 88) (lo := 0) (hi := 7) rfl (by decide)
              have wf105 : Hid (w83 275 88 = 0 → wfE w83 N (w83 275 78) (w83 275 94) nt P s (e + 1)) := Hid.mk (fun z => by rw [u88, u95]; exact wfE.close (j16.out (by omega)).1 q85e (by omega) (fun p g => ⟨by have := j13.2.2.1 p g; omega, ((j16.out (by omega)).2 p g).1, ((j16.out (by omega)).2 p g).2.1, ((j16.out (by omega)).2 p g).2.2⟩) q859 q85o)
              refine e_Ok.rets rfl rfl ?_
              exact ⟨rfl, f101, c103, by unfold cLn; omega, wf105.out⟩
          · replace h81 : (0 : Int) ≠ 0 := by have q : ¬ ((0 : Int) = 0) := h81; omega
            exfalso; omega
  refine e_Ok.sub eAlk (e_sub_of rfl ?_) (hL7 (4001 + 1 : Int).toNat (-1) w2 (fun _ => False) ⟨f5, q4c, (by unfold cLn; omega), by omega, (CHN.zero _ _), (fun p g => g.elim), (fun g => by omega), (Hid.mk (fun z => ⟨wfE.cg (q4w.out z) (fun p => ⟨fun g => g.elim id False.elim, Or.inl⟩), fun p g => g.elim⟩)), by omega⟩ (by omega))
  exact ⟨rfl, rfl, trivial⟩
set_option maxHeartbeats 4000000 in
theorem c_339 {d : Nat} (hd : 47 ≤ d) {w : eW} {N nt s e o F : Int} {P : Int → Prop} (hc : cSt w N) (hNr : 0 ≤ N ∧ N ≤ 4000) (h0 : w 275 88 = 0) (ho : w 275 83 = o) (hs : w 275 81 = s) (hb : 0 ≤ w 275 78 ∧ w 275 78 + 2 * (N - w 275 86) ≤ 8100 ∧ 0 ≤ w 275 94 ∧ w 275 94 + (N - w 275 86) ≤ 4050) (hw : wfE w N (w 275 78) (w 275 94) nt P s e) (he : e ≤ w 275 86) (hor : 0 ≤ o ∧ o ≤ 30) (hF : 0 ≤ F ∧ F ≤ 400) (hS : ∀ k, d = k + 1 → exC 340 o F k) : e_Ok 20 elay ecode eI d 339 (0, [(0, (1, 275))], [], w) (fun r w' => r = [] ∧ exQ w w' N nt P s (e + 1) (F + 1)) := by
  obtain ⟨d, rfl⟩ : ∃ e, d = e + 1 := ⟨d - 1, by omega⟩
  have hct := tkS.lin hc.2.2.2.1
  have hcf := e_Has.get hc.2.1 (c := 275) (k := 88) (lo := 0) (hi := 7) rfl (by decide)
  have hsb := hc.2.2.2.2
  rw [hs] at hsb
  have he0 := hw.2.2.2.2.2.1
  have hwH : Hid (w 275 88 = 0 → wfE w N (w 275 78) (w 275 94) nt P s e) := Hid.mk (fun _ => hw)
  refine e_Ok.run (t' := (1, [(0, (1, 275))], [(1, 275)], w)) 1 rfl ?_
  refine e_Ok.callV rfl (by omega) rfl rfl rfl rfl ((hS d rfl) w N nt s (e) P hc hNr (by omega) (by omega) hs (by omega) (hwH.out (by omega)) (by omega)) (fun r1 w2 h3 => ?_)
  obtain ⟨rfl, q4F, q4c, q4l, q4w⟩ := h3
  unfold cLn at q4l
  replace q4w : Hid (w2 275 88 = 0 → wfE w2 N (w2 275 78) (w2 275 94) nt P s (e + 1)) := Hid.mk (fun z => wfE.d (q4w z) (by omega))
  have f5 : e_fr (mEx (w 275 78) (w 275 94)) w w2 := e_fr.trans (e_fr.refl w) (e_fr.mono q4F (fun c k g => by unfold mEx at g; unfold mEx; omega))
  have t6t := tkS.lin q4c.2.2.2.1
  have t6f := e_Has.get q4c.2.1 (c := 275) (k := 88) (lo := 0) (hi := 7) rfl (by decide)
  show e_Ok 20 elay ecode eI (d + 1) 339 (4, [(0, (1, 275))], [], w2) _
  refine e_Ok.run (t' := (6, [(1, (0, (-1))), (0, (1, 275))], [], w2)) 2 rfl ?_
  have hL7 : ∀ (nn : Nat) (y1 : Int) (v1 : eW) (Q : Int → Prop), e_fr (mEx (w 275 78) (w 275 94)) w v1 ∧ cSt v1 N ∧ cLn w v1 F ∧ ((0 ≤ v1 275 86 ∧ v1 275 86 ≤ N)) ∧ CHN v1 (v1 275 78) y1 Q ∧ (∀ p, Q p → w 275 78 ≤ p) ∧ (0 ≤ y1 → v1 275 88 = 0 → v1 275 78 + 1 ≤ w 275 78 + 2 * (v1 275 86 - w 275 86)) ∧ (Hid (v1 275 88 = 0 → wfE v1 N (v1 275 78) (v1 275 94) nt (fun p => P p ∨ Q p) s (e + 1) ∧ chO v1 Q s (e + 1))) ∧ ((-1 ≤ y1 ∧ y1 ≤ 9900)) → N - v1 275 86 < nn → e_Ok 20 elay ecode eI (d + 1) 339 (6, [(0, (1, 275)), (1, (0, y1))], [], v1) (fun r w' => r = [] ∧ exQ w w' N nt P s (e + 1) (F + 1)) := by
    intro nn
    induction nn with
    | zero => intro y1 v1 Q hj hm; obtain ⟨j9, j10, j11, j12, j13, j14, j15, j16, j17⟩ := hj; exfalso; omega
    | succ nn ih8 =>
      intro y1 v1 Q hj hm
      obtain ⟨j9, j10, j11, j12, j13, j14, j15, j16, j17⟩ := hj
      have xl := j11
      unfold cLn at xl
      have xt := tkS.lin j10.2.2.2.1
      have xf := e_Has.get j10.2.1 (c := 275) (k := 88) (lo := 0) (hi := 7) rfl (by decide)
      have wf18 : Hid (v1 275 88 = 0 → wfE v1 N (v1 275 78) (v1 275 94) nt (fun p => P p ∨ Q p) s (e + 1)) := Hid.mk (fun z => (j16.out z).1)
      refine e_Ok.run (t' := (7, [(0, (1, 275)), (1, (0, y1))], [(1, 275)], v1)) 1 rfl ?_
      refine e_Ok.getf (z := v1 275 88) rfl (el_o rfl) rfl rfl rfl (by omega) ?_
      refine e_Ok.if1 rfl (fun h19 => ?_) (fun h19 => ?_)
      · replace h19 : (v1 275 88 : Int) ≠ 0 := h19
        refine e_Ok.run (t' := (43, [(0, (1, 275)), (1, (0, y1))], [(0, y1), (1, 275)], v1)) 2 rfl ?_
        refine e_Ok.callV rfl (by omega) rfl rfl rfl rfl (c_341 (by omega) j10.1 (n := v1 275 78) rfl (by omega) (s := s) (Eq.trans (j9 275 81 (by unfold mEx; omega)) hs) (by omega) (by omega) j13) (fun r20 w21 h22 => ?_)
        obtain ⟨rfl, q23⟩ := h22
        obtain ⟨rfl, q23c⟩ | ⟨q23c, w24, q23e, q23T, q239, q23o⟩ := q23
        · show e_Ok 20 elay ecode eI (d + 1) 339 (46, [(0, (1, 275)), (1, (0, y1))], [], v1) _
          have wf25 : Hid (v1 275 88 = 0 → wfE v1 N (v1 275 78) (v1 275 94) nt P s (e + 1)) := Hid.mk (fun z => wfE.cg (j16.out z).1 (fun p => ⟨fun g => Or.inl g, fun g => g.elim id (fun g => by have := j13.2.2.1 p g; omega)⟩))
          refine e_Ok.rets rfl rfl ?_
          exact ⟨rfl, j9, j10, by unfold cLn; omega, (fun z => absurd z (by omega))⟩
        · show e_Ok 20 elay ecode eI (d + 1) 339 (46, [(0, (1, 275)), (1, (0, y1))], [], w21) _
          have u26 : w21 275 78 = v1 275 78 + 1 := Eq.trans (q23o 275 78 (fun z => absurd z.1 (by decide))) q23e.2.2.2.2
          have u27 : w21 275 83 = v1 275 83 := Eq.trans (q23o 275 83 (fun z => absurd z.1 (by decide))) (q23e.1 275 83 (by omega))
          have u28 : w21 275 84 = v1 275 84 := Eq.trans (q23o 275 84 (fun z => absurd z.1 (by decide))) (q23e.1 275 84 (by omega))
          have u29 : w21 275 85 = v1 275 85 := Eq.trans (q23o 275 85 (fun z => absurd z.1 (by decide))) (q23e.1 275 85 (by omega))
          have u30 : w21 275 86 = v1 275 86 := Eq.trans (q23o 275 86 (fun z => absurd z.1 (by decide))) (q23e.1 275 86 (by omega))
          have u31 : w21 275 87 = v1 275 87 := Eq.trans (q23o 275 87 (fun z => absurd z.1 (by decide))) (q23e.1 275 87 (by omega))
          have u32 : w21 275 88 = v1 275 88 := Eq.trans (q23o 275 88 (fun z => absurd z.1 (by decide))) (q23e.1 275 88 (by omega))
          have u33 : w21 275 94 = v1 275 94 := Eq.trans (q23o 275 94 (fun z => absurd z.1 (by decide))) (q23e.1 275 94 (by omega))
          have f34 : e_fr (mEx (w 275 78) (w 275 94)) w w21 := e_fr.trans j9 (fun c k g => Eq.trans (q23o c k (fun ⟨z1, p, z2, z3⟩ => g (by have h1 := j14 p z2; unfold mEx; omega))) (q23e.1 c k (fun g2 => g (by unfold mEx; omega))))
          have c35 := cSt.cl j10 q23e q23o q23T (by omega)
          have t36t := tkS.lin c35.2.2.2.1
          have t36f := e_Has.get c35.2.1 (c := 275) (k := 88) (lo := 0) (hi := 7) rfl (by decide)
          have wf37 : Hid (w21 275 88 = 0 → wfE w21 N (w21 275 78) (w21 275 94) nt P s (e + 1)) := Hid.mk (fun z => by rw [u26, u33]; exact wfE.close (j16.out (by omega)).1 q23e (by omega) (fun p g => ⟨by have := j13.2.2.1 p g; omega, ((j16.out (by omega)).2 p g).1, ((j16.out (by omega)).2 p g).2.1, ((j16.out (by omega)).2 p g).2.2⟩) q239 q23o)
          refine e_Ok.rets rfl rfl ?_
          exact ⟨rfl, f34, c35, by unfold cLn; omega, (fun z => absurd z (by omega))⟩
      · replace h19 : (v1 275 88 : Int) = 0 := by have q : ¬ ((v1 275 88 : Int) ≠ 0) := h19; omega
        refine e_Ok.run (t' := (16, [(0, (1, 275)), (1, (0, y1))], [(0, 24), (1, 275)], v1)) 2 rfl ?_
        refine e_Ok.callV rfl (by omega) rfl rfl rfl rfl (c_332 j10.1 (N := N) j10.2.2.2.1) (fun r38 w40 h41 => ?_)
        obtain ⟨z42, rfl, rfl, q43⟩ := h41
        obtain ⟨rfl, q43, q43b⟩ | ⟨rfl, q43n⟩ := q43
        · show e_Ok 20 elay ecode eI (d + 1) 339 (19, [(0, (1, 275)), (1, (0, y1))], [(0, 1)], v1) _
          refine e_Ok.if1 rfl (fun h44 => ?_) (fun h44 => ?_)
          · replace h44 : (1 : Int) = 0 := h44
            exfalso; omega
          · replace h44 : (1 : Int) ≠ 0 := by have q : ¬ ((1 : Int) = 0) := h44; omega
            refine e_Ok.run (t' := (26, [(0, (1, 275)), (1, (0, y1))], [(0, y1), (0, 22), (1, 275)], v1)) 3 rfl ?_
            refine e_Ok.callV rfl (by omega) rfl rfl rfl rfl (c_336 j10.1 (n := v1 275 78) rfl (by omega) (s := s) (Eq.trans (j9 275 81 (by unfold mEx; omega)) hs) (by omega)) (fun r45 w46 h47 => ?_)
            obtain ⟨rfl, q48⟩ := h47
            have u49 : w46 275 78 = v1 275 78 + 1 := q48.2.2.2.2
            have u50 : w46 275 83 = v1 275 83 := q48.1 275 83 (by omega)
            have u51 : w46 275 84 = v1 275 84 := q48.1 275 84 (by omega)
            have u52 : w46 275 85 = v1 275 85 := q48.1 275 85 (by omega)
            have u53 : w46 275 86 = v1 275 86 := q48.1 275 86 (by omega)
            have u54 : w46 275 87 = v1 275 87 := q48.1 275 87 (by omega)
            have u55 : w46 275 88 = v1 275 88 := q48.1 275 88 (by omega)
            have u56 : w46 275 94 = v1 275 94 := q48.1 275 94 (by omega)
            have f57 : e_fr (mEx (w 275 78) (w 275 94)) w w46 := e_fr.trans j9 (fun c k g => q48.1 c k (fun g2 => g (by unfold mEx; omega)))
            have c58 := cSt.em j10 q48 (by omega) (by omega) (by omega)
            have t59t := tkS.lin c58.2.2.2.1
            have t59f := e_Has.get c58.2.1 (c := 275) (k := 88) (lo := 0) (hi := 7) rfl (by decide)
            have wf60 : Hid (w46 275 88 = 0 → wfE w46 N (w46 275 78) (w46 275 94) nt (fun p => (fun p => P p ∨ Q p) p ∨ p = v1 275 78) s (e)) := Hid.mk (fun z => by rw [u49, u56]; exact wfE.d (wfE.jump (wf18.out (by omega)) q48 (by decide) (by omega)) (by omega))
            show e_Ok 20 elay ecode eI (d + 1) 339 (29, [(0, (1, 275)), (1, (0, y1))], [(0, v1 275 78)], w46) _
            refine e_Ok.run (t' := (31, [(1, (0, v1 275 78)), (0, (1, 275))], [(1, 275)], w46)) 2 rfl ?_
            refine e_Ok.callV rfl (by omega) rfl rfl rfl rfl (c_327 (by omega) c58.1 c58.2.1 c58.2.2.1 hNr (t := w46 275 87) rfl (by omega)) (fun r61 w62 h63 => ?_)
            have p65 := tkS.pos c58.2.2.2.1 (by omega)
            have p66 := tkS.key c58.2.2.2.1 (by omega)
            obtain ⟨rfl, q64, q64s, q64t⟩ := h63
            have u67 : w62 275 78 = w46 275 78 := q64 275 78 (by unfold mTq; omega)
            have u68 : w62 275 83 = w46 275 83 := q64 275 83 (by unfold mTq; omega)
            have u69 : w62 275 88 = w46 275 88 := q64 275 88 (by unfold mTq; omega)
            have u70 : w62 275 94 = w46 275 94 := q64 275 94 (by unfold mTq; omega)
            have f71 : e_fr (mEx (w 275 78) (w 275 94)) w w62 := e_fr.trans f57 (e_fr.mono q64 (fun c k g => by unfold mTq at g; unfold mEx; omega))
            have c72 := cSt.tk c58 q64 q64s
            have t73t := tkS.lin c72.2.2.2.1
            have t73f := e_Has.get c72.2.1 (c := 275) (k := 88) (lo := 0) (hi := 7) rfl (by decide)
            have wf74 : Hid (w62 275 88 = 0 → wfE w62 N (w62 275 78) (w62 275 94) nt (fun p => (fun p => P p ∨ Q p) p ∨ p = v1 275 78) s (e)) := Hid.mk (fun z => by rw [u67, u70]; exact wfE.pr (wf60.out (by omega)) (prE.tk q64))
            show e_Ok 20 elay ecode eI (d + 1) 339 (34, [(1, (0, v1 275 78)), (0, (1, 275))], [], w62) _
            refine e_Ok.run (t' := (35, [(1, (0, v1 275 78)), (0, (1, 275))], [(1, 275)], w62)) 1 rfl ?_
            refine e_Ok.callV rfl (by omega) rfl rfl rfl rfl ((hS d rfl) w62 N nt s (e) (fun p => (fun p => P p ∨ Q p) p ∨ p = v1 275 78) c72 hNr (by omega) (by omega) (Eq.trans (f71 275 81 (by unfold mEx; omega)) hs) (by omega) (wf74.out (by omega)) (by omega)) (fun r75 w76 h77 => ?_)
            obtain ⟨rfl, q78F, q78c, q78l, q78w⟩ := h77
            unfold cLn at q78l
            replace q78w : Hid (w76 275 88 = 0 → wfE w76 N (w76 275 78) (w76 275 94) nt (fun p => (fun p => P p ∨ Q p) p ∨ p = v1 275 78) s (e + 1)) := Hid.mk (fun z => wfE.d (q78w z) (by omega))
            have f79 : e_fr (mEx (w 275 78) (w 275 94)) w w76 := e_fr.trans f71 (e_fr.mono q78F (fun c k g => by unfold mEx at g; unfold mEx; omega))
            have t80t := tkS.lin q78c.2.2.2.1
            have t80f := e_Has.get q78c.2.1 (c := 275) (k := 88) (lo := 0) (hi := 7) rfl (by decide)
            show e_Ok 20 elay ecode eI (d + 1) 339 (38, [(1, (0, v1 275 78)), (0, (1, 275))], [], w76) _
            refine e_Ok.run (t' := (6, [(1, (0, v1 275 78)), (0, (1, 275))], [], w76)) 1 rfl ?_
            refine e_Ok.sub eAlk (e_sub_of rfl ?_) (ih8 (v1 275 78) w76 (fun p => Q p ∨ p = v1 275 78) ⟨f79, q78c, (by unfold cLn; omega), by omega, (CHN.keep (CHN.add j13 q48 (by omega)) (by omega) (fun p g1 g2 => Eq.trans (q78F 329 _ (by unfold mEx; omega)) (q64 329 _ (by unfold mTq; omega)))), (fun p g => by rcases g with g | g; exact j14 p g; omega), (fun _ z => by omega), (Hid.mk (fun z => ⟨wfE.cg (q78w.out z) (fun p => ⟨fun g => g.elim (fun g => Or.inl (Or.inl g)) (fun g => g.elim (fun g => Or.inl (Or.inr g)) Or.inr), fun g => g.elim (fun g => g.elim Or.inl (fun g => Or.inr (Or.inl g))) (fun g => Or.inr (Or.inr g))⟩), chO.keep (n := v1 275 78 + 1) (chO.add (j16.out (by omega)).2 (fun p g => by have := j13.2.2.1 p g; omega) q48 (by decide) (j16.out (by omega)).1.2.2.2.1) (fun p g => by rcases g with g | g; have := j13.2.2.1 p g; omega; omega) (fun p g => ⟨Eq.trans (q78F 328 _ (by unfold mEx; omega)) (q64 328 _ (by unfold mTq; omega)), Eq.trans (q78F 330 _ (by unfold mEx; omega)) (q64 330 _ (by unfold mTq; omega))⟩)⟩)), by omega⟩ (by omega))
            exact ⟨rfl, rfl, trivial⟩
        · show e_Ok 20 elay ecode eI (d + 1) 339 (19, [(0, (1, 275)), (1, (0, y1))], [(0, 0)], v1) _
          refine e_Ok.if1 rfl (fun h81 => ?_) (fun h81 => ?_)
          · replace h81 : (0 : Int) = 0 := h81
            refine e_Ok.run (t' := (43, [(0, (1, 275)), (1, (0, y1))], [(0, y1), (1, 275)], v1)) 2 rfl ?_
            refine e_Ok.callV rfl (by omega) rfl rfl rfl rfl (c_341 (by omega) j10.1 (n := v1 275 78) rfl (by omega) (s := s) (Eq.trans (j9 275 81 (by unfold mEx; omega)) hs) (by omega) (by omega) j13) (fun r82 w83 h84 => ?_)
            obtain ⟨rfl, q85⟩ := h84
            obtain ⟨rfl, q85c⟩ | ⟨q85c, w86, q85e, q85T, q859, q85o⟩ := q85
            · show e_Ok 20 elay ecode eI (d + 1) 339 (46, [(0, (1, 275)), (1, (0, y1))], [], v1) _
              have wf87 : Hid (v1 275 88 = 0 → wfE v1 N (v1 275 78) (v1 275 94) nt P s (e + 1)) := Hid.mk (fun z => wfE.cg (j16.out z).1 (fun p => ⟨fun g => Or.inl g, fun g => g.elim id (fun g => by have := j13.2.2.1 p g; omega)⟩))
              refine e_Ok.rets rfl rfl ?_
              exact ⟨rfl, j9, j10, by unfold cLn; omega, wf87.out⟩
            · show e_Ok 20 elay ecode eI (d + 1) 339 (46, [(0, (1, 275)), (1, (0, y1))], [], w83) _
              have u88 : w83 275 78 = v1 275 78 + 1 := Eq.trans (q85o 275 78 (fun z => absurd z.1 (by decide))) q85e.2.2.2.2
              have u89 : w83 275 83 = v1 275 83 := Eq.trans (q85o 275 83 (fun z => absurd z.1 (by decide))) (q85e.1 275 83 (by omega))
              have u90 : w83 275 84 = v1 275 84 := Eq.trans (q85o 275 84 (fun z => absurd z.1 (by decide))) (q85e.1 275 84 (by omega))
              have u91 : w83 275 85 = v1 275 85 := Eq.trans (q85o 275 85 (fun z => absurd z.1 (by decide))) (q85e.1 275 85 (by omega))
              have u92 : w83 275 86 = v1 275 86 := Eq.trans (q85o 275 86 (fun z => absurd z.1 (by decide))) (q85e.1 275 86 (by omega))
              have u93 : w83 275 87 = v1 275 87 := Eq.trans (q85o 275 87 (fun z => absurd z.1 (by decide))) (q85e.1 275 87 (by omega))
              have u94 : w83 275 88 = v1 275 88 := Eq.trans (q85o 275 88 (fun z => absurd z.1 (by decide))) (q85e.1 275 88 (by omega))
              have u95 : w83 275 94 = v1 275 94 := Eq.trans (q85o 275 94 (fun z => absurd z.1 (by decide))) (q85e.1 275 94 (by omega))
              have f101 : e_fr (mEx (w 275 78) (w 275 94)) w w83 := e_fr.trans j9 (fun c k g => Eq.trans (q85o c k (fun ⟨z1, p, z2, z3⟩ => g (by have h1 := j14 p z2; unfold mEx; omega))) (q85e.1 c k (fun g2 => g (by unfold mEx; omega))))
              have c103 := cSt.cl j10 q85e q85o q85T (by omega)
              have t104t := tkS.lin c103.2.2.2.1
              have t104f := e_Has.get c103.2.1 (c := 275) (k := 88) (lo := 0) (hi := 7) rfl (by decide)
              have wf105 : Hid (w83 275 88 = 0 → wfE w83 N (w83 275 78) (w83 275 94) nt P s (e + 1)) := Hid.mk (fun z => by rw [u88, u95]; exact wfE.close (j16.out (by omega)).1 q85e (by omega) (fun p g => ⟨by have := j13.2.2.1 p g; omega, ((j16.out (by omega)).2 p g).1, ((j16.out (by omega)).2 p g).2.1, ((j16.out (by omega)).2 p g).2.2⟩) q859 q85o)
              refine e_Ok.rets rfl rfl ?_
              exact ⟨rfl, f101, c103, by unfold cLn; omega, wf105.out⟩
          · replace h81 : (0 : Int) ≠ 0 := by have q : ¬ ((0 : Int) = 0) := h81; omega
            exfalso; omega
  refine e_Ok.sub eAlk (e_sub_of rfl ?_) (hL7 (4001 + 1 : Int).toNat (-1) w2 (fun _ => False) ⟨f5, q4c, (by unfold cLn; omega), by omega, (CHN.zero _ _), (fun p g => g.elim), (fun g => by omega), (Hid.mk (fun z => ⟨wfE.cg (q4w.out z) (fun p => ⟨fun g => g.elim id False.elim, Or.inl⟩), fun p g => g.elim⟩)), by omega⟩ (by omega))
  exact ⟨rfl, rfl, trivial⟩
end
