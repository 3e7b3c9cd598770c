noncomputable section
theorem c_347 {d : Nat} (hd : 21 ≤ d) {w : eW} {N : Int} (hc : cSt w N) : e_Ok 20 elay ecode eI d 347 (0, [(0, (1, 275))], [], w) (fun r w' => ∃ z : Int, r = [(0, z)] ∧ w = w' ∧ ((z = 1 ∧ w 275 88 = 0 ∧ (w 275 84 = 1 ∨ (w 275 84 = 4 ∧ ((3 ≤ w 275 85 ∧ w 275 85 ≤ 18) ∨ w 275 85 = 20 ∨ w 275 85 = 21)))) ∨ z = 0)) := by
  obtain ⟨d, rfl⟩ : ∃ e, d = e + 1 := ⟨d - 1, by omega⟩
  have hct := tkS.lin hc.2.2.2.1
  have hcf := e_Has.get hc.2.1 (c := 275) (k := 88) (lo := 0) (hi := 7) rfl (by decide)
  refine e_Ok.run (t' := (1, [(0, (1, 275))], [(1, 275)], w)) 1 rfl ?_
  refine e_Ok.getf (z := w 275 88) rfl (el_o rfl) rfl rfl rfl (by omega) ?_
  refine e_Ok.if1 rfl (fun h1 => ?_) (fun h1 => ?_)
  · replace h1 : (w 275 88 : Int) ≠ 0 := h1
    refine e_Ok.run (t' := (63, [(0, (1, 275))], [(0, 0)], w)) 1 rfl ?_
    refine e_Ok.rets rfl rfl ?_
    exact ⟨_, rfl, rfl, Or.inr rfl⟩
  · replace h1 : (w 275 88 : Int) = 0 := by have q : ¬ ((w 275 88 : Int) ≠ 0) := h1; omega
    refine e_Ok.run (t' := (8, [(0, (1, 275))], [(1, 275)], w)) 1 rfl ?_
    refine e_Ok.getf (z := w 275 84) rfl (el_o rfl) rfl rfl rfl (by omega) ?_
    refine e_Ok.run (t' := (12, [(0, (1, 275))], [(0, 1), (0, w 275 84)], w)) 1 rfl ?_
    refine e_Ok.if2 rfl (fun h2 => ?_) (fun h2 => ?_)
    · replace h2 : (w 275 84 : Int) = 1 := h2
      refine e_Ok.run (t' := (63, [(0, (1, 275))], [(0, 1)], w)) 2 rfl ?_
      refine e_Ok.rets rfl rfl ?_
      exact ⟨_, rfl, rfl, Or.inl ⟨rfl, by omega, by omega⟩⟩
    · replace h2 : (w 275 84 : Int) ≠ 1 := by have q : ¬ ((w 275 84 : Int) = 1) := h2; omega
      refine e_Ok.run (t' := (16, [(0, (1, 275))], [(1, 275)], w)) 1 rfl ?_
      refine e_Ok.getf (z := w 275 84) rfl (el_o rfl) rfl rfl rfl (by omega) ?_
      refine e_Ok.run (t' := (20, [(0, (1, 275))], [(0, 4), (0, w 275 84)], w)) 1 rfl ?_
      refine e_Ok.if2 rfl (fun h3 => ?_) (fun h3 => ?_)
      · replace h3 : (w 275 84 : Int) ≠ 4 := h3
        refine e_Ok.run (t' := (63, [(0, (1, 275))], [(0, 0)], w)) 1 rfl ?_
        refine e_Ok.rets rfl rfl ?_
        exact ⟨_, rfl, rfl, Or.inr rfl⟩
      · replace h3 : (w 275 84 : Int) = 4 := by have q : ¬ ((w 275 84 : Int) ≠ 4) := h3; omega
        refine e_Ok.run (t' := (24, [(0, (1, 275))], [(1, 275)], w)) 1 rfl ?_
        refine e_Ok.getf (z := w 275 85) rfl (el_o rfl) rfl rfl rfl (by omega) ?_
        refine e_Ok.run (t' := (34, [(0, (1, 275))], [(4, 18), (4, 3), (4, w 275 85)], w)) 3 rfl ?_
        refine e_Ok.callS rfl (by omega) rfl rfl (c_266) (fun r4 w5 h6 => ?_)
        obtain ⟨z7, rfl, rfl, q8⟩ := h6
        obtain ⟨rfl, q8⟩ | ⟨rfl, q8⟩ := q8
        · show e_Ok 20 elay ecode eI (d + 1) 347 (37, [(0, (1, 275))], [(0, 1)], w) _
          refine e_Ok.if1 rfl (fun h9 => ?_) (fun h9 => ?_)
          · replace h9 : (1 : Int) ≠ 0 := h9
            refine e_Ok.run (t' := (63, [(0, (1, 275))], [(0, 1)], w)) 2 rfl ?_
            refine e_Ok.rets rfl rfl ?_
            exact ⟨_, rfl, rfl, Or.inl ⟨rfl, by omega, by omega⟩⟩
          · replace h9 : (1 : Int) = 0 := by have q : ¬ ((1 : Int) ≠ 0) := h9; omega
            exfalso; omega
        · show e_Ok 20 elay ecode eI (d + 1) 347 (37, [(0, (1, 275))], [(0, 0)], w) _
          refine e_Ok.if1 rfl (fun h10 => ?_) (fun h10 => ?_)
          · replace h10 : (0 : Int) ≠ 0 := h10
            exfalso; omega
          · replace h10 : (0 : Int) = 0 := by have q : ¬ ((0 : Int) ≠ 0) := h10; omega
            refine e_Ok.run (t' := (41, [(0, (1, 275))], [(1, 275)], w)) 1 rfl ?_
            refine e_Ok.getf (z := w 275 85) rfl (el_o rfl) rfl rfl rfl (by omega) ?_
            refine e_Ok.run (t' := (46, [(0, (1, 275))], [(0, 20), (0, w 275 85)], w)) 1 rfl ?_
            refine e_Ok.if2 rfl (fun h11 => ?_) (fun h11 => ?_)
            · replace h11 : (w 275 85 : Int) = 20 := h11
              refine e_Ok.run (t' := (63, [(0, (1, 275))], [(0, 1)], w)) 2 rfl ?_
              refine e_Ok.rets rfl rfl ?_
              exact ⟨_, rfl, rfl, Or.inl ⟨rfl, by omega, by omega⟩⟩
            · replace h11 : (w 275 85 : Int) ≠ 20 := by have q : ¬ ((w 275 85 : Int) = 20) := h11; omega
              refine e_Ok.run (t' := (50, [(0, (1, 275))], [(1, 275)], w)) 1 rfl ?_
              refine e_Ok.getf (z := w 275 85) rfl (el_o rfl) rfl rfl rfl (by omega) ?_
              refine e_Ok.run (t' := (55, [(0, (1, 275))], [(0, 21), (0, w 275 85)], w)) 1 rfl ?_
              refine e_Ok.if2 rfl (fun h12 => ?_) (fun h12 => ?_)
              · replace h12 : (w 275 85 : Int) ≠ 21 := h12
                refine e_Ok.run (t' := (63, [(0, (1, 275))], [(0, 0)], w)) 1 rfl ?_
                refine e_Ok.rets rfl rfl ?_
                exact ⟨_, rfl, rfl, Or.inr rfl⟩
              · replace h12 : (w 275 85 : Int) = 21 := by have q : ¬ ((w 275 85 : Int) ≠ 21) := h12; omega
                refine e_Ok.run (t' := (63, [(0, (1, 275))], [(0, 1)], w)) 2 rfl ?_
                refine e_Ok.rets rfl rfl ?_
                exact ⟨_, rfl, rfl, Or.inl ⟨rfl, by omega, by omega⟩⟩
theorem c_348_0 {d : Nat} (hd : 22 ≤ d) {w : eW} {N : Int} (hc : cSt w N) (hf : w 275 88 ≠ 0) : e_Ok 20 elay ecode eI d 348 (0, [(0, (1, 275))], [], w) (fun r w' => r = [] ∧ w = w') := by
  obtain ⟨d, rfl⟩ : ∃ e, d = e + 1 := ⟨d - 1, by omega⟩
  have hct := tkS.lin hc.2.2.2.1
  have hcf := e_Has.get hc.2.1 (c := 275) (k := 88) (lo := 0) (hi := 7) rfl (by decide)
  refine e_Ok.run (t' := (1, [(0, (1, 275))], [(1, 275)], w)) 1 rfl ?_
  refine e_Ok.callV rfl (by omega) rfl rfl rfl rfl (c_347 (by omega) hc) (fun r1 w2 h3 => ?_)
  obtain ⟨z4, rfl, rfl, q5⟩ := h3
  obtain ⟨-, q5x, -⟩ | rfl := q5
  · exact absurd q5x (by omega)
  show e_Ok 20 elay ecode eI (d + 1) 348 (4, [(0, (1, 275))], [(0, 0)], w) _
  refine e_Ok.if1 rfl (fun h6 => ?_) (fun h6 => ?_)
  · replace h6 : (0 : Int) = 0 := h6
    refine e_Ok.rets rfl rfl ?_
    exact ⟨rfl, rfl⟩
  · replace h6 : (0 : Int) ≠ 0 := by have q : ¬ ((0 : Int) = 0) := h6; omega
    exfalso; omega
set_option maxHeartbeats 4000000 in
theorem c_350 {d : Nat} (hd : 309 ≤ d) {w : eW} {N o O F : Int} {P OW : Int → Prop} (hc : cSt w N) (hNr : 0 ≤ N ∧ N ≤ 4000) (h0 : w 275 88 = 0) (ho : w 275 83 = o) (hv : w 275 82 = -1 ∨ OW (w 275 82)) (hb : stB w N o) (hO : O ≤ o) (hG : GB w N (w 275 78) (w 275 94) (w 275 79) (w 275 80) P (w 275 81) OW O) (hor : 0 ≤ o ∧ o ≤ 30) (hF : 300 ≤ F ∧ F ≤ 700) (hS : o < 30 → ∀ k, d = k + 1 → stC 348 0 (o + 1) F k) : e_Ok 20 elay ecode eI d 350 (0, [(0, (1, 275))], [], w) (fun r w' => r = [] ∧ stQ w w' N P OW O 1 (F + 10)) := by
  obtain ⟨d, rfl⟩ : ∃ e, d = e + 1 := ⟨d - 1, by omega⟩
  have hdq : 308 ≤ d := by omega
  have hct := tkS.lin hc.2.2.2.1
  have hcf := e_Has.get hc.2.1 (c := 275) (k := 88) (lo := 0) (hi := 7) rfl (by decide)
  have hsb := hc.2.2.2.2
  unfold stB at hb
  have hvr : -1 ≤ w 275 82 ∧ w 275 82 ≤ 900 := by rcases hv with g | g; omega; have := hG.1.2.2.2.2.2.2.2.1 _ g; omega
  replace hv := (show Hid _ from hv)
  have hgH : Hid (w 275 88 = 0 → GB w N (w 275 78) (w 275 94) (w 275 79) (w 275 80) P (w 275 81) OW O) := Hid.mk (fun _ => hG)
  refine e_Ok.run (t' := (1, [(0, (1, 275))], [(1, 275)], w)) 1 rfl ?_
  refine e_Ok.callV rfl (Nat.le_trans (by decide) hdq) rfl rfl rfl rfl (c_335 (Nat.le_trans (by decide) hdq) hc.1 hc.2.1 hc.2.2.1 hNr hc.2.2.2.1 (o := w 275 83) rfl (by omega)) (fun r1 w2 h3 => ?_)
  obtain ⟨rfl, -, q4⟩ := h3
  obtain ⟨q4, q4n⟩ | ⟨q4z, q4n, w5, q4u, q4, q4T, q4H, q4r⟩ := q4
  · show e_Ok 20 elay ecode eI (d + 1) 350 (4, [(0, (1, 275))], [], w2) _
    have e6 := up83 q4
    replace e6 := (show Hid _ from e6)
    have u7 : Hid (w2 275 78 = w 275 78) := Hid.mk (e6.out.1 275 78 (by decide))
    have u8 : Hid (w2 275 79 = w 275 79) := Hid.mk (e6.out.1 275 79 (by decide))
    have u9 : Hid (w2 275 80 = w 275 80) := Hid.mk (e6.out.1 275 80 (by decide))
    have u10 : Hid (w2 275 81 = w 275 81) := Hid.mk (e6.out.1 275 81 (by decide))
    have u11 : Hid (w2 275 82 = w 275 82) := Hid.mk (e6.out.1 275 82 (by decide))
    have u12 : Hid (w2 275 83 = w 275 83 + 1) := Hid.mk (e6.out.2)
    have u13 : Hid (w2 275 84 = w 275 84) := Hid.mk (e6.out.1 275 84 (by decide))
    have u14 : Hid (w2 275 85 = w 275 85) := Hid.mk (e6.out.1 275 85 (by decide))
    have u15 : Hid (w2 275 86 = w 275 86) := Hid.mk (e6.out.1 275 86 (by decide))
    have u16 : Hid (w2 275 87 = w 275 87) := Hid.mk (e6.out.1 275 87 (by decide))
    have u17 : Hid (w2 275 88 = w 275 88) := Hid.mk (e6.out.1 275 88 (by decide))
    have u18 : Hid (w2 275 94 = w 275 94) := Hid.mk (e6.out.1 275 94 (by decide))
    have c19 := cSt.up hc q4
    have f20 : e_fr (mStm (w 275 78) (w 275 79) (w 275 80) (w 275 94)) w w2 := e_fr.trans (e_fr.refl w) (fun c k g => e6.out.1 c k (fun g2 => g (mU_St g2)))
    have g21 : Hid (w 275 88 = 0 → GB w2 N (w 275 78) (w 275 94) (w 275 79) (w 275 80) P (w 275 81) OW O) := Hid.mk (fun z => GB.pr (hgH.out z) (prE.up q4))
    refine e_Ok.run (t' := (8, [(0, (1, 275))], [(0, 0), (0, 30), (1, 275)], w2)) 3 rfl ?_
    refine e_Ok.callV rfl (Nat.le_trans (by decide) hdq) rfl rfl rfl rfl (c_336 c19.1 (n := w 275 78) u7.out (by omega) (s := w 275 81) u10.out (by omega)) (fun r22 w23 h24 => ?_)
    obtain ⟨rfl, q25⟩ := h24
    replace q25 := (show Hid (EM w2 w23 (w 275 78) 30 (0) (w 275 81)) from q25)
    have u26 : Hid (w23 275 78 = w 275 78 + 1) := Hid.mk (Eq.trans q25.out.2.2.2.2 (by omega))
    have u27 : Hid (w23 275 79 = w 275 79) := Hid.mk (Eq.trans (q25.out.fld (by decide)) u8.out)
    have u28 : Hid (w23 275 80 = w 275 80) := Hid.mk (Eq.trans (q25.out.fld (by decide)) u9.out)
    have u29 : Hid (w23 275 81 = w 275 81) := Hid.mk (Eq.trans (q25.out.fld (by decide)) u10.out)
    have u30 : Hid (w23 275 82 = w 275 82) := Hid.mk (Eq.trans (q25.out.fld (by decide)) u11.out)
    have u31 : Hid (w23 275 83 = w 275 83 + 1) := Hid.mk (Eq.trans (q25.out.fld (by decide)) u12.out)
    have u32 : Hid (w23 275 84 = w 275 84) := Hid.mk (Eq.trans (q25.out.fld (by decide)) u13.out)
    have u33 : Hid (w23 275 85 = w 275 85) := Hid.mk (Eq.trans (q25.out.fld (by decide)) u14.out)
    have u34 : Hid (w23 275 86 = w 275 86) := Hid.mk (Eq.trans (q25.out.fld (by decide)) u15.out)
    have u35 : Hid (w23 275 87 = w 275 87) := Hid.mk (Eq.trans (q25.out.fld (by decide)) u16.out)
    have u36 : Hid (w23 275 88 = w 275 88) := Hid.mk (Eq.trans (q25.out.fld (by decide)) u17.out)
    have u37 : Hid (w23 275 94 = w 275 94) := Hid.mk (Eq.trans (q25.out.fld (by decide)) u18.out)
    have f38 : e_fr (mStm (w 275 78) (w 275 79) (w 275 80) (w 275 94)) w w23 := e_fr.trans f20 (q25.out.st (by omega))
    have c40 := cSt.em c19 q25.out (by decide) (by omega) (by omega)
    have g41 : Hid (w 275 88 = 0 → GA w23 N (w 275 78 + 1) (w 275 94) (w 275 79) (w 275 80) P (w 275 81) OW O) := Hid.mk (fun z => (GB.beg (g21.out (by omega)) q25.out))
    show e_Ok 20 elay ecode eI (d + 1) 350 (11, [(0, (1, 275))], [(0, w 275 78)], w23) _
    refine e_Ok.run (t' := (16, [(0, (1, 275))], [(0, 18), (1, 275), (1, 275)], w23)) 4 rfl ?_
    refine e_Ok.callV rfl (Nat.le_trans (by decide) hdq) rfl rfl rfl rfl (c_332 c40.1 (N := N) c40.2.2.2.1) (fun r44 w45 h46 => ?_)
    obtain ⟨z47, rfl, rfl, q48⟩ := h46
    obtain ⟨rfl, q48, q48b⟩ | ⟨rfl, q48n⟩ := q48
    · show e_Ok 20 elay ecode eI (d + 1) 350 (19, [(0, (1, 275))], [(0, 1), (1, 275)], w23) _
      rw [u32.out] at q48
      rw [u33.out] at q48b
      refine e_Ok.callV rfl (Nat.le_trans (by decide) hdq) rfl rfl rfl rfl (c_334 (Nat.le_trans (by decide) hdq) c40.1 c40.2.1 c40.2.2.1 hNr c40.2.2.2.1 (by decide)) (fun r49 w50 h51 => ?_)
      obtain ⟨rfl, q52⟩ := h51
      obtain ⟨rfl, q52z⟩ | ⟨q52z, q52b, q52, q52s, q52t⟩ | ⟨q52z, q52b, q52, q52T, q52H, q52r⟩ := q52
      · rw [u36.out] at q52z; exact absurd q52z (by omega)
      · show e_Ok 20 elay ecode eI (d + 1) 350 (22, [(0, (1, 275))], [], w50) _
        rw [u36.out] at q52z
        rw [u35.out] at q52t
        have p53 := tkS.pos c40.2.2.2.1 (by rw [u32.out] <;> omega)
        rw [u34.out, u35.out] at p53
        have p54 := tkS.key c40.2.2.2.1 (by rw [u32.out] <;> omega)
        rw [u34.out, u35.out, u33.out] at p54
        have u55 : Hid (w50 275 78 = w 275 78 + 1) := Hid.mk (Eq.trans (q52 275 78 (mTq_fld (by decide))) u26.out)
        have u56 : Hid (w50 275 79 = w 275 79) := Hid.mk (Eq.trans (q52 275 79 (mTq_fld (by decide))) u27.out)
        have u57 : Hid (w50 275 80 = w 275 80) := Hid.mk (Eq.trans (q52 275 80 (mTq_fld (by decide))) u28.out)
        have u58 : Hid (w50 275 81 = w 275 81) := Hid.mk (Eq.trans (q52 275 81 (mTq_fld (by decide))) u29.out)
        have u59 : Hid (w50 275 82 = w 275 82) := Hid.mk (Eq.trans (q52 275 82 (mTq_fld (by decide))) u30.out)
        have u60 : Hid (w50 275 83 = w 275 83 + 1) := Hid.mk (Eq.trans (q52 275 83 (mTq_fld (by decide))) u31.out)
        have u61 : Hid (w50 275 88 = w 275 88) := Hid.mk (Eq.trans (q52 275 88 (mTq_fld (by decide))) u36.out)
        have u62 : Hid (w50 275 94 = w 275 94) := Hid.mk (Eq.trans (q52 275 94 (mTq_fld (by decide))) u37.out)
        have c63 := cSt.tk c40 q52 q52s
        have t64 := tkS.lin c63.2.2.2.1
        have f65 : e_fr (mStm (w 275 78) (w 275 79) (w 275 80) (w 275 94)) w w50 := e_fr.trans f38 (e_fr.mono q52 (fun c k g => mTq_St g))
        have g66 : Hid (w 275 88 = 0 → GA w50 N (w 275 78 + 1) (w 275 94) (w 275 79) (w 275 80) P (w 275 81) OW O) := Hid.mk (fun z => GA.pr (g41.out z) (prE.tk q52))
        refine e_Ok.run (t' := (23, [(0, (1, 275))], [(1, 275)], w50)) 1 rfl ?_
        refine e_Ok.callV rfl (Nat.le_trans (by decide) hdq) rfl rfl rfl rfl (c_exp (o := w 275 83 + 1) (Nat.le_trans (by decide) hdq) (by omega) w50 N (w 275 79) (w 275 81) (0) (enc P (w 275 78 + 1) (w 275 94)) c63 hNr (by rw [u61.out] <;> omega) u60.out u58.out (by rw [u55.out, u62.out] <;> omega) (by rw [u55.out, u62.out] <;> exact GS.wf (GA.gs (g66.out (by omega)))) (by omega)) (fun r69 w70 h71 => ?_)
        obtain ⟨rfl, q72F, q72c, q72l, q72w⟩ := h71
        unfold cLn at q72l
        rw [u55.out, u60.out, u62.out] at q72l
        rw [u55.out, u62.out] at q72F
        obtain ⟨q721, q722, q723, q724, q725, q726, q727, q728, q729⟩ := q72l
        replace q72w := (show Hid _ from q72w)
        have u73 : Hid (w70 275 79 = w 275 79) := Hid.mk (Eq.trans (q72F 275 79 (mEx_fld (by decide))) u56.out)
        have u74 : Hid (w70 275 80 = w 275 80) := Hid.mk (Eq.trans (q72F 275 80 (mEx_fld (by decide))) u57.out)
        have u75 : Hid (w70 275 81 = w 275 81) := Hid.mk (Eq.trans (q72F 275 81 (mEx_fld (by decide))) u58.out)
        have u76 : Hid (w70 275 82 = w 275 82) := Hid.mk (Eq.trans (q72F 275 82 (mEx_fld (by decide))) u59.out)
        have t77 := tkS.lin q72c.2.2.2.1
        have t78 := e_Has.get q72c.2.1 (c := 275) (k := 88) (lo := 0) (hi := 7) rfl (by decide)
        have f79 : e_fr (mStm (w 275 78) (w 275 79) (w 275 80) (w 275 94)) w w70 := e_fr.trans f65 (e_fr.mono q72F (fun c k g => mEx_St (by omega) (by omega) g))
        have q72x : Hid (w70 275 88 = 0 → GS w70 N (w70 275 78) (w70 275 94) (w 275 79) (w 275 80) P (w 275 81) OW O (0 + 1) ∧ (∀ p, w 275 78 + 1 ≤ p → p < w70 275 78 → w70 330 (p + 40000) = w 275 81) ∧ dp w70 (w 275 78 + 1) = 0 ∧ ((0 : Int) ≠ 0 + 1 → w 275 78 + 1 < w70 275 78)) := Hid.mk (fun z => GS.ex (GA.gs (g66.out (by omega))) q72F (by omega) (by omega) (q72w.out z))
        have g80 : Hid (w70 275 88 = 0 → GS w70 N (w70 275 78) (w70 275 94) (w 275 79) (w 275 80) P (w 275 81) OW O (0 + 1)) := Hid.mk (fun z => (q72x.out z).1)
        show e_Ok 20 elay ecode eI (d + 1) 350 (26, [(0, (1, 275))], [], w70) _
        refine e_Ok.run (t' := (30, [(0, (1, 275))], [(0, 58), (1, 275), (1, 275)], w70)) 3 rfl ?_
        refine e_Ok.callV rfl (Nat.le_trans (by decide) hdq) rfl rfl rfl rfl (c_331 q72c.1 (N := N) q72c.2.2.2.1) (fun r83 w84 h85 => ?_)
        obtain ⟨z86, rfl, rfl, q87⟩ := h85
        obtain ⟨rfl, q87, q87b⟩ | ⟨rfl, q87n⟩ := q87
        · show e_Ok 20 elay ecode eI (d + 1) 350 (33, [(0, (1, 275))], [(0, 1), (1, 275)], w70) _
          refine e_Ok.callV rfl (Nat.le_trans (by decide) hdq) rfl rfl rfl rfl (c_334 (Nat.le_trans (by decide) hdq) q72c.1 q72c.2.1 q72c.2.2.1 hNr q72c.2.2.2.1 (by decide)) (fun r88 w89 h90 => ?_)
          obtain ⟨rfl, q91⟩ := h90
          obtain ⟨rfl, q91z⟩ | ⟨q91z, q91b, q91, q91s, q91t⟩ | ⟨q91z, q91b, q91, q91T, q91H, q91r⟩ := q91
          · show e_Ok 20 elay ecode eI (d + 1) 350 (36, [(0, (1, 275))], [], w70) _
            clear q723
            clear q729
            refine e_Ok.run (t' := (40, [(0, (1, 275))], [(0, 0), (0, 47), (1, 275)], w70)) 3 rfl ?_
            refine e_Ok.callV rfl (Nat.le_trans (by decide) hdq) rfl rfl rfl rfl (c_336 q72c.1 (n := w70 275 78) rfl (by omega) (s := w 275 81) u75.out (by omega)) (fun r92 w93 h94 => ?_)
            obtain ⟨rfl, q95⟩ := h94
            replace q95 := (show Hid (EM w70 w93 (w70 275 78) 47 (0) (w 275 81)) from q95)
            have u101 : Hid (w93 275 78 = w70 275 78 + 1) := Hid.mk (Eq.trans q95.out.2.2.2.2 (by omega))
            have u103 : Hid (w93 275 79 = w 275 79) := Hid.mk (Eq.trans (q95.out.fld (by decide)) u73.out)
            have u104 : Hid (w93 275 80 = w 275 80) := Hid.mk (Eq.trans (q95.out.fld (by decide)) u74.out)
            have u105 : Hid (w93 275 81 = w 275 81) := Hid.mk (Eq.trans (q95.out.fld (by decide)) u75.out)
            have u106 : Hid (w93 275 82 = w 275 82) := Hid.mk (Eq.trans (q95.out.fld (by decide)) u76.out)
            have u107 : Hid (w93 275 83 = w70 275 83) := Hid.mk (q95.out.fld (by decide))
            have u108 : Hid (w93 275 84 = w70 275 84) := Hid.mk (q95.out.fld (by decide))
            have u109 : Hid (w93 275 85 = w70 275 85) := Hid.mk (q95.out.fld (by decide))
            have u110 : Hid (w93 275 86 = w70 275 86) := Hid.mk (q95.out.fld (by decide))
            have u112 : Hid (w93 275 88 = w70 275 88) := Hid.mk (q95.out.fld (by decide))
            have u113 : Hid (w93 275 94 = w70 275 94) := Hid.mk (q95.out.fld (by decide))
            have f114 : e_fr (mStm (w 275 78) (w 275 79) (w 275 80) (w 275 94)) w w93 := e_fr.trans f79 (q95.out.st (by omega))
            have c115 := cSt.em q72c q95.out (by decide) (by omega) (by omega)
            show e_Ok 20 elay ecode eI (d + 1) 350 (43, [(0, (1, 275))], [(0, w70 275 78)], w93) _
            refine e_Ok.run (t' := (45, [(1, (0, w70 275 78)), (0, (1, 275))], [(1, 275)], w93)) 2 rfl ?_
            refine e_Ok.callV rfl (Nat.le_trans (by decide) hdq) rfl rfl rfl rfl (c_348_0 (Nat.le_trans (by decide) hdq) c115 (by rw [u112.out] <;> omega)) (fun r116 w117 h118 => ?_)
            obtain ⟨rfl, rfl⟩ := h118
            show e_Ok 20 elay ecode eI (d + 1) 350 (48, [(1, (0, w70 275 78)), (0, (1, 275))], [], w93) _
            refine e_Ok.run (t' := (49, [(1, (0, w70 275 78)), (0, (1, 275))], [(1, 275)], w93)) 1 rfl ?_
            refine e_Ok.getf (z := w70 275 88) rfl (el_o rfl) rfl rfl u112.out (by omega) ?_
            refine e_Ok.if1 rfl (fun h119 => ?_) (fun h119 => ?_)
            · replace h119 : (w70 275 88 : Int) ≠ 0 := h119
              refine e_Ok.run (t' := (105, [(1, (0, w70 275 78)), (0, (1, 275))], [(0, w70 275 78), (1, 275)], w93)) 2 rfl ?_
              refine e_Ok.callV rfl (Nat.le_trans (by decide) hdq) rfl rfl rfl rfl (c_337 c115.1 (n := w70 275 78 + 1) u101.out (by omega) (by omega)) (fun r120 w121 h122 => ?_)
              obtain ⟨rfl, q123⟩ := h122
              have f124 : e_fr (mStm (w 275 78) (w 275 79) (w 275 80) (w 275 94)) w w121 := e_fr.up f114 q123 (by unfold mStm; omega)
              have u125 : Hid (w121 275 78 = w70 275 78 + 1) := Hid.mk (Eq.trans (by rw [← q123]; exact e_up_ne _ _ (Or.inl (by decide))) u101.out)
              have u126 : Hid (w121 275 79 = w 275 79) := Hid.mk (Eq.trans (by rw [← q123]; exact e_up_ne _ _ (Or.inl (by decide))) u103.out)
              have u127 : Hid (w121 275 80 = w 275 80) := Hid.mk (Eq.trans (by rw [← q123]; exact e_up_ne _ _ (Or.inl (by decide))) u104.out)
              have u128 : Hid (w121 275 81 = w 275 81) := Hid.mk (Eq.trans (by rw [← q123]; exact e_up_ne _ _ (Or.inl (by decide))) u105.out)
              have u129 : Hid (w121 275 82 = w 275 82) := Hid.mk (Eq.trans (by rw [← q123]; exact e_up_ne _ _ (Or.inl (by decide))) u106.out)
              have u130 : Hid (w121 275 83 = w70 275 83) := Hid.mk (Eq.trans (by rw [← q123]; exact e_up_ne _ _ (Or.inl (by decide))) u107.out)
              have u131 : Hid (w121 275 84 = w70 275 84) := Hid.mk (Eq.trans (by rw [← q123]; exact e_up_ne _ _ (Or.inl (by decide))) u108.out)
              have u132 : Hid (w121 275 85 = w70 275 85) := Hid.mk (Eq.trans (by rw [← q123]; exact e_up_ne _ _ (Or.inl (by decide))) u109.out)
              have u133 : Hid (w121 275 86 = w70 275 86) := Hid.mk (Eq.trans (by rw [← q123]; exact e_up_ne _ _ (Or.inl (by decide))) u110.out)
              have u135 : Hid (w121 275 88 = w70 275 88) := Hid.mk (Eq.trans (by rw [← q123]; exact e_up_ne _ _ (Or.inl (by decide))) u112.out)
              have u136 : Hid (w121 275 94 = w70 275 94) := Hid.mk (Eq.trans (by rw [← q123]; exact e_up_ne _ _ (Or.inl (by decide))) u113.out)
              have c137 := cSt.wr c115 q123 (Or.inl rfl) (by omega) rfl (fun y => absurd y (by decide))
              show e_Ok 20 elay ecode eI (d + 1) 350 (108, [(1, (0, w70 275 78)), (0, (1, 275))], [], w121) _
              refine e_Ok.run (t' := (111, [(1, (0, w70 275 78)), (0, (1, 275))], [(0, 2), (1, 275), (1, 275)], w121)) 3 rfl ?_
              refine e_Ok.callV rfl (Nat.le_trans (by decide) hdq) rfl rfl rfl rfl (c_332 c137.1 (N := N) c137.2.2.2.1) (fun r138 w139 h140 => ?_)
              obtain ⟨z141, rfl, rfl, q142⟩ := h140
              obtain ⟨rfl, q142, q142b⟩ | ⟨rfl, q142n⟩ := q142
              · show e_Ok 20 elay ecode eI (d + 1) 350 (114, [(1, (0, w70 275 78)), (0, (1, 275))], [(0, 1), (1, 275)], w121) _
                rw [u131.out] at q142
                rw [u132.out] at q142b
                refine e_Ok.callV rfl (Nat.le_trans (by decide) hdq) rfl rfl rfl rfl (c_334 (Nat.le_trans (by decide) hdq) c137.1 c137.2.1 c137.2.2.1 hNr c137.2.2.2.1 (by decide)) (fun r143 w144 h145 => ?_)
                obtain ⟨rfl, q146⟩ := h145
                obtain ⟨rfl, q146z⟩ | ⟨q146z, q146b, q146, q146s, q146t⟩ | ⟨q146z, q146b, q146, q146T, q146H, q146r⟩ := q146
                · show e_Ok 20 elay ecode eI (d + 1) 350 (117, [(1, (0, w70 275 78)), (0, (1, 275))], [], w121) _
                  rw [u135.out] at q146z
                  refine e_Ok.run (t' := (119, [(1, (0, w70 275 78)), (0, (1, 275))], [(1, 275), (1, 275)], w121)) 2 rfl ?_
                  refine e_Ok.getf (z := w70 275 83) rfl (el_o rfl) rfl rfl u130.out (by omega) ?_
                  refine e_Ok.run (t' := (123, [(1, (0, w70 275 78)), (0, (1, 275))], [(0, 1), (0, w70 275 83), (1, 275)], w121)) 1 rfl ?_
                  refine e_Ok.sub' (z := w70 275 83 - 1) rfl (by omega) (by omega) ?_
                  refine e_Ok.putf rfl (el_o rfl) rfl rfl ?_
                  generalize hw147 : e_up w121 275 83 (w70 275 83 - 1) = w147
                  have f148 : e_fr (mStm (w 275 78) (w 275 79) (w 275 80) (w 275 94)) w w147 := e_fr.up f124 hw147 (by unfold mStm; omega)
                  have e149 := up83 hw147
                  replace e149 := (show Hid _ from e149)
                  have u150 : Hid (w147 275 78 = w70 275 78 + 1) := Hid.mk (Eq.trans (e149.out.1 275 78 (by decide)) u125.out)
                  have u151 : Hid (w147 275 79 = w 275 79) := Hid.mk (Eq.trans (e149.out.1 275 79 (by decide)) u126.out)
                  have u152 : Hid (w147 275 80 = w 275 80) := Hid.mk (Eq.trans (e149.out.1 275 80 (by decide)) u127.out)
                  have u153 : Hid (w147 275 81 = w 275 81) := Hid.mk (Eq.trans (e149.out.1 275 81 (by decide)) u128.out)
                  have u154 : Hid (w147 275 82 = w 275 82) := Hid.mk (Eq.trans (e149.out.1 275 82 (by decide)) u129.out)
                  have u155 : Hid (w147 275 83 = w70 275 83 - 1) := Hid.mk (e149.out.2)
                  have u158 : Hid (w147 275 86 = w70 275 86) := Hid.mk (Eq.trans (e149.out.1 275 86 (by decide)) u133.out)
                  have u160 : Hid (w147 275 88 = w70 275 88) := Hid.mk (Eq.trans (e149.out.1 275 88 (by decide)) u135.out)
                  have u161 : Hid (w147 275 94 = w70 275 94) := Hid.mk (Eq.trans (e149.out.1 275 94 (by decide)) u136.out)
                  have c162 := cSt.up c137 hw147
                  refine e_Ok.rets rfl rfl ?_
                  exact ⟨rfl, f148, c162, (by unfold stL; rw [u150.out, u151.out, u152.out, u153.out, u154.out, u155.out, u158.out, u160.out, u161.out]; omega), (fun z => by rw [u160.out] at z; exact absurd z (by omega))⟩
                · rw [u135.out] at q146z; exact absurd q146z (by omega)
                · rw [u135.out] at q146z; exact absurd q146z (by omega)
              · show e_Ok 20 elay ecode eI (d + 1) 350 (114, [(1, (0, w70 275 78)), (0, (1, 275))], [(0, 0), (1, 275)], w121) _
                clear q142n
                refine e_Ok.callV rfl (Nat.le_trans (by decide) hdq) rfl rfl rfl rfl (c_334 (Nat.le_trans (by decide) hdq) c137.1 c137.2.1 c137.2.2.1 hNr c137.2.2.2.1 (by decide)) (fun r163 w164 h165 => ?_)
                obtain ⟨rfl, q166⟩ := h165
                obtain ⟨rfl, q166z⟩ | ⟨q166z, q166b, q166, q166s, q166t⟩ | ⟨q166z, q166b, q166, q166T, q166H, q166r⟩ := q166
                · show e_Ok 20 elay ecode eI (d + 1) 350 (117, [(1, (0, w70 275 78)), (0, (1, 275))], [], w121) _
                  rw [u135.out] at q166z
                  refine e_Ok.run (t' := (119, [(1, (0, w70 275 78)), (0, (1, 275))], [(1, 275), (1, 275)], w121)) 2 rfl ?_
                  refine e_Ok.getf (z := w70 275 83) rfl (el_o rfl) rfl rfl u130.out (by omega) ?_
                  refine e_Ok.run (t' := (123, [(1, (0, w70 275 78)), (0, (1, 275))], [(0, 1), (0, w70 275 83), (1, 275)], w121)) 1 rfl ?_
                  refine e_Ok.sub' (z := w70 275 83 - 1) rfl (by omega) (by omega) ?_
                  refine e_Ok.putf rfl (el_o rfl) rfl rfl ?_
                  generalize hw167 : e_up w121 275 83 (w70 275 83 - 1) = w167
                  have f168 : e_fr (mStm (w 275 78) (w 275 79) (w 275 80) (w 275 94)) w w167 := e_fr.up f124 hw167 (by unfold mStm; omega)
                  have e169 := up83 hw167
                  replace e169 := (show Hid _ from e169)
                  have u170 : Hid (w167 275 78 = w70 275 78 + 1) := Hid.mk (Eq.trans (e169.out.1 275 78 (by decide)) u125.out)
                  have u171 : Hid (w167 275 79 = w 275 79) := Hid.mk (Eq.trans (e169.out.1 275 79 (by decide)) u126.out)
                  have u172 : Hid (w167 275 80 = w 275 80) := Hid.mk (Eq.trans (e169.out.1 275 80 (by decide)) u127.out)
                  have u173 : Hid (w167 275 81 = w 275 81) := Hid.mk (Eq.trans (e169.out.1 275 81 (by decide)) u128.out)
                  have u174 : Hid (w167 275 82 = w 275 82) := Hid.mk (Eq.trans (e169.out.1 275 82 (by decide)) u129.out)
                  have u175 : Hid (w167 275 83 = w70 275 83 - 1) := Hid.mk (e169.out.2)
                  have u178 : Hid (w167 275 86 = w70 275 86) := Hid.mk (Eq.trans (e169.out.1 275 86 (by decide)) u133.out)
                  have u180 : Hid (w167 275 88 = w70 275 88) := Hid.mk (Eq.trans (e169.out.1 275 88 (by decide)) u135.out)
                  have u181 : Hid (w167 275 94 = w70 275 94) := Hid.mk (Eq.trans (e169.out.1 275 94 (by decide)) u136.out)
                  have c182 := cSt.up c137 hw167
                  refine e_Ok.rets rfl rfl ?_
                  exact ⟨rfl, f168, c182, (by unfold stL; rw [u170.out, u171.out, u172.out, u173.out, u174.out, u175.out, u178.out, u180.out, u181.out]; omega), (fun z => by rw [u180.out] at z; exact absurd z (by omega))⟩
                · rw [u135.out] at q166z; exact absurd q166z (by omega)
                · rw [u135.out] at q166z; exact absurd q166z (by omega)
            · replace h119 : (w70 275 88 : Int) = 0 := by have q : ¬ ((w70 275 88 : Int) ≠ 0) := h119; omega
              exfalso; omega
          · show e_Ok 20 elay ecode eI (d + 1) 350 (36, [(0, (1, 275))], [], w89) _
            replace q723 := q723 (by omega)
            replace q729 := q729 (by omega)
            have p183 := tkS.pos q72c.2.2.2.1 (by omega)
            have u184 : Hid (w89 275 78 = w70 275 78) := Hid.mk (q91 275 78 (mTq_fld (by decide)))
            have u185 : Hid (w89 275 79 = w 275 79) := Hid.mk (Eq.trans (q91 275 79 (mTq_fld (by decide))) u73.out)
            have u186 : Hid (w89 275 80 = w 275 80) := Hid.mk (Eq.trans (q91 275 80 (mTq_fld (by decide))) u74.out)
            have u187 : Hid (w89 275 81 = w 275 81) := Hid.mk (Eq.trans (q91 275 81 (mTq_fld (by decide))) u75.out)
            have u188 : Hid (w89 275 82 = w 275 82) := Hid.mk (Eq.trans (q91 275 82 (mTq_fld (by decide))) u76.out)
            have u189 : Hid (w89 275 83 = w70 275 83) := Hid.mk (q91 275 83 (mTq_fld (by decide)))
            have u190 : Hid (w89 275 88 = w70 275 88) := Hid.mk (q91 275 88 (mTq_fld (by decide)))
            have u191 : Hid (w89 275 94 = w70 275 94) := Hid.mk (q91 275 94 (mTq_fld (by decide)))
            have c192 := cSt.tk q72c q91 q91s
            have t193 := tkS.lin c192.2.2.2.1
            have f194 : e_fr (mStm (w 275 78) (w 275 79) (w 275 80) (w 275 94)) w w89 := e_fr.trans f79 (e_fr.mono q91 (fun c k g => mTq_St g))
            have g195 : Hid (w70 275 88 = 0 → GS w89 N (w70 275 78) (w70 275 94) (w 275 79) (w 275 80) P (w 275 81) OW O (0 + 1)) := Hid.mk (fun z => GS.pr (g80.out z) (prE.tk q91))
            refine e_Ok.run (t' := (40, [(0, (1, 275))], [(0, 0), (0, 47), (1, 275)], w89)) 3 rfl ?_
            refine e_Ok.callV rfl (Nat.le_trans (by decide) hdq) rfl rfl rfl rfl (c_336 c192.1 (n := w70 275 78) u184.out (by omega) (s := w 275 81) u187.out (by omega)) (fun r198 w199 h200 => ?_)
            obtain ⟨rfl, q201⟩ := h200
            replace q201 := (show Hid (EM w89 w199 (w70 275 78) 47 (0) (w 275 81)) from q201)
            have u202 : Hid (w199 275 78 = w70 275 78 + 1) := Hid.mk (Eq.trans q201.out.2.2.2.2 (by omega))
            have u203 : Hid (w199 275 79 = w 275 79) := Hid.mk (Eq.trans (q201.out.fld (by decide)) u185.out)
            have u204 : Hid (w199 275 80 = w 275 80) := Hid.mk (Eq.trans (q201.out.fld (by decide)) u186.out)
            have u205 : Hid (w199 275 81 = w 275 81) := Hid.mk (Eq.trans (q201.out.fld (by decide)) u187.out)
            have u206 : Hid (w199 275 82 = w 275 82) := Hid.mk (Eq.trans (q201.out.fld (by decide)) u188.out)
            have u207 : Hid (w199 275 83 = w70 275 83) := Hid.mk (Eq.trans (q201.out.fld (by decide)) u189.out)
            have u210 : Hid (w199 275 86 = w89 275 86) := Hid.mk (q201.out.fld (by decide))
            have u212 : Hid (w199 275 88 = w70 275 88) := Hid.mk (Eq.trans (q201.out.fld (by decide)) u190.out)
            have u213 : Hid (w199 275 94 = w70 275 94) := Hid.mk (Eq.trans (q201.out.fld (by decide)) u191.out)
            have f214 : e_fr (mStm (w 275 78) (w 275 79) (w 275 80) (w 275 94)) w w199 := e_fr.trans f194 (q201.out.st (by omega))
            have c215 := cSt.em c192 q201.out (by decide) (by omega) (by omega)
            have g218 : Hid (w70 275 88 = 0 → GB w199 N (w70 275 78 + 1) (w70 275 94) (w 275 79) (w 275 80) (fun p => P p ∨ p = w70 275 78) (w 275 81) OW O) := Hid.mk (fun z => (GS.jn (GS.re (g195.out (by omega)) rfl rfl rfl rfl rfl (show _ = 1 from by omega)) q201.out))
            have cf219 : Hid (w199 328 (w70 275 78 + 40000) = 47) := Hid.mk (q201.out.2.1)
            have cf220 : Hid (w199 330 (w70 275 78 + 40000) = w 275 81) := Hid.mk (q201.out.2.2.2.1)
            show e_Ok 20 elay ecode eI (d + 1) 350 (43, [(0, (1, 275))], [(0, w70 275 78)], w199) _
            refine e_Ok.run (t' := (45, [(1, (0, w70 275 78)), (0, (1, 275))], [(1, 275)], w199)) 2 rfl ?_
            refine e_Ok.callV rfl (Nat.le_trans (by decide) hdq) rfl rfl rfl rfl ((hS (by omega) d rfl) w199 N O (fun p => P p ∨ p = w70 275 78) OW c215 hNr (by rw [u212.out] <;> omega) (Eq.trans u207.out (show _ = o + 1 from by omega)) (by rw [u206.out] <;> exact hv.out) (by unfold stB; rw [u202.out, u210.out, u213.out, u203.out, u204.out]; omega) (by omega) (by rw [u202.out, u213.out, u203.out, u204.out, u205.out] <;> exact (g218.out (by omega)))) (fun r221 w222 h223 => ?_)
            obtain ⟨rfl, q224F, q224c, q224l, q224w⟩ := h223
            unfold stL at q224l
            obtain ⟨q2241, q2242, q2243, q2244, q2245, q2246, q2247, q2248, q2249, q22410, q22411, q22412⟩ := q224l
            replace q2249 := (show Hid _ from q2249)
            replace q22410 := (show Hid _ from q22410)
            replace q224F := (show Hid _ from q224F)
            rw [u210.out] at q2241
            rw [u202.out] at q2242
            rw [u202.out, u210.out, u207.out, u203.out, u204.out] at q2243
            rw [u202.out, u210.out] at q2244
            rw [u213.out] at q2245
            rw [u213.out, u210.out] at q2246
            rw [u207.out] at q2247
            rw [u207.out] at q2248
            rw [u203.out] at q22411
            rw [u204.out] at q22412
            have f225 : Hid (e_fr (mStm (w70 275 78 + 1) (w 275 79) (w 275 80) (w70 275 94)) w199 w222) := Hid.mk (by have y := q224F.out; rw [u202.out, u203.out, u204.out, u213.out] at y; exact y)
            replace q224w := (show Hid _ from q224w)
            have u226 : Hid (w222 275 81 = w 275 81) := Hid.mk (Eq.trans (q2249.out) u205.out)
            have u227 : Hid (w222 275 82 = w 275 82) := Hid.mk (Eq.trans (q22410.out) u206.out)
            have t228 := tkS.lin q224c.2.2.2.1
            have t229 := e_Has.get q224c.2.1 (c := 275) (k := 88) (lo := 0) (hi := 7) rfl (by decide)
            have f230 : e_fr (mStm (w 275 78) (w 275 79) (w 275 80) (w 275 94)) w w222 := e_fr.trans f214 (e_fr.mono f225.out (fun c k g => mSt_St (by omega) (by omega) (by omega) (by omega) g))
            have g231 : Hid (w222 275 88 = 0 → GB w222 N (w222 275 78) (w222 275 94) (w222 275 79) (w222 275 80) (fun p => P p ∨ p = w70 275 78) (w 275 81) OW O) := Hid.mk (fun z => by have y := q224w.out z; rw [u226.out] at y; exact y)
            have cf234 : Hid (w222 328 (w70 275 78 + 40000) = 47) := Hid.mk (Eq.trans (f225.out 328 (w70 275 78 + 40000) (by unfold mStm; omega)) cf219.out)
            have cf235 : Hid (w222 330 (w70 275 78 + 40000) = w 275 81) := Hid.mk (Eq.trans (f225.out 330 (w70 275 78 + 40000) (by unfold mStm; omega)) cf220.out)
            show e_Ok 20 elay ecode eI (d + 1) 350 (48, [(1, (0, w70 275 78)), (0, (1, 275))], [], w222) _
            refine e_Ok.run (t' := (49, [(1, (0, w70 275 78)), (0, (1, 275))], [(1, 275)], w222)) 1 rfl ?_
            refine e_Ok.getf (z := w222 275 88) rfl (el_o rfl) rfl rfl rfl (by omega) ?_
            refine e_Ok.if1 rfl (fun h236 => ?_) (fun h236 => ?_)
            · replace h236 : (w222 275 88 : Int) ≠ 0 := h236
              clear q2243
              refine e_Ok.run (t' := (105, [(1, (0, w70 275 78)), (0, (1, 275))], [(0, w70 275 78), (1, 275)], w222)) 2 rfl ?_
              refine e_Ok.callV rfl (Nat.le_trans (by decide) hdq) rfl rfl rfl rfl (c_337 q224c.1 (n := w222 275 78) rfl (by omega) (by omega)) (fun r237 w238 h239 => ?_)
              obtain ⟨rfl, q240⟩ := h239
              have f241 : e_fr (mStm (w 275 78) (w 275 79) (w 275 80) (w 275 94)) w w238 := e_fr.up f230 q240 (by unfold mStm; omega)
              have u242 : Hid (w238 275 78 = w222 275 78) := Hid.mk (by rw [← q240]; exact e_up_ne _ _ (Or.inl (by decide)))
              have u243 : Hid (w238 275 79 = w222 275 79) := Hid.mk (by rw [← q240]; exact e_up_ne _ _ (Or.inl (by decide)))
              have u244 : Hid (w238 275 80 = w222 275 80) := Hid.mk (by rw [← q240]; exact e_up_ne _ _ (Or.inl (by decide)))
              have u245 : Hid (w238 275 81 = w 275 81) := Hid.mk (Eq.trans (by rw [← q240]; exact e_up_ne _ _ (Or.inl (by decide))) u226.out)
              have u246 : Hid (w238 275 82 = w 275 82) := Hid.mk (Eq.trans (by rw [← q240]; exact e_up_ne _ _ (Or.inl (by decide))) u227.out)
              have u247 : Hid (w238 275 83 = w222 275 83) := Hid.mk (by rw [← q240]; exact e_up_ne _ _ (Or.inl (by decide)))
              have u248 : Hid (w238 275 84 = w222 275 84) := Hid.mk (by rw [← q240]; exact e_up_ne _ _ (Or.inl (by decide)))
              have u249 : Hid (w238 275 85 = w222 275 85) := Hid.mk (by rw [← q240]; exact e_up_ne _ _ (Or.inl (by decide)))
              have u250 : Hid (w238 275 86 = w222 275 86) := Hid.mk (by rw [← q240]; exact e_up_ne _ _ (Or.inl (by decide)))
              have u252 : Hid (w238 275 88 = w222 275 88) := Hid.mk (by rw [← q240]; exact e_up_ne _ _ (Or.inl (by decide)))
              have u253 : Hid (w238 275 94 = w222 275 94) := Hid.mk (by rw [← q240]; exact e_up_ne _ _ (Or.inl (by decide)))
              have c254 := cSt.wr q224c q240 (Or.inl rfl) (by omega) rfl (fun y => absurd y (by decide))
              show e_Ok 20 elay ecode eI (d + 1) 350 (108, [(1, (0, w70 275 78)), (0, (1, 275))], [], w238) _
              refine e_Ok.run (t' := (111, [(1, (0, w70 275 78)), (0, (1, 275))], [(0, 2), (1, 275), (1, 275)], w238)) 3 rfl ?_
              refine e_Ok.callV rfl (Nat.le_trans (by decide) hdq) rfl rfl rfl rfl (c_332 c254.1 (N := N) c254.2.2.2.1) (fun r255 w256 h257 => ?_)
              obtain ⟨z258, rfl, rfl, q259⟩ := h257
              obtain ⟨rfl, q259, q259b⟩ | ⟨rfl, q259n⟩ := q259
              · show e_Ok 20 elay ecode eI (d + 1) 350 (114, [(1, (0, w70 275 78)), (0, (1, 275))], [(0, 1), (1, 275)], w238) _
                rw [u248.out] at q259
                rw [u249.out] at q259b
                refine e_Ok.callV rfl (Nat.le_trans (by decide) hdq) rfl rfl rfl rfl (c_334 (Nat.le_trans (by decide) hdq) c254.1 c254.2.1 c254.2.2.1 hNr c254.2.2.2.1 (by decide)) (fun r260 w261 h262 => ?_)
                obtain ⟨rfl, q263⟩ := h262
                obtain ⟨rfl, q263z⟩ | ⟨q263z, q263b, q263, q263s, q263t⟩ | ⟨q263z, q263b, q263, q263T, q263H, q263r⟩ := q263
                · show e_Ok 20 elay ecode eI (d + 1) 350 (117, [(1, (0, w70 275 78)), (0, (1, 275))], [], w238) _
                  rw [u252.out] at q263z
                  refine e_Ok.run (t' := (119, [(1, (0, w70 275 78)), (0, (1, 275))], [(1, 275), (1, 275)], w238)) 2 rfl ?_
                  refine e_Ok.getf (z := w222 275 83) rfl (el_o rfl) rfl rfl u247.out (by omega) ?_
                  refine e_Ok.run (t' := (123, [(1, (0, w70 275 78)), (0, (1, 275))], [(0, 1), (0, w222 275 83), (1, 275)], w238)) 1 rfl ?_
                  refine e_Ok.sub' (z := w222 275 83 - 1) rfl (by omega) (by omega) ?_
                  refine e_Ok.putf rfl (el_o rfl) rfl rfl ?_
                  generalize hw264 : e_up w238 275 83 (w222 275 83 - 1) = w264
                  have f265 : e_fr (mStm (w 275 78) (w 275 79) (w 275 80) (w 275 94)) w w264 := e_fr.up f241 hw264 (by unfold mStm; omega)
                  have e266 := up83 hw264
                  replace e266 := (show Hid _ from e266)
                  have u267 : Hid (w264 275 78 = w222 275 78) := Hid.mk (Eq.trans (e266.out.1 275 78 (by decide)) u242.out)
                  have u268 : Hid (w264 275 79 = w222 275 79) := Hid.mk (Eq.trans (e266.out.1 275 79 (by decide)) u243.out)
                  have u269 : Hid (w264 275 80 = w222 275 80) := Hid.mk (Eq.trans (e266.out.1 275 80 (by decide)) u244.out)
                  have u270 : Hid (w264 275 81 = w 275 81) := Hid.mk (Eq.trans (e266.out.1 275 81 (by decide)) u245.out)
                  have u271 : Hid (w264 275 82 = w 275 82) := Hid.mk (Eq.trans (e266.out.1 275 82 (by decide)) u246.out)
                  have u272 : Hid (w264 275 83 = w222 275 83 - 1) := Hid.mk (e266.out.2)
                  have u275 : Hid (w264 275 86 = w222 275 86) := Hid.mk (Eq.trans (e266.out.1 275 86 (by decide)) u250.out)
                  have u277 : Hid (w264 275 88 = w222 275 88) := Hid.mk (Eq.trans (e266.out.1 275 88 (by decide)) u252.out)
                  have u278 : Hid (w264 275 94 = w222 275 94) := Hid.mk (Eq.trans (e266.out.1 275 94 (by decide)) u253.out)
                  have c279 := cSt.up c254 hw264
                  refine e_Ok.rets rfl rfl ?_
                  exact ⟨rfl, f265, c279, (by unfold stL; rw [u267.out, u268.out, u269.out, u270.out, u271.out, u272.out, u275.out, u277.out, u278.out]; omega), (fun z => by rw [u277.out] at z; exact absurd z (by omega))⟩
                · rw [u252.out] at q263z; exact absurd q263z (by omega)
                · rw [u252.out] at q263z; exact absurd q263z (by omega)
              · show e_Ok 20 elay ecode eI (d + 1) 350 (114, [(1, (0, w70 275 78)), (0, (1, 275))], [(0, 0), (1, 275)], w238) _
                clear q259n
                refine e_Ok.callV rfl (Nat.le_trans (by decide) hdq) rfl rfl rfl rfl (c_334 (Nat.le_trans (by decide) hdq) c254.1 c254.2.1 c254.2.2.1 hNr c254.2.2.2.1 (by decide)) (fun r280 w281 h282 => ?_)
                obtain ⟨rfl, q283⟩ := h282
                obtain ⟨rfl, q283z⟩ | ⟨q283z, q283b, q283, q283s, q283t⟩ | ⟨q283z, q283b, q283, q283T, q283H, q283r⟩ := q283
                · show e_Ok 20 elay ecode eI (d + 1) 350 (117, [(1, (0, w70 275 78)), (0, (1, 275))], [], w238) _
                  rw [u252.out] at q283z
                  refine e_Ok.run (t' := (119, [(1, (0, w70 275 78)), (0, (1, 275))], [(1, 275), (1, 275)], w238)) 2 rfl ?_
                  refine e_Ok.getf (z := w222 275 83) rfl (el_o rfl) rfl rfl u247.out (by omega) ?_
                  refine e_Ok.run (t' := (123, [(1, (0, w70 275 78)), (0, (1, 275))], [(0, 1), (0, w222 275 83), (1, 275)], w238)) 1 rfl ?_
                  refine e_Ok.sub' (z := w222 275 83 - 1) rfl (by omega) (by omega) ?_
                  refine e_Ok.putf rfl (el_o rfl) rfl rfl ?_
                  generalize hw284 : e_up w238 275 83 (w222 275 83 - 1) = w284
                  have f285 : e_fr (mStm (w 275 78) (w 275 79) (w 275 80) (w 275 94)) w w284 := e_fr.up f241 hw284 (by unfold mStm; omega)
                  have e286 := up83 hw284
                  replace e286 := (show Hid _ from e286)
                  have u287 : Hid (w284 275 78 = w222 275 78) := Hid.mk (Eq.trans (e286.out.1 275 78 (by decide)) u242.out)
                  have u288 : Hid (w284 275 79 = w222 275 79) := Hid.mk (Eq.trans (e286.out.1 275 79 (by decide)) u243.out)
                  have u289 : Hid (w284 275 80 = w222 275 80) := Hid.mk (Eq.trans (e286.out.1 275 80 (by decide)) u244.out)
                  have u290 : Hid (w284 275 81 = w 275 81) := Hid.mk (Eq.trans (e286.out.1 275 81 (by decide)) u245.out)
                  have u291 : Hid (w284 275 82 = w 275 82) := Hid.mk (Eq.trans (e286.out.1 275 82 (by decide)) u246.out)
                  have u292 : Hid (w284 275 83 = w222 275 83 - 1) := Hid.mk (e286.out.2)
                  have u295 : Hid (w284 275 86 = w222 275 86) := Hid.mk (Eq.trans (e286.out.1 275 86 (by decide)) u250.out)
                  have u297 : Hid (w284 275 88 = w222 275 88) := Hid.mk (Eq.trans (e286.out.1 275 88 (by decide)) u252.out)
                  have u298 : Hid (w284 275 94 = w222 275 94) := Hid.mk (Eq.trans (e286.out.1 275 94 (by decide)) u253.out)
                  have c299 := cSt.up c254 hw284
                  refine e_Ok.rets rfl rfl ?_
                  exact ⟨rfl, f285, c299, (by unfold stL; rw [u287.out, u288.out, u289.out, u290.out, u291.out, u292.out, u295.out, u297.out, u298.out]; omega), (fun z => by rw [u297.out] at z; exact absurd z (by omega))⟩
                · rw [u252.out] at q283z; exact absurd q283z (by omega)
                · rw [u252.out] at q283z; exact absurd q283z (by omega)
            · replace h236 : (w222 275 88 : Int) = 0 := by have q : ¬ ((w222 275 88 : Int) ≠ 0) := h236; omega
              replace q2243 := q2243 (by omega)
              refine e_Ok.run (t' := (58, [(1, (0, w70 275 78)), (0, (1, 275))], [(0, 19), (1, 275)], w222)) 2 rfl ?_
              refine e_Ok.callV rfl (Nat.le_trans (by decide) hdq) rfl rfl rfl rfl (c_332 q224c.1 (N := N) q224c.2.2.2.1) (fun r300 w301 h302 => ?_)
              obtain ⟨z303, rfl, rfl, q304⟩ := h302
              obtain ⟨rfl, q304, q304b⟩ | ⟨rfl, q304n⟩ := q304
              · show e_Ok 20 elay ecode eI (d + 1) 350 (61, [(1, (0, w70 275 78)), (0, (1, 275))], [(0, 1)], w222) _
                refine e_Ok.if1 rfl (fun h305 => ?_) (fun h305 => ?_)
                · replace h305 : (1 : Int) = 0 := h305
                  exfalso; omega
                · replace h305 : (1 : Int) ≠ 0 := by have q : ¬ ((1 : Int) = 0) := h305; omega
                  refine e_Ok.run (t' := (65, [(1, (0, w70 275 78)), (0, (1, 275))], [(1, 275)], w222)) 1 rfl ?_
                  refine e_Ok.callV rfl (Nat.le_trans (by decide) hdq) rfl rfl rfl rfl (c_327 (Nat.le_trans (by decide) hdq) q224c.1 q224c.2.1 q224c.2.2.1 hNr (t := w222 275 87) rfl (by omega)) (fun r306 w307 h308 => ?_)
                  have p310 := tkS.pos q224c.2.2.2.1 (by omega)
                  have p311 := tkS.key q224c.2.2.2.1 (by omega)
                  obtain ⟨rfl, q309, q309s, q309t⟩ := h308
                  have u312 : Hid (w307 275 78 = w222 275 78) := Hid.mk (q309 275 78 (mTq_fld (by decide)))
                  have u313 : Hid (w307 275 79 = w222 275 79) := Hid.mk (q309 275 79 (mTq_fld (by decide)))
                  have u314 : Hid (w307 275 80 = w222 275 80) := Hid.mk (q309 275 80 (mTq_fld (by decide)))
                  have u315 : Hid (w307 275 81 = w 275 81) := Hid.mk (Eq.trans (q309 275 81 (mTq_fld (by decide))) u226.out)
                  have u316 : Hid (w307 275 82 = w 275 82) := Hid.mk (Eq.trans (q309 275 82 (mTq_fld (by decide))) u227.out)
                  have u317 : Hid (w307 275 83 = w222 275 83) := Hid.mk (q309 275 83 (mTq_fld (by decide)))
                  have u318 : Hid (w307 275 88 = w222 275 88) := Hid.mk (q309 275 88 (mTq_fld (by decide)))
                  have u319 : Hid (w307 275 94 = w222 275 94) := Hid.mk (q309 275 94 (mTq_fld (by decide)))
                  have c320 := cSt.tk q224c q309 q309s
                  have t321 := tkS.lin c320.2.2.2.1
                  have f322 : e_fr (mStm (w 275 78) (w 275 79) (w 275 80) (w 275 94)) w w307 := e_fr.trans f230 (e_fr.mono q309 (fun c k g => mTq_St g))
                  have g323 : Hid (w222 275 88 = 0 → GB w307 N (w222 275 78) (w222 275 94) (w222 275 79) (w222 275 80) (fun p => P p ∨ p = w70 275 78) (w 275 81) OW O) := Hid.mk (fun z => GB.pr (g231.out z) (prE.tk q309))
                  have cf326 : Hid (w307 328 (w70 275 78 + 40000) = 47) := Hid.mk (Eq.trans (q309 328 (w70 275 78 + 40000) (mTq_not (by decide))) cf234.out)
                  have cf327 : Hid (w307 330 (w70 275 78 + 40000) = w 275 81) := Hid.mk (Eq.trans (q309 330 (w70 275 78 + 40000) (mTq_not (by decide))) cf235.out)
                  show e_Ok 20 elay ecode eI (d + 1) 350 (68, [(1, (0, w70 275 78)), (0, (1, 275))], [], w307) _
                  refine e_Ok.run (t' := (72, [(1, (0, w70 275 78)), (0, (1, 275))], [(0, 58), (1, 275), (1, 275)], w307)) 3 rfl ?_
                  refine e_Ok.callV rfl (Nat.le_trans (by decide) hdq) rfl rfl rfl rfl (c_331 c320.1 (N := N) c320.2.2.2.1) (fun r329 w331 h332 => ?_)
                  obtain ⟨z333, rfl, rfl, q334⟩ := h332
                  obtain ⟨rfl, q334, q334b⟩ | ⟨rfl, q334n⟩ := q334
                  · show e_Ok 20 elay ecode eI (d + 1) 350 (75, [(1, (0, w70 275 78)), (0, (1, 275))], [(0, 1), (1, 275)], w307) _
                    refine e_Ok.callV rfl (Nat.le_trans (by decide) hdq) rfl rfl rfl rfl (c_334 (Nat.le_trans (by decide) hdq) c320.1 c320.2.1 c320.2.2.1 hNr c320.2.2.2.1 (by decide)) (fun r335 w336 h337 => ?_)
                    obtain ⟨rfl, q339⟩ := h337
                    obtain ⟨rfl, q339z⟩ | ⟨q339z, q339b, q339, q339s, q339t⟩ | ⟨q339z, q339b, q339, q339T, q339H, q339r⟩ := q339
                    · rw [u318.out] at q339z; exact absurd q339z (by omega)
                    · show e_Ok 20 elay ecode eI (d + 1) 350 (78, [(1, (0, w70 275 78)), (0, (1, 275))], [], w336) _
                      rw [u318.out] at q339z
                      have p340 := tkS.pos c320.2.2.2.1 (by omega)
                      have u341 : Hid (w336 275 78 = w222 275 78) := Hid.mk (Eq.trans (q339 275 78 (mTq_fld (by decide))) u312.out)
                      have u342 : Hid (w336 275 79 = w222 275 79) := Hid.mk (Eq.trans (q339 275 79 (mTq_fld (by decide))) u313.out)
                      have u343 : Hid (w336 275 80 = w222 275 80) := Hid.mk (Eq.trans (q339 275 80 (mTq_fld (by decide))) u314.out)
                      have u344 : Hid (w336 275 81 = w 275 81) := Hid.mk (Eq.trans (q339 275 81 (mTq_fld (by decide))) u315.out)
                      have u345 : Hid (w336 275 82 = w 275 82) := Hid.mk (Eq.trans (q339 275 82 (mTq_fld (by decide))) u316.out)
                      have u346 : Hid (w336 275 83 = w222 275 83) := Hid.mk (Eq.trans (q339 275 83 (mTq_fld (by decide))) u317.out)
                      have u347 : Hid (w336 275 88 = w222 275 88) := Hid.mk (Eq.trans (q339 275 88 (mTq_fld (by decide))) u318.out)
                      have u348 : Hid (w336 275 94 = w222 275 94) := Hid.mk (Eq.trans (q339 275 94 (mTq_fld (by decide))) u319.out)
                      have c349 := cSt.tk c320 q339 q339s
                      have t350 := tkS.lin c349.2.2.2.1
                      have f351 : e_fr (mStm (w 275 78) (w 275 79) (w 275 80) (w 275 94)) w w336 := e_fr.trans f322 (e_fr.mono q339 (fun c k g => mTq_St g))
                      have g352 : Hid (w222 275 88 = 0 → GB w336 N (w222 275 78) (w222 275 94) (w222 275 79) (w222 275 80) (fun p => P p ∨ p = w70 275 78) (w 275 81) OW O) := Hid.mk (fun z => GB.pr (g323.out z) (prE.tk q339))
                      have cf355 : Hid (w336 328 (w70 275 78 + 40000) = 47) := Hid.mk (Eq.trans (q339 328 (w70 275 78 + 40000) (mTq_not (by decide))) cf326.out)
                      have cf356 : Hid (w336 330 (w70 275 78 + 40000) = w 275 81) := Hid.mk (Eq.trans (q339 330 (w70 275 78 + 40000) (mTq_not (by decide))) cf327.out)
                      refine e_Ok.run (t' := (82, [(1, (0, w70 275 78)), (0, (1, 275))], [(0, 0), (0, 48), (1, 275)], w336)) 3 rfl ?_
                      refine e_Ok.callV rfl (Nat.le_trans (by decide) hdq) rfl rfl rfl rfl (c_336 c349.1 (n := w222 275 78) u341.out (by omega) (s := w 275 81) u344.out (by omega)) (fun r357 w358 h359 => ?_)
                      obtain ⟨rfl, q360⟩ := h359
                      replace q360 := (show Hid (EM w336 w358 (w222 275 78) 48 (0) (w 275 81)) from q360)
                      have u361 : Hid (w358 275 78 = w222 275 78 + 1) := Hid.mk (Eq.trans q360.out.2.2.2.2 (by omega))
                      have u362 : Hid (w358 275 79 = w222 275 79) := Hid.mk (Eq.trans (q360.out.fld (by decide)) u342.out)
                      have u363 : Hid (w358 275 80 = w222 275 80) := Hid.mk (Eq.trans (q360.out.fld (by decide)) u343.out)
                      have u364 : Hid (w358 275 81 = w 275 81) := Hid.mk (Eq.trans (q360.out.fld (by decide)) u344.out)
                      have u365 : Hid (w358 275 82 = w 275 82) := Hid.mk (Eq.trans (q360.out.fld (by decide)) u345.out)
                      have u366 : Hid (w358 275 83 = w222 275 83) := Hid.mk (Eq.trans (q360.out.fld (by decide)) u346.out)
                      have u369 : Hid (w358 275 86 = w336 275 86) := Hid.mk (q360.out.fld (by decide))
                      have u371 : Hid (w358 275 88 = w222 275 88) := Hid.mk (Eq.trans (q360.out.fld (by decide)) u347.out)
                      have u372 : Hid (w358 275 94 = w222 275 94) := Hid.mk (Eq.trans (q360.out.fld (by decide)) u348.out)
                      have f373 : e_fr (mStm (w 275 78) (w 275 79) (w 275 80) (w 275 94)) w w358 := e_fr.trans f351 (q360.out.st (by omega))
                      have c374 := cSt.em c349 q360.out (by decide) (by omega) (by omega)
                      have cf377 : Hid (w358 328 (w70 275 78 + 40000) = 47) := Hid.mk (Eq.trans (q360.out.lt (by decide) (by omega)) cf355.out)
                      have cf378 : Hid (w358 330 (w70 275 78 + 40000) = w 275 81) := Hid.mk (Eq.trans (q360.out.lt (by decide) (by omega)) cf356.out)
                      have g379 : Hid (w222 275 88 = 0 → GZ w358 N (w222 275 78 + 1) (w222 275 94) (w222 275 79) (w222 275 80) (fun p => (fun p => P p ∨ p = w70 275 78) p ∨ p = w222 275 78) (w 275 81) OW O) := Hid.mk (fun z => (GI.jf (g352.out (by omega)).1 ((g352.out (by omega)).2.2 48 (sg_no (by omega))) (g352.out (by omega)).2.1 q360.out))
                      have cf380 : Hid (w358 328 (w222 275 78 + 40000) = 48) := Hid.mk (q360.out.2.1)
                      have cf381 : Hid (w358 330 (w222 275 78 + 40000) = w 275 81) := Hid.mk (q360.out.2.2.2.1)
                      show e_Ok 20 elay ecode eI (d + 1) 350 (85, [(1, (0, w70 275 78)), (0, (1, 275))], [(0, w222 275 78)], w358) _
                      refine e_Ok.run (t' := (88, [(2, (0, w222 275 78)), (1, (0, w70 275 78)), (0, (1, 275))], [(0, w70 275 78), (1, 275)], w358)) 3 rfl ?_
                      refine e_Ok.callV rfl (Nat.le_trans (by decide) hdq) rfl rfl rfl rfl (c_337 c374.1 (n := w222 275 78 + 1) u361.out (by omega) (by omega)) (fun r382 w383 h384 => ?_)
                      obtain ⟨rfl, q385⟩ := h384
                      have f386 : e_fr (mStm (w 275 78) (w 275 79) (w 275 80) (w 275 94)) w w383 := e_fr.up f373 q385 (by unfold mStm; omega)
                      have u387 : Hid (w383 275 78 = w222 275 78 + 1) := Hid.mk (Eq.trans (by rw [← q385]; exact e_up_ne _ _ (Or.inl (by decide))) u361.out)
                      have u388 : Hid (w383 275 79 = w222 275 79) := Hid.mk (Eq.trans (by rw [← q385]; exact e_up_ne _ _ (Or.inl (by decide))) u362.out)
                      have u389 : Hid (w383 275 80 = w222 275 80) := Hid.mk (Eq.trans (by rw [← q385]; exact e_up_ne _ _ (Or.inl (by decide))) u363.out)
                      have u390 : Hid (w383 275 81 = w 275 81) := Hid.mk (Eq.trans (by rw [← q385]; exact e_up_ne _ _ (Or.inl (by decide))) u364.out)
                      have u391 : Hid (w383 275 82 = w 275 82) := Hid.mk (Eq.trans (by rw [← q385]; exact e_up_ne _ _ (Or.inl (by decide))) u365.out)
                      have u392 : Hid (w383 275 83 = w222 275 83) := Hid.mk (Eq.trans (by rw [← q385]; exact e_up_ne _ _ (Or.inl (by decide))) u366.out)
                      have u395 : Hid (w383 275 86 = w336 275 86) := Hid.mk (Eq.trans (by rw [← q385]; exact e_up_ne _ _ (Or.inl (by decide))) u369.out)
                      have u397 : Hid (w383 275 88 = w222 275 88) := Hid.mk (Eq.trans (by rw [← q385]; exact e_up_ne _ _ (Or.inl (by decide))) u371.out)
                      have u398 : Hid (w383 275 94 = w222 275 94) := Hid.mk (Eq.trans (by rw [← q385]; exact e_up_ne _ _ (Or.inl (by decide))) u372.out)
                      have c399 := cSt.wr c374 q385 (Or.inl rfl) (by omega) rfl (fun y => absurd y (by decide))
                      have g400 : Hid (w222 275 88 = 0 → GB w383 N (w222 275 78 + 1) (w222 275 94) (w222 275 79) (w222 275 80) (fun p => P p ∨ p = w222 275 78) (w 275 81) OW O) := Hid.mk (fun z => GB.patch (GB.cg (P' := fun p => (fun p => P p ∨ p = w222 275 78) p ∨ p = w70 275 78) (GZ.gb (g379.out (by omega))) (fun p => ⟨(fun y => y.elim (fun y => y.elim (fun a => Or.inl (Or.inl a)) Or.inr) (fun c => Or.inl (Or.inr c))), (fun y => y.elim (fun y => y.elim (fun a => Or.inl (Or.inl a)) Or.inr) (fun c => Or.inl (Or.inr c)))⟩)) q385 (by omega) (Or.inl cf377.out) cf378.out)
                      have cf405 : Hid (w383 328 (w222 275 78 + 40000) = 48) := Hid.mk (Eq.trans (by rw [← q385]; exact e_up_ne _ _ (Or.inl (by decide))) cf380.out)
                      have cf406 : Hid (w383 330 (w222 275 78 + 40000) = w 275 81) := Hid.mk (Eq.trans (by rw [← q385]; exact e_up_ne _ _ (Or.inl (by decide))) cf381.out)
                      show e_Ok 20 elay ecode eI (d + 1) 350 (91, [(2, (0, w222 275 78)), (1, (0, w70 275 78)), (0, (1, 275))], [], w383) _
                      refine e_Ok.run (t' := (92, [(2, (0, w222 275 78)), (1, (0, w70 275 78)), (0, (1, 275))], [(1, 275)], w383)) 1 rfl ?_
                      refine e_Ok.callV rfl (Nat.le_trans (by decide) hdq) rfl rfl rfl rfl ((hS (by omega) d rfl) w383 N O (fun p => P p ∨ p = w222 275 78) OW c399 hNr (by rw [u397.out] <;> omega) (Eq.trans u392.out (show _ = o + 1 from by omega)) (by rw [u391.out] <;> exact hv.out) (by unfold stB; rw [u387.out, u395.out, u398.out, u388.out, u389.out]; omega) (by omega) (by rw [u387.out, u398.out, u388.out, u389.out, u390.out] <;> exact (g400.out (by omega)))) (fun r407 w408 h409 => ?_)
                      obtain ⟨rfl, q410F, q410c, q410l, q410w⟩ := h409
                      unfold stL at q410l
                      obtain ⟨q4101, q4102, q4103, q4104, q4105, q4106, q4107, q4108, q4109, q41010, q41011, q41012⟩ := q410l
                      replace q4109 := (show Hid _ from q4109)
                      replace q41010 := (show Hid _ from q41010)
                      replace q410F := (show Hid _ from q410F)
                      rw [u395.out] at q4101
                      rw [u387.out] at q4102
                      rw [u387.out, u395.out, u392.out, u388.out, u389.out] at q4103
                      rw [u387.out, u395.out] at q4104
                      rw [u398.out] at q4105
                      rw [u398.out, u395.out] at q4106
                      rw [u392.out] at q4107
                      rw [u392.out] at q4108
                      rw [u388.out] at q41011
                      rw [u389.out] at q41012
                      have f411 : Hid (e_fr (mStm (w222 275 78 + 1) (w222 275 79) (w222 275 80) (w222 275 94)) w383 w408) := Hid.mk (by have y := q410F.out; rw [u387.out, u388.out, u389.out, u398.out] at y; exact y)
                      replace q410w := (show Hid _ from q410w)
                      have u412 : Hid (w408 275 81 = w 275 81) := Hid.mk (Eq.trans (q4109.out) u390.out)
                      have u413 : Hid (w408 275 82 = w 275 82) := Hid.mk (Eq.trans (q41010.out) u391.out)
                      have t414 := tkS.lin q410c.2.2.2.1
                      have t415 := e_Has.get q410c.2.1 (c := 275) (k := 88) (lo := 0) (hi := 7) rfl (by decide)
                      have f417 : e_fr (mStm (w 275 78) (w 275 79) (w 275 80) (w 275 94)) w w408 := e_fr.trans f386 (e_fr.mono f411.out (fun c k g => mSt_St (by omega) (by omega) (by omega) (by omega) g))
                      have g418 : Hid (w408 275 88 = 0 → GB w408 N (w408 275 78) (w408 275 94) (w408 275 79) (w408 275 80) (fun p => P p ∨ p = w222 275 78) (w 275 81) OW O) := Hid.mk (fun z => by have y := q410w.out z; rw [u412.out] at y; exact y)
                      have cf423 : Hid (w408 328 (w222 275 78 + 40000) = 48) := Hid.mk (Eq.trans (f411.out 328 (w222 275 78 + 40000) (by unfold mStm; omega)) cf405.out)
                      have cf424 : Hid (w408 330 (w222 275 78 + 40000) = w 275 81) := Hid.mk (Eq.trans (f411.out 330 (w222 275 78 + 40000) (by unfold mStm; omega)) cf406.out)
                      show e_Ok 20 elay ecode eI (d + 1) 350 (95, [(2, (0, w222 275 78)), (1, (0, w70 275 78)), (0, (1, 275))], [], w408) _
                      refine e_Ok.run (t' := (97, [(2, (0, w222 275 78)), (1, (0, w70 275 78)), (0, (1, 275))], [(0, w222 275 78), (1, 275)], w408)) 2 rfl ?_
                      refine e_Ok.callV rfl (Nat.le_trans (by decide) hdq) rfl rfl rfl rfl (c_337 q410c.1 (n := w408 275 78) rfl (by omega) (by omega)) (fun r425 w426 h427 => ?_)
                      obtain ⟨rfl, q428⟩ := h427
                      have f429 : e_fr (mStm (w 275 78) (w 275 79) (w 275 80) (w 275 94)) w w426 := e_fr.up f417 q428 (by unfold mStm; omega)
                      have u430 : Hid (w426 275 78 = w408 275 78) := Hid.mk (by rw [← q428]; exact e_up_ne _ _ (Or.inl (by decide)))
                      have u431 : Hid (w426 275 79 = w408 275 79) := Hid.mk (by rw [← q428]; exact e_up_ne _ _ (Or.inl (by decide)))
                      have u432 : Hid (w426 275 80 = w408 275 80) := Hid.mk (by rw [← q428]; exact e_up_ne _ _ (Or.inl (by decide)))
                      have u433 : Hid (w426 275 81 = w 275 81) := Hid.mk (Eq.trans (by rw [← q428]; exact e_up_ne _ _ (Or.inl (by decide))) u412.out)
                      have u434 : Hid (w426 275 82 = w 275 82) := Hid.mk (Eq.trans (by rw [← q428]; exact e_up_ne _ _ (Or.inl (by decide))) u413.out)
                      have u435 : Hid (w426 275 83 = w408 275 83) := Hid.mk (by rw [← q428]; exact e_up_ne _ _ (Or.inl (by decide)))
                      have u436 : Hid (w426 275 84 = w408 275 84) := Hid.mk (by rw [← q428]; exact e_up_ne _ _ (Or.inl (by decide)))
                      have u437 : Hid (w426 275 85 = w408 275 85) := Hid.mk (by rw [← q428]; exact e_up_ne _ _ (Or.inl (by decide)))
                      have u438 : Hid (w426 275 86 = w408 275 86) := Hid.mk (by rw [← q428]; exact e_up_ne _ _ (Or.inl (by decide)))
                      have u439 : Hid (w426 275 87 = w408 275 87) := Hid.mk (by rw [← q428]; exact e_up_ne _ _ (Or.inl (by decide)))
                      have u440 : Hid (w426 275 88 = w408 275 88) := Hid.mk (by rw [← q428]; exact e_up_ne _ _ (Or.inl (by decide)))
                      have u441 : Hid (w426 275 94 = w408 275 94) := Hid.mk (by rw [← q428]; exact e_up_ne _ _ (Or.inl (by decide)))
                      have c442 := cSt.wr q410c q428 (Or.inl rfl) (by omega) rfl (fun y => absurd y (by decide))
                      have g443 : Hid (w408 275 88 = 0 → GB w426 N (w408 275 78) (w408 275 94) (w408 275 79) (w408 275 80) P (w 275 81) OW O) := Hid.mk (fun z => GB.patch (g418.out (by omega)) q428 (by omega) (Or.inr cf423.out) cf424.out)
                      show e_Ok 20 elay ecode eI (d + 1) 350 (100, [(2, (0, w222 275 78)), (1, (0, w70 275 78)), (0, (1, 275))], [], w426) _
                      refine e_Ok.run (t' := (111, [(2, (0, w222 275 78)), (1, (0, w70 275 78)), (0, (1, 275))], [(0, 2), (1, 275), (1, 275)], w426)) 4 rfl ?_
                      refine e_Ok.callV rfl (Nat.le_trans (by decide) hdq) rfl rfl rfl rfl (c_332 c442.1 (N := N) c442.2.2.2.1) (fun r450 w451 h452 => ?_)
                      obtain ⟨z453, rfl, rfl, q454⟩ := h452
                      obtain ⟨rfl, q454, q454b⟩ | ⟨rfl, q454n⟩ := q454
                      · show e_Ok 20 elay ecode eI (d + 1) 350 (114, [(2, (0, w222 275 78)), (1, (0, w70 275 78)), (0, (1, 275))], [(0, 1), (1, 275)], w426) _
                        rw [u436.out] at q454
                        rw [u437.out] at q454b
                        refine e_Ok.callV rfl (Nat.le_trans (by decide) hdq) rfl rfl rfl rfl (c_334 (Nat.le_trans (by decide) hdq) c442.1 c442.2.1 c442.2.2.1 hNr c442.2.2.2.1 (by decide)) (fun r455 w456 h457 => ?_)
                        obtain ⟨rfl, q458⟩ := h457
                        obtain ⟨rfl, q458z⟩ | ⟨q458z, q458b, q458, q458s, q458t⟩ | ⟨q458z, q458b, q458, q458T, q458H, q458r⟩ := q458
                        · show e_Ok 20 elay ecode eI (d + 1) 350 (117, [(2, (0, w222 275 78)), (1, (0, w70 275 78)), (0, (1, 275))], [], w426) _
                          rw [u440.out] at q458z
                          clear q4103
                          refine e_Ok.run (t' := (119, [(2, (0, w222 275 78)), (1, (0, w70 275 78)), (0, (1, 275))], [(1, 275), (1, 275)], w426)) 2 rfl ?_
                          refine e_Ok.getf (z := w408 275 83) rfl (el_o rfl) rfl rfl u435.out (by omega) ?_
                          refine e_Ok.run (t' := (123, [(2, (0, w222 275 78)), (1, (0, w70 275 78)), (0, (1, 275))], [(0, 1), (0, w408 275 83), (1, 275)], w426)) 1 rfl ?_
                          refine e_Ok.sub' (z := w408 275 83 - 1) rfl (by omega) (by omega) ?_
                          refine e_Ok.putf rfl (el_o rfl) rfl rfl ?_
                          generalize hw459 : e_up w426 275 83 (w408 275 83 - 1) = w459
                          have f460 : e_fr (mStm (w 275 78) (w 275 79) (w 275 80) (w 275 94)) w w459 := e_fr.up f429 hw459 (by unfold mStm; omega)
                          have e461 := up83 hw459
                          replace e461 := (show Hid _ from e461)
                          have u462 : Hid (w459 275 78 = w408 275 78) := Hid.mk (Eq.trans (e461.out.1 275 78 (by decide)) u430.out)
                          have u463 : Hid (w459 275 79 = w408 275 79) := Hid.mk (Eq.trans (e461.out.1 275 79 (by decide)) u431.out)
                          have u464 : Hid (w459 275 80 = w408 275 80) := Hid.mk (Eq.trans (e461.out.1 275 80 (by decide)) u432.out)
                          have u465 : Hid (w459 275 81 = w 275 81) := Hid.mk (Eq.trans (e461.out.1 275 81 (by decide)) u433.out)
                          have u466 : Hid (w459 275 82 = w 275 82) := Hid.mk (Eq.trans (e461.out.1 275 82 (by decide)) u434.out)
                          have u467 : Hid (w459 275 83 = w408 275 83 - 1) := Hid.mk (e461.out.2)
                          have u470 : Hid (w459 275 86 = w408 275 86) := Hid.mk (Eq.trans (e461.out.1 275 86 (by decide)) u438.out)
                          have u472 : Hid (w459 275 88 = w408 275 88) := Hid.mk (Eq.trans (e461.out.1 275 88 (by decide)) u440.out)
                          have u473 : Hid (w459 275 94 = w408 275 94) := Hid.mk (Eq.trans (e461.out.1 275 94 (by decide)) u441.out)
                          have c474 := cSt.up c442 hw459
                          refine e_Ok.rets rfl rfl ?_
                          exact ⟨rfl, f460, c474, (by unfold stL; rw [u462.out, u463.out, u464.out, u465.out, u466.out, u467.out, u470.out, u472.out, u473.out]; omega), (fun z => by rw [u472.out] at z; exact absurd z (by omega))⟩
                        · show e_Ok 20 elay ecode eI (d + 1) 350 (117, [(2, (0, w222 275 78)), (1, (0, w70 275 78)), (0, (1, 275))], [], w456) _
                          rw [u440.out] at q458z
                          rw [u439.out] at q458t
                          replace q4103 := q4103 (by omega)
                          have p475 := tkS.pos c442.2.2.2.1 (by rw [u436.out] <;> omega)
                          rw [u438.out, u439.out] at p475
                          have p476 := tkS.key c442.2.2.2.1 (by rw [u436.out] <;> omega)
                          rw [u438.out, u439.out, u437.out] at p476
                          have u477 : Hid (w456 275 78 = w408 275 78) := Hid.mk (Eq.trans (q458 275 78 (mTq_fld (by decide))) u430.out)
                          have u478 : Hid (w456 275 79 = w408 275 79) := Hid.mk (Eq.trans (q458 275 79 (mTq_fld (by decide))) u431.out)
                          have u479 : Hid (w456 275 80 = w408 275 80) := Hid.mk (Eq.trans (q458 275 80 (mTq_fld (by decide))) u432.out)
                          have u480 : Hid (w456 275 81 = w 275 81) := Hid.mk (Eq.trans (q458 275 81 (mTq_fld (by decide))) u433.out)
                          have u481 : Hid (w456 275 82 = w 275 82) := Hid.mk (Eq.trans (q458 275 82 (mTq_fld (by decide))) u434.out)
                          have u482 : Hid (w456 275 83 = w408 275 83) := Hid.mk (Eq.trans (q458 275 83 (mTq_fld (by decide))) u435.out)
                          have u483 : Hid (w456 275 88 = w408 275 88) := Hid.mk (Eq.trans (q458 275 88 (mTq_fld (by decide))) u440.out)
                          have u484 : Hid (w456 275 94 = w408 275 94) := Hid.mk (Eq.trans (q458 275 94 (mTq_fld (by decide))) u441.out)
                          have c485 := cSt.tk c442 q458 q458s
                          have t486 := tkS.lin c485.2.2.2.1
                          have f487 : e_fr (mStm (w 275 78) (w 275 79) (w 275 80) (w 275 94)) w w456 := e_fr.trans f429 (e_fr.mono q458 (fun c k g => mTq_St g))
                          have g488 : Hid (w408 275 88 = 0 → GB w456 N (w408 275 78) (w408 275 94) (w408 275 79) (w408 275 80) P (w 275 81) OW O) := Hid.mk (fun z => GB.pr (g443.out z) (prE.tk q458))
                          refine e_Ok.run (t' := (119, [(2, (0, w222 275 78)), (1, (0, w70 275 78)), (0, (1, 275))], [(1, 275), (1, 275)], w456)) 2 rfl ?_
                          refine e_Ok.getf (z := w408 275 83) rfl (el_o rfl) rfl rfl u482.out (by omega) ?_
                          refine e_Ok.run (t' := (123, [(2, (0, w222 275 78)), (1, (0, w70 275 78)), (0, (1, 275))], [(0, 1), (0, w408 275 83), (1, 275)], w456)) 1 rfl ?_
                          refine e_Ok.sub' (z := w408 275 83 - 1) rfl (by omega) (by omega) ?_
                          refine e_Ok.putf rfl (el_o rfl) rfl rfl ?_
                          generalize hw495 : e_up w456 275 83 (w408 275 83 - 1) = w495
                          have f496 : e_fr (mStm (w 275 78) (w 275 79) (w 275 80) (w 275 94)) w w495 := e_fr.up f487 hw495 (by unfold mStm; omega)
                          have e497 := up83 hw495
                          replace e497 := (show Hid _ from e497)
                          have u498 : Hid (w495 275 78 = w408 275 78) := Hid.mk (Eq.trans (e497.out.1 275 78 (by decide)) u477.out)
                          have u499 : Hid (w495 275 79 = w408 275 79) := Hid.mk (Eq.trans (e497.out.1 275 79 (by decide)) u478.out)
                          have u500 : Hid (w495 275 80 = w408 275 80) := Hid.mk (Eq.trans (e497.out.1 275 80 (by decide)) u479.out)
                          have u501 : Hid (w495 275 81 = w 275 81) := Hid.mk (Eq.trans (e497.out.1 275 81 (by decide)) u480.out)
                          have u502 : Hid (w495 275 82 = w 275 82) := Hid.mk (Eq.trans (e497.out.1 275 82 (by decide)) u481.out)
                          have u503 : Hid (w495 275 83 = w408 275 83 - 1) := Hid.mk (e497.out.2)
                          have u506 : Hid (w495 275 86 = w456 275 86) := Hid.mk (e497.out.1 275 86 (by decide))
                          have u508 : Hid (w495 275 88 = w408 275 88) := Hid.mk (Eq.trans (e497.out.1 275 88 (by decide)) u483.out)
                          have u509 : Hid (w495 275 94 = w408 275 94) := Hid.mk (Eq.trans (e497.out.1 275 94 (by decide)) u484.out)
                          have c510 := cSt.up c485 hw495
                          have g511 : Hid (w408 275 88 = 0 → GB w495 N (w408 275 78) (w408 275 94) (w408 275 79) (w408 275 80) P (w 275 81) OW O) := Hid.mk (fun z => GB.pr (g488.out z) (prE.up hw495))
                          refine e_Ok.rets rfl rfl ?_
                          exact ⟨rfl, f496, c510, (by unfold stL; rw [u498.out, u499.out, u500.out, u501.out, u502.out, u503.out, u506.out, u508.out, u509.out]; omega), (fun z => by rw [u508.out] at z; rw [u498.out, u509.out, u499.out, u500.out, u501.out]; exact (g511.out (by omega)))⟩
                        · exact absurd q458b (by decide)
                      · show e_Ok 20 elay ecode eI (d + 1) 350 (114, [(2, (0, w222 275 78)), (1, (0, w70 275 78)), (0, (1, 275))], [(0, 0), (1, 275)], w426) _
                        clear q454n
                        refine e_Ok.callV rfl (Nat.le_trans (by decide) hdq) rfl rfl rfl rfl (c_334 (Nat.le_trans (by decide) hdq) c442.1 c442.2.1 c442.2.2.1 hNr c442.2.2.2.1 (by decide)) (fun r518 w519 h520 => ?_)
                        obtain ⟨rfl, q521⟩ := h520
                        obtain ⟨rfl, q521z⟩ | ⟨q521z, q521b, q521, q521s, q521t⟩ | ⟨q521z, q521b, q521, q521T, q521H, q521r⟩ := q521
                        · show e_Ok 20 elay ecode eI (d + 1) 350 (117, [(2, (0, w222 275 78)), (1, (0, w70 275 78)), (0, (1, 275))], [], w426) _
                          rw [u440.out] at q521z
                          clear q4103
                          refine e_Ok.run (t' := (119, [(2, (0, w222 275 78)), (1, (0, w70 275 78)), (0, (1, 275))], [(1, 275), (1, 275)], w426)) 2 rfl ?_
                          refine e_Ok.getf (z := w408 275 83) rfl (el_o rfl) rfl rfl u435.out (by omega) ?_
                          refine e_Ok.run (t' := (123, [(2, (0, w222 275 78)), (1, (0, w70 275 78)), (0, (1, 275))], [(0, 1), (0, w408 275 83), (1, 275)], w426)) 1 rfl ?_
                          refine e_Ok.sub' (z := w408 275 83 - 1) rfl (by omega) (by omega) ?_
                          refine e_Ok.putf rfl (el_o rfl) rfl rfl ?_
                          generalize hw522 : e_up w426 275 83 (w408 275 83 - 1) = w522
                          have f523 : e_fr (mStm (w 275 78) (w 275 79) (w 275 80) (w 275 94)) w w522 := e_fr.up f429 hw522 (by unfold mStm; omega)
                          have e524 := up83 hw522
                          replace e524 := (show Hid _ from e524)
                          have u525 : Hid (w522 275 78 = w408 275 78) := Hid.mk (Eq.trans (e524.out.1 275 78 (by decide)) u430.out)
                          have u526 : Hid (w522 275 79 = w408 275 79) := Hid.mk (Eq.trans (e524.out.1 275 79 (by decide)) u431.out)
                          have u527 : Hid (w522 275 80 = w408 275 80) := Hid.mk (Eq.trans (e524.out.1 275 80 (by decide)) u432.out)
                          have u528 : Hid (w522 275 81 = w 275 81) := Hid.mk (Eq.trans (e524.out.1 275 81 (by decide)) u433.out)
                          have u529 : Hid (w522 275 82 = w 275 82) := Hid.mk (Eq.trans (e524.out.1 275 82 (by decide)) u434.out)
                          have u530 : Hid (w522 275 83 = w408 275 83 - 1) := Hid.mk (e524.out.2)
                          have u533 : Hid (w522 275 86 = w408 275 86) := Hid.mk (Eq.trans (e524.out.1 275 86 (by decide)) u438.out)
                          have u535 : Hid (w522 275 88 = w408 275 88) := Hid.mk (Eq.trans (e524.out.1 275 88 (by decide)) u440.out)
                          have u536 : Hid (w522 275 94 = w408 275 94) := Hid.mk (Eq.trans (e524.out.1 275 94 (by decide)) u441.out)
                          have c537 := cSt.up c442 hw522
                          refine e_Ok.rets rfl rfl ?_
                          exact ⟨rfl, f523, c537, (by unfold stL; rw [u525.out, u526.out, u527.out, u528.out, u529.out, u530.out, u533.out, u535.out, u536.out]; omega), (fun z => by rw [u535.out] at z; exact absurd z (by omega))⟩
                        · exact absurd q521b (by decide)
                        · show e_Ok 20 elay ecode eI (d + 1) 350 (117, [(2, (0, w222 275 78)), (1, (0, w70 275 78)), (0, (1, 275))], [], w519) _
                          rw [u440.out] at q521z
                          replace q4103 := q4103 (by omega)
                          have u538 : Hid (w519 275 78 = w408 275 78) := Hid.mk (Eq.trans (q521 275 78 (mRf_fld (by decide))) u430.out)
                          have u539 : Hid (w519 275 79 = w408 275 79) := Hid.mk (Eq.trans (q521 275 79 (mRf_fld (by decide))) u431.out)
                          have u540 : Hid (w519 275 80 = w408 275 80) := Hid.mk (Eq.trans (q521 275 80 (mRf_fld (by decide))) u432.out)
                          have u541 : Hid (w519 275 81 = w 275 81) := Hid.mk (Eq.trans (q521 275 81 (mRf_fld (by decide))) u433.out)
                          have u542 : Hid (w519 275 82 = w 275 82) := Hid.mk (Eq.trans (q521 275 82 (mRf_fld (by decide))) u434.out)
                          have u543 : Hid (w519 275 83 = w408 275 83) := Hid.mk (Eq.trans (q521 275 83 (mRf_fld (by decide))) u435.out)
                          have u546 : Hid (w519 275 86 = w408 275 86) := Hid.mk (Eq.trans (q521 275 86 (mRf_fld (by decide))) u438.out)
                          have u548 : Hid (w519 275 94 = w408 275 94) := Hid.mk (Eq.trans (q521 275 94 (mRf_fld (by decide))) u441.out)
                          have c549 := cSt.rf c442 q521 q521T q521H
                          have f550 : e_fr (mStm (w 275 78) (w 275 79) (w 275 80) (w 275 94)) w w519 := e_fr.trans f429 (e_fr.mono q521 (fun c k g => mRf_St g))
                          refine e_Ok.run (t' := (119, [(2, (0, w222 275 78)), (1, (0, w70 275 78)), (0, (1, 275))], [(1, 275), (1, 275)], w519)) 2 rfl ?_
                          refine e_Ok.getf (z := w408 275 83) rfl (el_o rfl) rfl rfl u543.out (by omega) ?_
                          refine e_Ok.run (t' := (123, [(2, (0, w222 275 78)), (1, (0, w70 275 78)), (0, (1, 275))], [(0, 1), (0, w408 275 83), (1, 275)], w519)) 1 rfl ?_
                          refine e_Ok.sub' (z := w408 275 83 - 1) rfl (by omega) (by omega) ?_
                          refine e_Ok.putf rfl (el_o rfl) rfl rfl ?_
                          generalize hw551 : e_up w519 275 83 (w408 275 83 - 1) = w551
                          have f552 : e_fr (mStm (w 275 78) (w 275 79) (w 275 80) (w 275 94)) w w551 := e_fr.up f550 hw551 (by unfold mStm; omega)
                          have e553 := up83 hw551
                          replace e553 := (show Hid _ from e553)
                          have u554 : Hid (w551 275 78 = w408 275 78) := Hid.mk (Eq.trans (e553.out.1 275 78 (by decide)) u538.out)
                          have u555 : Hid (w551 275 79 = w408 275 79) := Hid.mk (Eq.trans (e553.out.1 275 79 (by decide)) u539.out)
                          have u556 : Hid (w551 275 80 = w408 275 80) := Hid.mk (Eq.trans (e553.out.1 275 80 (by decide)) u540.out)
                          have u557 : Hid (w551 275 81 = w 275 81) := Hid.mk (Eq.trans (e553.out.1 275 81 (by decide)) u541.out)
                          have u558 : Hid (w551 275 82 = w 275 82) := Hid.mk (Eq.trans (e553.out.1 275 82 (by decide)) u542.out)
                          have u559 : Hid (w551 275 83 = w408 275 83 - 1) := Hid.mk (e553.out.2)
                          have u562 : Hid (w551 275 86 = w408 275 86) := Hid.mk (Eq.trans (e553.out.1 275 86 (by decide)) u546.out)
                          have u564 : Hid (w551 275 88 = w519 275 88) := Hid.mk (e553.out.1 275 88 (by decide))
                          have u565 : Hid (w551 275 94 = w408 275 94) := Hid.mk (Eq.trans (e553.out.1 275 94 (by decide)) u548.out)
                          have c566 := cSt.up c549 hw551
                          refine e_Ok.rets rfl rfl ?_
                          exact ⟨rfl, f552, c566, (by unfold stL; rw [u554.out, u555.out, u556.out, u557.out, u558.out, u559.out, u562.out, u564.out, u565.out]; omega), (fun z => by rw [u564.out] at z; exact absurd z (by omega))⟩
                    · exact absurd q339b (by decide)
                  · show e_Ok 20 elay ecode eI (d + 1) 350 (75, [(1, (0, w70 275 78)), (0, (1, 275))], [(0, 0), (1, 275)], w307) _
                    clear q334n
                    refine e_Ok.callV rfl (Nat.le_trans (by decide) hdq) rfl rfl rfl rfl (c_334 (Nat.le_trans (by decide) hdq) c320.1 c320.2.1 c320.2.2.1 hNr c320.2.2.2.1 (by decide)) (fun r567 w568 h569 => ?_)
                    obtain ⟨rfl, q570⟩ := h569
                    obtain ⟨rfl, q570z⟩ | ⟨q570z, q570b, q570, q570s, q570t⟩ | ⟨q570z, q570b, q570, q570T, q570H, q570r⟩ := q570
                    · rw [u318.out] at q570z; exact absurd q570z (by omega)
                    · exact absurd q570b (by decide)
                    · show e_Ok 20 elay ecode eI (d + 1) 350 (78, [(1, (0, w70 275 78)), (0, (1, 275))], [], w568) _
                      rw [u318.out] at q570z
                      have u571 : Hid (w568 275 78 = w222 275 78) := Hid.mk (Eq.trans (q570 275 78 (mRf_fld (by decide))) u312.out)
                      have u572 : Hid (w568 275 79 = w222 275 79) := Hid.mk (Eq.trans (q570 275 79 (mRf_fld (by decide))) u313.out)
                      have u573 : Hid (w568 275 80 = w222 275 80) := Hid.mk (Eq.trans (q570 275 80 (mRf_fld (by decide))) u314.out)
                      have u574 : Hid (w568 275 81 = w 275 81) := Hid.mk (Eq.trans (q570 275 81 (mRf_fld (by decide))) u315.out)
                      have u575 : Hid (w568 275 82 = w 275 82) := Hid.mk (Eq.trans (q570 275 82 (mRf_fld (by decide))) u316.out)
                      have u576 : Hid (w568 275 83 = w222 275 83) := Hid.mk (Eq.trans (q570 275 83 (mRf_fld (by decide))) u317.out)
                      have u577 : Hid (w568 275 84 = w307 275 84) := Hid.mk (q570 275 84 (mRf_fld (by decide)))
                      have u578 : Hid (w568 275 85 = w307 275 85) := Hid.mk (q570 275 85 (mRf_fld (by decide)))
                      have u579 : Hid (w568 275 86 = w307 275 86) := Hid.mk (q570 275 86 (mRf_fld (by decide)))
                      have u581 : Hid (w568 275 94 = w222 275 94) := Hid.mk (Eq.trans (q570 275 94 (mRf_fld (by decide))) u319.out)
                      have c582 := cSt.rf c320 q570 q570T q570H
                      have f583 : e_fr (mStm (w 275 78) (w 275 79) (w 275 80) (w 275 94)) w w568 := e_fr.trans f322 (e_fr.mono q570 (fun c k g => mRf_St g))
                      refine e_Ok.run (t' := (82, [(1, (0, w70 275 78)), (0, (1, 275))], [(0, 0), (0, 48), (1, 275)], w568)) 3 rfl ?_
                      refine e_Ok.callV rfl (Nat.le_trans (by decide) hdq) rfl rfl rfl rfl (c_336 c582.1 (n := w222 275 78) u571.out (by omega) (s := w 275 81) u574.out (by omega)) (fun r584 w585 h586 => ?_)
                      obtain ⟨rfl, q587⟩ := h586
                      replace q587 := (show Hid (EM w568 w585 (w222 275 78) 48 (0) (w 275 81)) from q587)
                      have u588 : Hid (w585 275 78 = w222 275 78 + 1) := Hid.mk (Eq.trans q587.out.2.2.2.2 (by omega))
                      have u589 : Hid (w585 275 79 = w222 275 79) := Hid.mk (Eq.trans (q587.out.fld (by decide)) u572.out)
                      have u590 : Hid (w585 275 80 = w222 275 80) := Hid.mk (Eq.trans (q587.out.fld (by decide)) u573.out)
                      have u591 : Hid (w585 275 81 = w 275 81) := Hid.mk (Eq.trans (q587.out.fld (by decide)) u574.out)
                      have u592 : Hid (w585 275 82 = w 275 82) := Hid.mk (Eq.trans (q587.out.fld (by decide)) u575.out)
                      have u593 : Hid (w585 275 83 = w222 275 83) := Hid.mk (Eq.trans (q587.out.fld (by decide)) u576.out)
                      have u594 : Hid (w585 275 84 = w307 275 84) := Hid.mk (Eq.trans (q587.out.fld (by decide)) u577.out)
                      have u595 : Hid (w585 275 85 = w307 275 85) := Hid.mk (Eq.trans (q587.out.fld (by decide)) u578.out)
                      have u596 : Hid (w585 275 86 = w307 275 86) := Hid.mk (Eq.trans (q587.out.fld (by decide)) u579.out)
                      have u598 : Hid (w585 275 88 = w568 275 88) := Hid.mk (q587.out.fld (by decide))
                      have u599 : Hid (w585 275 94 = w222 275 94) := Hid.mk (Eq.trans (q587.out.fld (by decide)) u581.out)
                      have f600 : e_fr (mStm (w 275 78) (w 275 79) (w 275 80) (w 275 94)) w w585 := e_fr.trans f583 (q587.out.st (by omega))
                      have c601 := cSt.em c582 q587.out (by decide) (by omega) (by omega)
                      show e_Ok 20 elay ecode eI (d + 1) 350 (85, [(1, (0, w70 275 78)), (0, (1, 275))], [(0, w222 275 78)], w585) _
                      refine e_Ok.run (t' := (88, [(2, (0, w222 275 78)), (1, (0, w70 275 78)), (0, (1, 275))], [(0, w70 275 78), (1, 275)], w585)) 3 rfl ?_
                      refine e_Ok.callV rfl (Nat.le_trans (by decide) hdq) rfl rfl rfl rfl (c_337 c601.1 (n := w222 275 78 + 1) u588.out (by omega) (by omega)) (fun r602 w603 h604 => ?_)
                      obtain ⟨rfl, q605⟩ := h604
                      have f606 : e_fr (mStm (w 275 78) (w 275 79) (w 275 80) (w 275 94)) w w603 := e_fr.up f600 q605 (by unfold mStm; omega)
                      have u607 : Hid (w603 275 78 = w222 275 78 + 1) := Hid.mk (Eq.trans (by rw [← q605]; exact e_up_ne _ _ (Or.inl (by decide))) u588.out)
                      have u608 : Hid (w603 275 79 = w222 275 79) := Hid.mk (Eq.trans (by rw [← q605]; exact e_up_ne _ _ (Or.inl (by decide))) u589.out)
                      have u609 : Hid (w603 275 80 = w222 275 80) := Hid.mk (Eq.trans (by rw [← q605]; exact e_up_ne _ _ (Or.inl (by decide))) u590.out)
                      have u610 : Hid (w603 275 81 = w 275 81) := Hid.mk (Eq.trans (by rw [← q605]; exact e_up_ne _ _ (Or.inl (by decide))) u591.out)
                      have u611 : Hid (w603 275 82 = w 275 82) := Hid.mk (Eq.trans (by rw [← q605]; exact e_up_ne _ _ (Or.inl (by decide))) u592.out)
                      have u612 : Hid (w603 275 83 = w222 275 83) := Hid.mk (Eq.trans (by rw [← q605]; exact e_up_ne _ _ (Or.inl (by decide))) u593.out)
                      have u613 : Hid (w603 275 84 = w307 275 84) := Hid.mk (Eq.trans (by rw [← q605]; exact e_up_ne _ _ (Or.inl (by decide))) u594.out)
                      have u614 : Hid (w603 275 85 = w307 275 85) := Hid.mk (Eq.trans (by rw [← q605]; exact e_up_ne _ _ (Or.inl (by decide))) u595.out)
                      have u615 : Hid (w603 275 86 = w307 275 86) := Hid.mk (Eq.trans (by rw [← q605]; exact e_up_ne _ _ (Or.inl (by decide))) u596.out)
                      have u617 : Hid (w603 275 88 = w568 275 88) := Hid.mk (Eq.trans (by rw [← q605]; exact e_up_ne _ _ (Or.inl (by decide))) u598.out)
                      have u618 : Hid (w603 275 94 = w222 275 94) := Hid.mk (Eq.trans (by rw [← q605]; exact e_up_ne _ _ (Or.inl (by decide))) u599.out)
                      have c619 := cSt.wr c601 q605 (Or.inl rfl) (by omega) rfl (fun y => absurd y (by decide))
                      show e_Ok 20 elay ecode eI (d + 1) 350 (91, [(2, (0, w222 275 78)), (1, (0, w70 275 78)), (0, (1, 275))], [], w603) _
                      refine e_Ok.run (t' := (92, [(2, (0, w222 275 78)), (1, (0, w70 275 78)), (0, (1, 275))], [(1, 275)], w603)) 1 rfl ?_
                      refine e_Ok.callV rfl (Nat.le_trans (by decide) hdq) rfl rfl rfl rfl (c_348_0 (Nat.le_trans (by decide) hdq) c619 (by rw [u617.out] <;> omega)) (fun r620 w621 h622 => ?_)
                      obtain ⟨rfl, rfl⟩ := h622
                      show e_Ok 20 elay ecode eI (d + 1) 350 (95, [(2, (0, w222 275 78)), (1, (0, w70 275 78)), (0, (1, 275))], [], w603) _
                      refine e_Ok.run (t' := (97, [(2, (0, w222 275 78)), (1, (0, w70 275 78)), (0, (1, 275))], [(0, w222 275 78), (1, 275)], w603)) 2 rfl ?_
                      refine e_Ok.callV rfl (Nat.le_trans (by decide) hdq) rfl rfl rfl rfl (c_337 c619.1 (n := w222 275 78 + 1) u607.out (by omega) (by omega)) (fun r623 w624 h625 => ?_)
                      obtain ⟨rfl, q626⟩ := h625
                      have f627 : e_fr (mStm (w 275 78) (w 275 79) (w 275 80) (w 275 94)) w w624 := e_fr.up f606 q626 (by unfold mStm; omega)
                      have u628 : Hid (w624 275 78 = w222 275 78 + 1) := Hid.mk (Eq.trans (by rw [← q626]; exact e_up_ne _ _ (Or.inl (by decide))) u607.out)
                      have u629 : Hid (w624 275 79 = w222 275 79) := Hid.mk (Eq.trans (by rw [← q626]; exact e_up_ne _ _ (Or.inl (by decide))) u608.out)
                      have u630 : Hid (w624 275 80 = w222 275 80) := Hid.mk (Eq.trans (by rw [← q626]; exact e_up_ne _ _ (Or.inl (by decide))) u609.out)
                      have u631 : Hid (w624 275 81 = w 275 81) := Hid.mk (Eq.trans (by rw [← q626]; exact e_up_ne _ _ (Or.inl (by decide))) u610.out)
                      have u632 : Hid (w624 275 82 = w 275 82) := Hid.mk (Eq.trans (by rw [← q626]; exact e_up_ne _ _ (Or.inl (by decide))) u611.out)
                      have u633 : Hid (w624 275 83 = w222 275 83) := Hid.mk (Eq.trans (by rw [← q626]; exact e_up_ne _ _ (Or.inl (by decide))) u612.out)
                      have u634 : Hid (w624 275 84 = w307 275 84) := Hid.mk (Eq.trans (by rw [← q626]; exact e_up_ne _ _ (Or.inl (by decide))) u613.out)
                      have u635 : Hid (w624 275 85 = w307 275 85) := Hid.mk (Eq.trans (by rw [← q626]; exact e_up_ne _ _ (Or.inl (by decide))) u614.out)
                      have u636 : Hid (w624 275 86 = w307 275 86) := Hid.mk (Eq.trans (by rw [← q626]; exact e_up_ne _ _ (Or.inl (by decide))) u615.out)
                      have u638 : Hid (w624 275 88 = w568 275 88) := Hid.mk (Eq.trans (by rw [← q626]; exact e_up_ne _ _ (Or.inl (by decide))) u617.out)
                      have u639 : Hid (w624 275 94 = w222 275 94) := Hid.mk (Eq.trans (by rw [← q626]; exact e_up_ne _ _ (Or.inl (by decide))) u618.out)
                      have c640 := cSt.wr c619 q626 (Or.inl rfl) (by omega) rfl (fun y => absurd y (by decide))
                      show e_Ok 20 elay ecode eI (d + 1) 350 (100, [(2, (0, w222 275 78)), (1, (0, w70 275 78)), (0, (1, 275))], [], w624) _
                      refine e_Ok.run (t' := (111, [(2, (0, w222 275 78)), (1, (0, w70 275 78)), (0, (1, 275))], [(0, 2), (1, 275), (1, 275)], w624)) 4 rfl ?_
                      refine e_Ok.callV rfl (Nat.le_trans (by decide) hdq) rfl rfl rfl rfl (c_332 c640.1 (N := N) c640.2.2.2.1) (fun r641 w642 h643 => ?_)
                      obtain ⟨z644, rfl, rfl, q645⟩ := h643
                      obtain ⟨rfl, q645, q645b⟩ | ⟨rfl, q645n⟩ := q645
                      · show e_Ok 20 elay ecode eI (d + 1) 350 (114, [(2, (0, w222 275 78)), (1, (0, w70 275 78)), (0, (1, 275))], [(0, 1), (1, 275)], w624) _
                        rw [u634.out] at q645
                        rw [u635.out] at q645b
                        refine e_Ok.callV rfl (Nat.le_trans (by decide) hdq) rfl rfl rfl rfl (c_334 (Nat.le_trans (by decide) hdq) c640.1 c640.2.1 c640.2.2.1 hNr c640.2.2.2.1 (by decide)) (fun r646 w647 h648 => ?_)
                        obtain ⟨rfl, q649⟩ := h648
                        obtain ⟨rfl, q649z⟩ | ⟨q649z, q649b, q649, q649s, q649t⟩ | ⟨q649z, q649b, q649, q649T, q649H, q649r⟩ := q649
                        · show e_Ok 20 elay ecode eI (d + 1) 350 (117, [(2, (0, w222 275 78)), (1, (0, w70 275 78)), (0, (1, 275))], [], w624) _
                          rw [u638.out] at q649z
                          refine e_Ok.run (t' := (119, [(2, (0, w222 275 78)), (1, (0, w70 275 78)), (0, (1, 275))], [(1, 275), (1, 275)], w624)) 2 rfl ?_
                          refine e_Ok.getf (z := w222 275 83) rfl (el_o rfl) rfl rfl u633.out (by omega) ?_
                          refine e_Ok.run (t' := (123, [(2, (0, w222 275 78)), (1, (0, w70 275 78)), (0, (1, 275))], [(0, 1), (0, w222 275 83), (1, 275)], w624)) 1 rfl ?_
                          refine e_Ok.sub' (z := w222 275 83 - 1) rfl (by omega) (by omega) ?_
                          refine e_Ok.putf rfl (el_o rfl) rfl rfl ?_
                          generalize hw650 : e_up w624 275 83 (w222 275 83 - 1) = w650
                          have f651 : e_fr (mStm (w 275 78) (w 275 79) (w 275 80) (w 275 94)) w w650 := e_fr.up f627 hw650 (by unfold mStm; omega)
                          have e652 := up83 hw650
                          replace e652 := (show Hid _ from e652)
                          have u653 : Hid (w650 275 78 = w222 275 78 + 1) := Hid.mk (Eq.trans (e652.out.1 275 78 (by decide)) u628.out)
                          have u654 : Hid (w650 275 79 = w222 275 79) := Hid.mk (Eq.trans (e652.out.1 275 79 (by decide)) u629.out)
                          have u655 : Hid (w650 275 80 = w222 275 80) := Hid.mk (Eq.trans (e652.out.1 275 80 (by decide)) u630.out)
                          have u656 : Hid (w650 275 81 = w 275 81) := Hid.mk (Eq.trans (e652.out.1 275 81 (by decide)) u631.out)
                          have u657 : Hid (w650 275 82 = w 275 82) := Hid.mk (Eq.trans (e652.out.1 275 82 (by decide)) u632.out)
                          have u658 : Hid (w650 275 83 = w222 275 83 - 1) := Hid.mk (e652.out.2)
                          have u661 : Hid (w650 275 86 = w307 275 86) := Hid.mk (Eq.trans (e652.out.1 275 86 (by decide)) u636.out)
                          have u663 : Hid (w650 275 88 = w568 275 88) := Hid.mk (Eq.trans (e652.out.1 275 88 (by decide)) u638.out)
                          have u664 : Hid (w650 275 94 = w222 275 94) := Hid.mk (Eq.trans (e652.out.1 275 94 (by decide)) u639.out)
                          have c665 := cSt.up c640 hw650
                          refine e_Ok.rets rfl rfl ?_
                          exact ⟨rfl, f651, c665, (by unfold stL; rw [u653.out, u654.out, u655.out, u656.out, u657.out, u658.out, u661.out, u663.out, u664.out]; omega), (fun z => by rw [u663.out] at z; exact absurd z (by omega))⟩
                        · rw [u638.out] at q649z; exact absurd q649z (by omega)
                        · rw [u638.out] at q649z; exact absurd q649z (by omega)
                      · show e_Ok 20 elay ecode eI (d + 1) 350 (114, [(2, (0, w222 275 78)), (1, (0, w70 275 78)), (0, (1, 275))], [(0, 0), (1, 275)], w624) _
                        clear q645n
                        refine e_Ok.callV rfl (Nat.le_trans (by decide) hdq) rfl rfl rfl rfl (c_334 (Nat.le_trans (by decide) hdq) c640.1 c640.2.1 c640.2.2.1 hNr c640.2.2.2.1 (by decide)) (fun r666 w667 h668 => ?_)
                        obtain ⟨rfl, q669⟩ := h668
                        obtain ⟨rfl, q669z⟩ | ⟨q669z, q669b, q669, q669s, q669t⟩ | ⟨q669z, q669b, q669, q669T, q669H, q669r⟩ := q669
                        · show e_Ok 20 elay ecode eI (d + 1) 350 (117, [(2, (0, w222 275 78)), (1, (0, w70 275 78)), (0, (1, 275))], [], w624) _
                          rw [u638.out] at q669z
                          refine e_Ok.run (t' := (119, [(2, (0, w222 275 78)), (1, (0, w70 275 78)), (0, (1, 275))], [(1, 275), (1, 275)], w624)) 2 rfl ?_
                          refine e_Ok.getf (z := w222 275 83) rfl (el_o rfl) rfl rfl u633.out (by omega) ?_
                          refine e_Ok.run (t' := (123, [(2, (0, w222 275 78)), (1, (0, w70 275 78)), (0, (1, 275))], [(0, 1), (0, w222 275 83), (1, 275)], w624)) 1 rfl ?_
                          refine e_Ok.sub' (z := w222 275 83 - 1) rfl (by omega) (by omega) ?_
                          refine e_Ok.putf rfl (el_o rfl) rfl rfl ?_
                          generalize hw670 : e_up w624 275 83 (w222 275 83 - 1) = w670
                          have f671 : e_fr (mStm (w 275 78) (w 275 79) (w 275 80) (w 275 94)) w w670 := e_fr.up f627 hw670 (by unfold mStm; omega)
                          have e672 := up83 hw670
                          replace e672 := (show Hid _ from e672)
                          have u673 : Hid (w670 275 78 = w222 275 78 + 1) := Hid.mk (Eq.trans (e672.out.1 275 78 (by decide)) u628.out)
                          have u674 : Hid (w670 275 79 = w222 275 79) := Hid.mk (Eq.trans (e672.out.1 275 79 (by decide)) u629.out)
                          have u675 : Hid (w670 275 80 = w222 275 80) := Hid.mk (Eq.trans (e672.out.1 275 80 (by decide)) u630.out)
                          have u676 : Hid (w670 275 81 = w 275 81) := Hid.mk (Eq.trans (e672.out.1 275 81 (by decide)) u631.out)
                          have u677 : Hid (w670 275 82 = w 275 82) := Hid.mk (Eq.trans (e672.out.1 275 82 (by decide)) u632.out)
                          have u678 : Hid (w670 275 83 = w222 275 83 - 1) := Hid.mk (e672.out.2)
                          have u681 : Hid (w670 275 86 = w307 275 86) := Hid.mk (Eq.trans (e672.out.1 275 86 (by decide)) u636.out)
                          have u683 : Hid (w670 275 88 = w568 275 88) := Hid.mk (Eq.trans (e672.out.1 275 88 (by decide)) u638.out)
                          have u684 : Hid (w670 275 94 = w222 275 94) := Hid.mk (Eq.trans (e672.out.1 275 94 (by decide)) u639.out)
                          have c685 := cSt.up c640 hw670
                          refine e_Ok.rets rfl rfl ?_
                          exact ⟨rfl, f671, c685, (by unfold stL; rw [u673.out, u674.out, u675.out, u676.out, u677.out, u678.out, u681.out, u683.out, u684.out]; omega), (fun z => by rw [u683.out] at z; exact absurd z (by omega))⟩
                        · rw [u638.out] at q669z; exact absurd q669z (by omega)
                        · rw [u638.out] at q669z; exact absurd q669z (by omega)
              · show e_Ok 20 elay ecode eI (d + 1) 350 (61, [(1, (0, w70 275 78)), (0, (1, 275))], [(0, 0)], w222) _
                clear q304n
                refine e_Ok.if1 rfl (fun h686 => ?_) (fun h686 => ?_)
                · replace h686 : (0 : Int) = 0 := h686
                  refine e_Ok.run (t' := (105, [(1, (0, w70 275 78)), (0, (1, 275))], [(0, w70 275 78), (1, 275)], w222)) 2 rfl ?_
                  refine e_Ok.callV rfl (Nat.le_trans (by decide) hdq) rfl rfl rfl rfl (c_337 q224c.1 (n := w222 275 78) rfl (by omega) (by omega)) (fun r687 w688 h689 => ?_)
                  obtain ⟨rfl, q690⟩ := h689
                  have f691 : e_fr (mStm (w 275 78) (w 275 79) (w 275 80) (w 275 94)) w w688 := e_fr.up f230 q690 (by unfold mStm; omega)
                  have u692 : Hid (w688 275 78 = w222 275 78) := Hid.mk (by rw [← q690]; exact e_up_ne _ _ (Or.inl (by decide)))
                  have u693 : Hid (w688 275 79 = w222 275 79) := Hid.mk (by rw [← q690]; exact e_up_ne _ _ (Or.inl (by decide)))
                  have u694 : Hid (w688 275 80 = w222 275 80) := Hid.mk (by rw [← q690]; exact e_up_ne _ _ (Or.inl (by decide)))
                  have u695 : Hid (w688 275 81 = w 275 81) := Hid.mk (Eq.trans (by rw [← q690]; exact e_up_ne _ _ (Or.inl (by decide))) u226.out)
                  have u696 : Hid (w688 275 82 = w 275 82) := Hid.mk (Eq.trans (by rw [← q690]; exact e_up_ne _ _ (Or.inl (by decide))) u227.out)
                  have u697 : Hid (w688 275 83 = w222 275 83) := Hid.mk (by rw [← q690]; exact e_up_ne _ _ (Or.inl (by decide)))
                  have u698 : Hid (w688 275 84 = w222 275 84) := Hid.mk (by rw [← q690]; exact e_up_ne _ _ (Or.inl (by decide)))
                  have u699 : Hid (w688 275 85 = w222 275 85) := Hid.mk (by rw [← q690]; exact e_up_ne _ _ (Or.inl (by decide)))
                  have u700 : Hid (w688 275 86 = w222 275 86) := Hid.mk (by rw [← q690]; exact e_up_ne _ _ (Or.inl (by decide)))
                  have u701 : Hid (w688 275 87 = w222 275 87) := Hid.mk (by rw [← q690]; exact e_up_ne _ _ (Or.inl (by decide)))
                  have u702 : Hid (w688 275 88 = w222 275 88) := Hid.mk (by rw [← q690]; exact e_up_ne _ _ (Or.inl (by decide)))
                  have u703 : Hid (w688 275 94 = w222 275 94) := Hid.mk (by rw [← q690]; exact e_up_ne _ _ (Or.inl (by decide)))
                  have c704 := cSt.wr q224c q690 (Or.inl rfl) (by omega) rfl (fun y => absurd y (by decide))
                  have g705 : Hid (w222 275 88 = 0 → GB w688 N (w222 275 78) (w222 275 94) (w222 275 79) (w222 275 80) P (w 275 81) OW O) := Hid.mk (fun z => GB.patch (g231.out (by omega)) q690 (by omega) (Or.inl cf234.out) cf235.out)
                  show e_Ok 20 elay ecode eI (d + 1) 350 (108, [(1, (0, w70 275 78)), (0, (1, 275))], [], w688) _
                  refine e_Ok.run (t' := (111, [(1, (0, w70 275 78)), (0, (1, 275))], [(0, 2), (1, 275), (1, 275)], w688)) 3 rfl ?_
                  refine e_Ok.callV rfl (Nat.le_trans (by decide) hdq) rfl rfl rfl rfl (c_332 c704.1 (N := N) c704.2.2.2.1) (fun r710 w711 h712 => ?_)
                  obtain ⟨z713, rfl, rfl, q714⟩ := h712
                  obtain ⟨rfl, q714, q714b⟩ | ⟨rfl, q714n⟩ := q714
                  · show e_Ok 20 elay ecode eI (d + 1) 350 (114, [(1, (0, w70 275 78)), (0, (1, 275))], [(0, 1), (1, 275)], w688) _
                    rw [u698.out] at q714
                    rw [u699.out] at q714b
                    refine e_Ok.callV rfl (Nat.le_trans (by decide) hdq) rfl rfl rfl rfl (c_334 (Nat.le_trans (by decide) hdq) c704.1 c704.2.1 c704.2.2.1 hNr c704.2.2.2.1 (by decide)) (fun r715 w716 h717 => ?_)
                    obtain ⟨rfl, q718⟩ := h717
                    obtain ⟨rfl, q718z⟩ | ⟨q718z, q718b, q718, q718s, q718t⟩ | ⟨q718z, q718b, q718, q718T, q718H, q718r⟩ := q718
                    · rw [u702.out] at q718z; exact absurd q718z (by omega)
                    · show e_Ok 20 elay ecode eI (d + 1) 350 (117, [(1, (0, w70 275 78)), (0, (1, 275))], [], w716) _
                      rw [u702.out] at q718z
                      rw [u701.out] at q718t
                      have p719 := tkS.pos c704.2.2.2.1 (by rw [u698.out] <;> omega)
                      rw [u700.out, u701.out] at p719
                      have p720 := tkS.key c704.2.2.2.1 (by rw [u698.out] <;> omega)
                      rw [u700.out, u701.out, u699.out] at p720
                      have u721 : Hid (w716 275 78 = w222 275 78) := Hid.mk (Eq.trans (q718 275 78 (mTq_fld (by decide))) u692.out)
                      have u722 : Hid (w716 275 79 = w222 275 79) := Hid.mk (Eq.trans (q718 275 79 (mTq_fld (by decide))) u693.out)
                      have u723 : Hid (w716 275 80 = w222 275 80) := Hid.mk (Eq.trans (q718 275 80 (mTq_fld (by decide))) u694.out)
                      have u724 : Hid (w716 275 81 = w 275 81) := Hid.mk (Eq.trans (q718 275 81 (mTq_fld (by decide))) u695.out)
                      have u725 : Hid (w716 275 82 = w 275 82) := Hid.mk (Eq.trans (q718 275 82 (mTq_fld (by decide))) u696.out)
                      have u726 : Hid (w716 275 83 = w222 275 83) := Hid.mk (Eq.trans (q718 275 83 (mTq_fld (by decide))) u697.out)
                      have u727 : Hid (w716 275 88 = w222 275 88) := Hid.mk (Eq.trans (q718 275 88 (mTq_fld (by decide))) u702.out)
                      have u728 : Hid (w716 275 94 = w222 275 94) := Hid.mk (Eq.trans (q718 275 94 (mTq_fld (by decide))) u703.out)
                      have c729 := cSt.tk c704 q718 q718s
                      have t730 := tkS.lin c729.2.2.2.1
                      have f731 : e_fr (mStm (w 275 78) (w 275 79) (w 275 80) (w 275 94)) w w716 := e_fr.trans f691 (e_fr.mono q718 (fun c k g => mTq_St g))
                      have g732 : Hid (w222 275 88 = 0 → GB w716 N (w222 275 78) (w222 275 94) (w222 275 79) (w222 275 80) P (w 275 81) OW O) := Hid.mk (fun z => GB.pr (g705.out z) (prE.tk q718))
                      refine e_Ok.run (t' := (119, [(1, (0, w70 275 78)), (0, (1, 275))], [(1, 275), (1, 275)], w716)) 2 rfl ?_
                      refine e_Ok.getf (z := w222 275 83) rfl (el_o rfl) rfl rfl u726.out (by omega) ?_
                      refine e_Ok.run (t' := (123, [(1, (0, w70 275 78)), (0, (1, 275))], [(0, 1), (0, w222 275 83), (1, 275)], w716)) 1 rfl ?_
                      refine e_Ok.sub' (z := w222 275 83 - 1) rfl (by omega) (by omega) ?_
                      refine e_Ok.putf rfl (el_o rfl) rfl rfl ?_
                      generalize hw737 : e_up w716 275 83 (w222 275 83 - 1) = w737
                      have f738 : e_fr (mStm (w 275 78) (w 275 79) (w 275 80) (w 275 94)) w w737 := e_fr.up f731 hw737 (by unfold mStm; omega)
                      have e739 := up83 hw737
                      replace e739 := (show Hid _ from e739)
                      have u740 : Hid (w737 275 78 = w222 275 78) := Hid.mk (Eq.trans (e739.out.1 275 78 (by decide)) u721.out)
                      have u741 : Hid (w737 275 79 = w222 275 79) := Hid.mk (Eq.trans (e739.out.1 275 79 (by decide)) u722.out)
                      have u742 : Hid (w737 275 80 = w222 275 80) := Hid.mk (Eq.trans (e739.out.1 275 80 (by decide)) u723.out)
                      have u743 : Hid (w737 275 81 = w 275 81) := Hid.mk (Eq.trans (e739.out.1 275 81 (by decide)) u724.out)
                      have u744 : Hid (w737 275 82 = w 275 82) := Hid.mk (Eq.trans (e739.out.1 275 82 (by decide)) u725.out)
                      have u745 : Hid (w737 275 83 = w222 275 83 - 1) := Hid.mk (e739.out.2)
                      have u748 : Hid (w737 275 86 = w716 275 86) := Hid.mk (e739.out.1 275 86 (by decide))
                      have u750 : Hid (w737 275 88 = w222 275 88) := Hid.mk (Eq.trans (e739.out.1 275 88 (by decide)) u727.out)
                      have u751 : Hid (w737 275 94 = w222 275 94) := Hid.mk (Eq.trans (e739.out.1 275 94 (by decide)) u728.out)
                      have c752 := cSt.up c729 hw737
                      have g753 : Hid (w222 275 88 = 0 → GB w737 N (w222 275 78) (w222 275 94) (w222 275 79) (w222 275 80) P (w 275 81) OW O) := Hid.mk (fun z => GB.pr (g732.out z) (prE.up hw737))
                      refine e_Ok.rets rfl rfl ?_
                      exact ⟨rfl, f738, c752, (by unfold stL; rw [u740.out, u741.out, u742.out, u743.out, u744.out, u745.out, u748.out, u750.out, u751.out]; omega), (fun z => by rw [u750.out] at z; rw [u740.out, u751.out, u741.out, u742.out, u743.out]; exact (g753.out (by omega)))⟩
                    · exact absurd q718b (by decide)
                  · show e_Ok 20 elay ecode eI (d + 1) 350 (114, [(1, (0, w70 275 78)), (0, (1, 275))], [(0, 0), (1, 275)], w688) _
                    clear q714n
                    refine e_Ok.callV rfl (Nat.le_trans (by decide) hdq) rfl rfl rfl rfl (c_334 (Nat.le_trans (by decide) hdq) c704.1 c704.2.1 c704.2.2.1 hNr c704.2.2.2.1 (by decide)) (fun r758 w759 h760 => ?_)
                    obtain ⟨rfl, q761⟩ := h760
                    obtain ⟨rfl, q761z⟩ | ⟨q761z, q761b, q761, q761s, q761t⟩ | ⟨q761z, q761b, q761, q761T, q761H, q761r⟩ := q761
                    · rw [u702.out] at q761z; exact absurd q761z (by omega)
                    · exact absurd q761b (by decide)
                    · show e_Ok 20 elay ecode eI (d + 1) 350 (117, [(1, (0, w70 275 78)), (0, (1, 275))], [], w759) _
                      rw [u702.out] at q761z
                      have u762 : Hid (w759 275 78 = w222 275 78) := Hid.mk (Eq.trans (q761 275 78 (mRf_fld (by decide))) u692.out)
                      have u763 : Hid (w759 275 79 = w222 275 79) := Hid.mk (Eq.trans (q761 275 79 (mRf_fld (by decide))) u693.out)
                      have u764 : Hid (w759 275 80 = w222 275 80) := Hid.mk (Eq.trans (q761 275 80 (mRf_fld (by decide))) u694.out)
                      have u765 : Hid (w759 275 81 = w 275 81) := Hid.mk (Eq.trans (q761 275 81 (mRf_fld (by decide))) u695.out)
                      have u766 : Hid (w759 275 82 = w 275 82) := Hid.mk (Eq.trans (q761 275 82 (mRf_fld (by decide))) u696.out)
                      have u767 : Hid (w759 275 83 = w222 275 83) := Hid.mk (Eq.trans (q761 275 83 (mRf_fld (by decide))) u697.out)
                      have u770 : Hid (w759 275 86 = w222 275 86) := Hid.mk (Eq.trans (q761 275 86 (mRf_fld (by decide))) u700.out)
                      have u772 : Hid (w759 275 94 = w222 275 94) := Hid.mk (Eq.trans (q761 275 94 (mRf_fld (by decide))) u703.out)
                      have c773 := cSt.rf c704 q761 q761T q761H
                      have f774 : e_fr (mStm (w 275 78) (w 275 79) (w 275 80) (w 275 94)) w w759 := e_fr.trans f691 (e_fr.mono q761 (fun c k g => mRf_St g))
                      refine e_Ok.run (t' := (119, [(1, (0, w70 275 78)), (0, (1, 275))], [(1, 275), (1, 275)], w759)) 2 rfl ?_
                      refine e_Ok.getf (z := w222 275 83) rfl (el_o rfl) rfl rfl u767.out (by omega) ?_
                      refine e_Ok.run (t' := (123, [(1, (0, w70 275 78)), (0, (1, 275))], [(0, 1), (0, w222 275 83), (1, 275)], w759)) 1 rfl ?_
                      refine e_Ok.sub' (z := w222 275 83 - 1) rfl (by omega) (by omega) ?_
                      refine e_Ok.putf rfl (el_o rfl) rfl rfl ?_
                      generalize hw775 : e_up w759 275 83 (w222 275 83 - 1) = w775
                      have f776 : e_fr (mStm (w 275 78) (w 275 79) (w 275 80) (w 275 94)) w w775 := e_fr.up f774 hw775 (by unfold mStm; omega)
                      have e777 := up83 hw775
                      replace e777 := (show Hid _ from e777)
                      have u778 : Hid (w775 275 78 = w222 275 78) := Hid.mk (Eq.trans (e777.out.1 275 78 (by decide)) u762.out)
                      have u779 : Hid (w775 275 79 = w222 275 79) := Hid.mk (Eq.trans (e777.out.1 275 79 (by decide)) u763.out)
                      have u780 : Hid (w775 275 80 = w222 275 80) := Hid.mk (Eq.trans (e777.out.1 275 80 (by decide)) u764.out)
                      have u781 : Hid (w775 275 81 = w 275 81) := Hid.mk (Eq.trans (e777.out.1 275 81 (by decide)) u765.out)
                      have u782 : Hid (w775 275 82 = w 275 82) := Hid.mk (Eq.trans (e777.out.1 275 82 (by decide)) u766.out)
                      have u783 : Hid (w775 275 83 = w222 275 83 - 1) := Hid.mk (e777.out.2)
                      have u786 : Hid (w775 275 86 = w222 275 86) := Hid.mk (Eq.trans (e777.out.1 275 86 (by decide)) u770.out)
                      have u788 : Hid (w775 275 88 = w759 275 88) := Hid.mk (e777.out.1 275 88 (by decide))
                      have u789 : Hid (w775 275 94 = w222 275 94) := Hid.mk (Eq.trans (e777.out.1 275 94 (by decide)) u772.out)
                      have c790 := cSt.up c773 hw775
                      refine e_Ok.rets rfl rfl ?_
                      exact ⟨rfl, f776, c790, (by unfold stL; rw [u778.out, u779.out, u780.out, u781.out, u782.out, u783.out, u786.out, u788.out, u789.out]; omega), (fun z => by rw [u788.out] at z; exact absurd z (by omega))⟩
                · replace h686 : (0 : Int) ≠ 0 := by have q : ¬ ((0 : Int) = 0) := h686; omega
                  exfalso; omega
          · exact absurd q91b (by decide)
        · show e_Ok 20 elay ecode eI (d + 1) 350 (33, [(0, (1, 275))], [(0, 0), (1, 275)], w70) _
          clear q87n
          refine e_Ok.callV rfl (Nat.le_trans (by decide) hdq) rfl rfl rfl rfl (c_334 (Nat.le_trans (by decide) hdq) q72c.1 q72c.2.1 q72c.2.2.1 hNr q72c.2.2.2.1 (by decide)) (fun r791 w792 h793 => ?_)
          obtain ⟨rfl, q794⟩ := h793
          obtain ⟨rfl, q794z⟩ | ⟨q794z, q794b, q794, q794s, q794t⟩ | ⟨q794z, q794b, q794, q794T, q794H, q794r⟩ := q794
          · show e_Ok 20 elay ecode eI (d + 1) 350 (36, [(0, (1, 275))], [], w70) _
            clear q723
            clear q729
            refine e_Ok.run (t' := (40, [(0, (1, 275))], [(0, 0), (0, 47), (1, 275)], w70)) 3 rfl ?_
            refine e_Ok.callV rfl (Nat.le_trans (by decide) hdq) rfl rfl rfl rfl (c_336 q72c.1 (n := w70 275 78) rfl (by omega) (s := w 275 81) u75.out (by omega)) (fun r795 w796 h797 => ?_)
            obtain ⟨rfl, q798⟩ := h797
            replace q798 := (show Hid (EM w70 w796 (w70 275 78) 47 (0) (w 275 81)) from q798)
            have u799 : Hid (w796 275 78 = w70 275 78 + 1) := Hid.mk (Eq.trans q798.out.2.2.2.2 (by omega))
            have u800 : Hid (w796 275 79 = w 275 79) := Hid.mk (Eq.trans (q798.out.fld (by decide)) u73.out)
            have u801 : Hid (w796 275 80 = w 275 80) := Hid.mk (Eq.trans (q798.out.fld (by decide)) u74.out)
            have u802 : Hid (w796 275 81 = w 275 81) := Hid.mk (Eq.trans (q798.out.fld (by decide)) u75.out)
            have u803 : Hid (w796 275 82 = w 275 82) := Hid.mk (Eq.trans (q798.out.fld (by decide)) u76.out)
            have u804 : Hid (w796 275 83 = w70 275 83) := Hid.mk (q798.out.fld (by decide))
            have u805 : Hid (w796 275 84 = w70 275 84) := Hid.mk (q798.out.fld (by decide))
            have u806 : Hid (w796 275 85 = w70 275 85) := Hid.mk (q798.out.fld (by decide))
            have u807 : Hid (w796 275 86 = w70 275 86) := Hid.mk (q798.out.fld (by decide))
            have u809 : Hid (w796 275 88 = w70 275 88) := Hid.mk (q798.out.fld (by decide))
            have u810 : Hid (w796 275 94 = w70 275 94) := Hid.mk (q798.out.fld (by decide))
            have f811 : e_fr (mStm (w 275 78) (w 275 79) (w 275 80) (w 275 94)) w w796 := e_fr.trans f79 (q798.out.st (by omega))
            have c812 := cSt.em q72c q798.out (by decide) (by omega) (by omega)
            show e_Ok 20 elay ecode eI (d + 1) 350 (43, [(0, (1, 275))], [(0, w70 275 78)], w796) _
            refine e_Ok.run (t' := (45, [(1, (0, w70 275 78)), (0, (1, 275))], [(1, 275)], w796)) 2 rfl ?_
            refine e_Ok.callV rfl (Nat.le_trans (by decide) hdq) rfl rfl rfl rfl (c_348_0 (Nat.le_trans (by decide) hdq) c812 (by rw [u809.out] <;> omega)) (fun r813 w814 h815 => ?_)
            obtain ⟨rfl, rfl⟩ := h815
            show e_Ok 20 elay ecode eI (d + 1) 350 (48, [(1, (0, w70 275 78)), (0, (1, 275))], [], w796) _
            refine e_Ok.run (t' := (49, [(1, (0, w70 275 78)), (0, (1, 275))], [(1, 275)], w796)) 1 rfl ?_
            refine e_Ok.getf (z := w70 275 88) rfl (el_o rfl) rfl rfl u809.out (by omega) ?_
            refine e_Ok.if1 rfl (fun h816 => ?_) (fun h816 => ?_)
            · replace h816 : (w70 275 88 : Int) ≠ 0 := h816
              refine e_Ok.run (t' := (105, [(1, (0, w70 275 78)), (0, (1, 275))], [(0, w70 275 78), (1, 275)], w796)) 2 rfl ?_
              refine e_Ok.callV rfl (Nat.le_trans (by decide) hdq) rfl rfl rfl rfl (c_337 c812.1 (n := w70 275 78 + 1) u799.out (by omega) (by omega)) (fun r817 w818 h819 => ?_)
              obtain ⟨rfl, q820⟩ := h819
              have f821 : e_fr (mStm (w 275 78) (w 275 79) (w 275 80) (w 275 94)) w w818 := e_fr.up f811 q820 (by unfold mStm; omega)
              have u822 : Hid (w818 275 78 = w70 275 78 + 1) := Hid.mk (Eq.trans (by rw [← q820]; exact e_up_ne _ _ (Or.inl (by decide))) u799.out)
              have u823 : Hid (w818 275 79 = w 275 79) := Hid.mk (Eq.trans (by rw [← q820]; exact e_up_ne _ _ (Or.inl (by decide))) u800.out)
              have u824 : Hid (w818 275 80 = w 275 80) := Hid.mk (Eq.trans (by rw [← q820]; exact e_up_ne _ _ (Or.inl (by decide))) u801.out)
              have u825 : Hid (w818 275 81 = w 275 81) := Hid.mk (Eq.trans (by rw [← q820]; exact e_up_ne _ _ (Or.inl (by decide))) u802.out)
              have u826 : Hid (w818 275 82 = w 275 82) := Hid.mk (Eq.trans (by rw [← q820]; exact e_up_ne _ _ (Or.inl (by decide))) u803.out)
              have u827 : Hid (w818 275 83 = w70 275 83) := Hid.mk (Eq.trans (by rw [← q820]; exact e_up_ne _ _ (Or.inl (by decide))) u804.out)
              have u828 : Hid (w818 275 84 = w70 275 84) := Hid.mk (Eq.trans (by rw [← q820]; exact e_up_ne _ _ (Or.inl (by decide))) u805.out)
              have u829 : Hid (w818 275 85 = w70 275 85) := Hid.mk (Eq.trans (by rw [← q820]; exact e_up_ne _ _ (Or.inl (by decide))) u806.out)
              have u830 : Hid (w818 275 86 = w70 275 86) := Hid.mk (Eq.trans (by rw [← q820]; exact e_up_ne _ _ (Or.inl (by decide))) u807.out)
              have u832 : Hid (w818 275 88 = w70 275 88) := Hid.mk (Eq.trans (by rw [← q820]; exact e_up_ne _ _ (Or.inl (by decide))) u809.out)
              have u833 : Hid (w818 275 94 = w70 275 94) := Hid.mk (Eq.trans (by rw [← q820]; exact e_up_ne _ _ (Or.inl (by decide))) u810.out)
              have c834 := cSt.wr c812 q820 (Or.inl rfl) (by omega) rfl (fun y => absurd y (by decide))
              show e_Ok 20 elay ecode eI (d + 1) 350 (108, [(1, (0, w70 275 78)), (0, (1, 275))], [], w818) _
              refine e_Ok.run (t' := (111, [(1, (0, w70 275 78)), (0, (1, 275))], [(0, 2), (1, 275), (1, 275)], w818)) 3 rfl ?_
              refine e_Ok.callV rfl (Nat.le_trans (by decide) hdq) rfl rfl rfl rfl (c_332 c834.1 (N := N) c834.2.2.2.1) (fun r835 w836 h837 => ?_)
              obtain ⟨z838, rfl, rfl, q839⟩ := h837
              obtain ⟨rfl, q839, q839b⟩ | ⟨rfl, q839n⟩ := q839
              · show e_Ok 20 elay ecode eI (d + 1) 350 (114, [(1, (0, w70 275 78)), (0, (1, 275))], [(0, 1), (1, 275)], w818) _
                rw [u828.out] at q839
                rw [u829.out] at q839b
                refine e_Ok.callV rfl (Nat.le_trans (by decide) hdq) rfl rfl rfl rfl (c_334 (Nat.le_trans (by decide) hdq) c834.1 c834.2.1 c834.2.2.1 hNr c834.2.2.2.1 (by decide)) (fun r840 w841 h842 => ?_)
                obtain ⟨rfl, q843⟩ := h842
                obtain ⟨rfl, q843z⟩ | ⟨q843z, q843b, q843, q843s, q843t⟩ | ⟨q843z, q843b, q843, q843T, q843H, q843r⟩ := q843
                · show e_Ok 20 elay ecode eI (d + 1) 350 (117, [(1, (0, w70 275 78)), (0, (1, 275))], [], w818) _
                  rw [u832.out] at q843z
                  refine e_Ok.run (t' := (119, [(1, (0, w70 275 78)), (0, (1, 275))], [(1, 275), (1, 275)], w818)) 2 rfl ?_
                  refine e_Ok.getf (z := w70 275 83) rfl (el_o rfl) rfl rfl u827.out (by omega) ?_
                  refine e_Ok.run (t' := (123, [(1, (0, w70 275 78)), (0, (1, 275))], [(0, 1), (0, w70 275 83), (1, 275)], w818)) 1 rfl ?_
                  refine e_Ok.sub' (z := w70 275 83 - 1) rfl (by omega) (by omega) ?_
                  refine e_Ok.putf rfl (el_o rfl) rfl rfl ?_
                  generalize hw844 : e_up w818 275 83 (w70 275 83 - 1) = w844
                  have f845 : e_fr (mStm (w 275 78) (w 275 79) (w 275 80) (w 275 94)) w w844 := e_fr.up f821 hw844 (by unfold mStm; omega)
                  have e846 := up83 hw844
                  replace e846 := (show Hid _ from e846)
                  have u847 : Hid (w844 275 78 = w70 275 78 + 1) := Hid.mk (Eq.trans (e846.out.1 275 78 (by decide)) u822.out)
                  have u848 : Hid (w844 275 79 = w 275 79) := Hid.mk (Eq.trans (e846.out.1 275 79 (by decide)) u823.out)
                  have u849 : Hid (w844 275 80 = w 275 80) := Hid.mk (Eq.trans (e846.out.1 275 80 (by decide)) u824.out)
                  have u850 : Hid (w844 275 81 = w 275 81) := Hid.mk (Eq.trans (e846.out.1 275 81 (by decide)) u825.out)
                  have u851 : Hid (w844 275 82 = w 275 82) := Hid.mk (Eq.trans (e846.out.1 275 82 (by decide)) u826.out)
                  have u852 : Hid (w844 275 83 = w70 275 83 - 1) := Hid.mk (e846.out.2)
                  have u855 : Hid (w844 275 86 = w70 275 86) := Hid.mk (Eq.trans (e846.out.1 275 86 (by decide)) u830.out)
                  have u857 : Hid (w844 275 88 = w70 275 88) := Hid.mk (Eq.trans (e846.out.1 275 88 (by decide)) u832.out)
                  have u858 : Hid (w844 275 94 = w70 275 94) := Hid.mk (Eq.trans (e846.out.1 275 94 (by decide)) u833.out)
                  have c859 := cSt.up c834 hw844
                  refine e_Ok.rets rfl rfl ?_
                  exact ⟨rfl, f845, c859, (by unfold stL; rw [u847.out, u848.out, u849.out, u850.out, u851.out, u852.out, u855.out, u857.out, u858.out]; omega), (fun z => by rw [u857.out] at z; exact absurd z (by omega))⟩
                · rw [u832.out] at q843z; exact absurd q843z (by omega)
                · rw [u832.out] at q843z; exact absurd q843z (by omega)
              · show e_Ok 20 elay ecode eI (d + 1) 350 (114, [(1, (0, w70 275 78)), (0, (1, 275))], [(0, 0), (1, 275)], w818) _
                clear q839n
                refine e_Ok.callV rfl (Nat.le_trans (by decide) hdq) rfl rfl rfl rfl (c_334 (Nat.le_trans (by decide) hdq) c834.1 c834.2.1 c834.2.2.1 hNr c834.2.2.2.1 (by decide)) (fun r860 w861 h862 => ?_)
                obtain ⟨rfl, q863⟩ := h862
                obtain ⟨rfl, q863z⟩ | ⟨q863z, q863b, q863, q863s, q863t⟩ | ⟨q863z, q863b, q863, q863T, q863H, q863r⟩ := q863
                · show e_Ok 20 elay ecode eI (d + 1) 350 (117, [(1, (0, w70 275 78)), (0, (1, 275))], [], w818) _
                  rw [u832.out] at q863z
                  refine e_Ok.run (t' := (119, [(1, (0, w70 275 78)), (0, (1, 275))], [(1, 275), (1, 275)], w818)) 2 rfl ?_
                  refine e_Ok.getf (z := w70 275 83) rfl (el_o rfl) rfl rfl u827.out (by omega) ?_
                  refine e_Ok.run (t' := (123, [(1, (0, w70 275 78)), (0, (1, 275))], [(0, 1), (0, w70 275 83), (1, 275)], w818)) 1 rfl ?_
                  refine e_Ok.sub' (z := w70 275 83 - 1) rfl (by omega) (by omega) ?_
                  refine e_Ok.putf rfl (el_o rfl) rfl rfl ?_
                  generalize hw864 : e_up w818 275 83 (w70 275 83 - 1) = w864
                  have f865 : e_fr (mStm (w 275 78) (w 275 79) (w 275 80) (w 275 94)) w w864 := e_fr.up f821 hw864 (by unfold mStm; omega)
                  have e866 := up83 hw864
                  replace e866 := (show Hid _ from e866)
                  have u867 : Hid (w864 275 78 = w70 275 78 + 1) := Hid.mk (Eq.trans (e866.out.1 275 78 (by decide)) u822.out)
                  have u868 : Hid (w864 275 79 = w 275 79) := Hid.mk (Eq.trans (e866.out.1 275 79 (by decide)) u823.out)
                  have u869 : Hid (w864 275 80 = w 275 80) := Hid.mk (Eq.trans (e866.out.1 275 80 (by decide)) u824.out)
                  have u870 : Hid (w864 275 81 = w 275 81) := Hid.mk (Eq.trans (e866.out.1 275 81 (by decide)) u825.out)
                  have u871 : Hid (w864 275 82 = w 275 82) := Hid.mk (Eq.trans (e866.out.1 275 82 (by decide)) u826.out)
                  have u872 : Hid (w864 275 83 = w70 275 83 - 1) := Hid.mk (e866.out.2)
                  have u875 : Hid (w864 275 86 = w70 275 86) := Hid.mk (Eq.trans (e866.out.1 275 86 (by decide)) u830.out)
                  have u877 : Hid (w864 275 88 = w70 275 88) := Hid.mk (Eq.trans (e866.out.1 275 88 (by decide)) u832.out)
                  have u878 : Hid (w864 275 94 = w70 275 94) := Hid.mk (Eq.trans (e866.out.1 275 94 (by decide)) u833.out)
                  have c879 := cSt.up c834 hw864
                  refine e_Ok.rets rfl rfl ?_
                  exact ⟨rfl, f865, c879, (by unfold stL; rw [u867.out, u868.out, u869.out, u870.out, u871.out, u872.out, u875.out, u877.out, u878.out]; omega), (fun z => by rw [u877.out] at z; exact absurd z (by omega))⟩
                · rw [u832.out] at q863z; exact absurd q863z (by omega)
                · rw [u832.out] at q863z; exact absurd q863z (by omega)
            · replace h816 : (w70 275 88 : Int) = 0 := by have q : ¬ ((w70 275 88 : Int) ≠ 0) := h816; omega
              exfalso; omega
          · exact absurd q794b (by decide)
          · show e_Ok 20 elay ecode eI (d + 1) 350 (36, [(0, (1, 275))], [], w792) _
            replace q723 := q723 (by omega)
            replace q729 := q729 (by omega)
            have u880 : Hid (w792 275 78 = w70 275 78) := Hid.mk (q794 275 78 (mRf_fld (by decide)))
            have u881 : Hid (w792 275 79 = w 275 79) := Hid.mk (Eq.trans (q794 275 79 (mRf_fld (by decide))) u73.out)
            have u882 : Hid (w792 275 80 = w 275 80) := Hid.mk (Eq.trans (q794 275 80 (mRf_fld (by decide))) u74.out)
            have u883 : Hid (w792 275 81 = w 275 81) := Hid.mk (Eq.trans (q794 275 81 (mRf_fld (by decide))) u75.out)
            have u884 : Hid (w792 275 82 = w 275 82) := Hid.mk (Eq.trans (q794 275 82 (mRf_fld (by decide))) u76.out)
            have u885 : Hid (w792 275 83 = w70 275 83) := Hid.mk (q794 275 83 (mRf_fld (by decide)))
            have u886 : Hid (w792 275 84 = w70 275 84) := Hid.mk (q794 275 84 (mRf_fld (by decide)))
            have u887 : Hid (w792 275 85 = w70 275 85) := Hid.mk (q794 275 85 (mRf_fld (by decide)))
            have u888 : Hid (w792 275 86 = w70 275 86) := Hid.mk (q794 275 86 (mRf_fld (by decide)))
            have u890 : Hid (w792 275 94 = w70 275 94) := Hid.mk (q794 275 94 (mRf_fld (by decide)))
            have c891 := cSt.rf q72c q794 q794T q794H
            have f892 : e_fr (mStm (w 275 78) (w 275 79) (w 275 80) (w 275 94)) w w792 := e_fr.trans f79 (e_fr.mono q794 (fun c k g => mRf_St g))
            refine e_Ok.run (t' := (40, [(0, (1, 275))], [(0, 0), (0, 47), (1, 275)], w792)) 3 rfl ?_
            refine e_Ok.callV rfl (Nat.le_trans (by decide) hdq) rfl rfl rfl rfl (c_336 c891.1 (n := w70 275 78) u880.out (by omega) (s := w 275 81) u883.out (by omega)) (fun r893 w894 h895 => ?_)
            obtain ⟨rfl, q896⟩ := h895
            replace q896 := (show Hid (EM w792 w894 (w70 275 78) 47 (0) (w 275 81)) from q896)
            have u897 : Hid (w894 275 78 = w70 275 78 + 1) := Hid.mk (Eq.trans q896.out.2.2.2.2 (by omega))
            have u898 : Hid (w894 275 79 = w 275 79) := Hid.mk (Eq.trans (q896.out.fld (by decide)) u881.out)
            have u899 : Hid (w894 275 80 = w 275 80) := Hid.mk (Eq.trans (q896.out.fld (by decide)) u882.out)
            have u900 : Hid (w894 275 81 = w 275 81) := Hid.mk (Eq.trans (q896.out.fld (by decide)) u883.out)
            have u901 : Hid (w894 275 82 = w 275 82) := Hid.mk (Eq.trans (q896.out.fld (by decide)) u884.out)
            have u902 : Hid (w894 275 83 = w70 275 83) := Hid.mk (Eq.trans (q896.out.fld (by decide)) u885.out)
            have u903 : Hid (w894 275 84 = w70 275 84) := Hid.mk (Eq.trans (q896.out.fld (by decide)) u886.out)
            have u904 : Hid (w894 275 85 = w70 275 85) := Hid.mk (Eq.trans (q896.out.fld (by decide)) u887.out)
            have u905 : Hid (w894 275 86 = w70 275 86) := Hid.mk (Eq.trans (q896.out.fld (by decide)) u888.out)
            have u907 : Hid (w894 275 88 = w792 275 88) := Hid.mk (q896.out.fld (by decide))
            have u908 : Hid (w894 275 94 = w70 275 94) := Hid.mk (Eq.trans (q896.out.fld (by decide)) u890.out)
            have f909 : e_fr (mStm (w 275 78) (w 275 79) (w 275 80) (w 275 94)) w w894 := e_fr.trans f892 (q896.out.st (by omega))
            have c910 := cSt.em c891 q896.out (by decide) (by omega) (by omega)
            show e_Ok 20 elay ecode eI (d + 1) 350 (43, [(0, (1, 275))], [(0, w70 275 78)], w894) _
            refine e_Ok.run (t' := (45, [(1, (0, w70 275 78)), (0, (1, 275))], [(1, 275)], w894)) 2 rfl ?_
            refine e_Ok.callV rfl (Nat.le_trans (by decide) hdq) rfl rfl rfl rfl (c_348_0 (Nat.le_trans (by decide) hdq) c910 (by rw [u907.out] <;> omega)) (fun r911 w912 h913 => ?_)
            obtain ⟨rfl, rfl⟩ := h913
            show e_Ok 20 elay ecode eI (d + 1) 350 (48, [(1, (0, w70 275 78)), (0, (1, 275))], [], w894) _
            refine e_Ok.run (t' := (49, [(1, (0, w70 275 78)), (0, (1, 275))], [(1, 275)], w894)) 1 rfl ?_
            refine e_Ok.getf (z := w792 275 88) rfl (el_o rfl) rfl rfl u907.out (by omega) ?_
            refine e_Ok.if1 rfl (fun h914 => ?_) (fun h914 => ?_)
            · replace h914 : (w792 275 88 : Int) ≠ 0 := h914
              refine e_Ok.run (t' := (105, [(1, (0, w70 275 78)), (0, (1, 275))], [(0, w70 275 78), (1, 275)], w894)) 2 rfl ?_
              refine e_Ok.callV rfl (Nat.le_trans (by decide) hdq) rfl rfl rfl rfl (c_337 c910.1 (n := w70 275 78 + 1) u897.out (by omega) (by omega)) (fun r915 w916 h917 => ?_)
              obtain ⟨rfl, q918⟩ := h917
              have f919 : e_fr (mStm (w 275 78) (w 275 79) (w 275 80) (w 275 94)) w w916 := e_fr.up f909 q918 (by unfold mStm; omega)
              have u920 : Hid (w916 275 78 = w70 275 78 + 1) := Hid.mk (Eq.trans (by rw [← q918]; exact e_up_ne _ _ (Or.inl (by decide))) u897.out)
              have u921 : Hid (w916 275 79 = w 275 79) := Hid.mk (Eq.trans (by rw [← q918]; exact e_up_ne _ _ (Or.inl (by decide))) u898.out)
              have u922 : Hid (w916 275 80 = w 275 80) := Hid.mk (Eq.trans (by rw [← q918]; exact e_up_ne _ _ (Or.inl (by decide))) u899.out)
              have u923 : Hid (w916 275 81 = w 275 81) := Hid.mk (Eq.trans (by rw [← q918]; exact e_up_ne _ _ (Or.inl (by decide))) u900.out)
              have u924 : Hid (w916 275 82 = w 275 82) := Hid.mk (Eq.trans (by rw [← q918]; exact e_up_ne _ _ (Or.inl (by decide))) u901.out)
              have u925 : Hid (w916 275 83 = w70 275 83) := Hid.mk (Eq.trans (by rw [← q918]; exact e_up_ne _ _ (Or.inl (by decide))) u902.out)
              have u926 : Hid (w916 275 84 = w70 275 84) := Hid.mk (Eq.trans (by rw [← q918]; exact e_up_ne _ _ (Or.inl (by decide))) u903.out)
              have u927 : Hid (w916 275 85 = w70 275 85) := Hid.mk (Eq.trans (by rw [← q918]; exact e_up_ne _ _ (Or.inl (by decide))) u904.out)
              have u928 : Hid (w916 275 86 = w70 275 86) := Hid.mk (Eq.trans (by rw [← q918]; exact e_up_ne _ _ (Or.inl (by decide))) u905.out)
              have u930 : Hid (w916 275 88 = w792 275 88) := Hid.mk (Eq.trans (by rw [← q918]; exact e_up_ne _ _ (Or.inl (by decide))) u907.out)
              have u931 : Hid (w916 275 94 = w70 275 94) := Hid.mk (Eq.trans (by rw [← q918]; exact e_up_ne _ _ (Or.inl (by decide))) u908.out)
              have c932 := cSt.wr c910 q918 (Or.inl rfl) (by omega) rfl (fun y => absurd y (by decide))
              show e_Ok 20 elay ecode eI (d + 1) 350 (108, [(1, (0, w70 275 78)), (0, (1, 275))], [], w916) _
              refine e_Ok.run (t' := (111, [(1, (0, w70 275 78)), (0, (1, 275))], [(0, 2), (1, 275), (1, 275)], w916)) 3 rfl ?_
              refine e_Ok.callV rfl (Nat.le_trans (by decide) hdq) rfl rfl rfl rfl (c_332 c932.1 (N := N) c932.2.2.2.1) (fun r933 w934 h935 => ?_)
              obtain ⟨z936, rfl, rfl, q937⟩ := h935
              obtain ⟨rfl, q937, q937b⟩ | ⟨rfl, q937n⟩ := q937
              · show e_Ok 20 elay ecode eI (d + 1) 350 (114, [(1, (0, w70 275 78)), (0, (1, 275))], [(0, 1), (1, 275)], w916) _
                rw [u926.out] at q937
                rw [u927.out] at q937b
                refine e_Ok.callV rfl (Nat.le_trans (by decide) hdq) rfl rfl rfl rfl (c_334 (Nat.le_trans (by decide) hdq) c932.1 c932.2.1 c932.2.2.1 hNr c932.2.2.2.1 (by decide)) (fun r938 w939 h940 => ?_)
                obtain ⟨rfl, q941⟩ := h940
                obtain ⟨rfl, q941z⟩ | ⟨q941z, q941b, q941, q941s, q941t⟩ | ⟨q941z, q941b, q941, q941T, q941H, q941r⟩ := q941
                · show e_Ok 20 elay ecode eI (d + 1) 350 (117, [(1, (0, w70 275 78)), (0, (1, 275))], [], w916) _
                  rw [u930.out] at q941z
                  refine e_Ok.run (t' := (119, [(1, (0, w70 275 78)), (0, (1, 275))], [(1, 275), (1, 275)], w916)) 2 rfl ?_
                  refine e_Ok.getf (z := w70 275 83) rfl (el_o rfl) rfl rfl u925.out (by omega) ?_
                  refine e_Ok.run (t' := (123, [(1, (0, w70 275 78)), (0, (1, 275))], [(0, 1), (0, w70 275 83), (1, 275)], w916)) 1 rfl ?_
                  refine e_Ok.sub' (z := w70 275 83 - 1) rfl (by omega) (by omega) ?_
                  refine e_Ok.putf rfl (el_o rfl) rfl rfl ?_
                  generalize hw942 : e_up w916 275 83 (w70 275 83 - 1) = w942
                  have f943 : e_fr (mStm (w 275 78) (w 275 79) (w 275 80) (w 275 94)) w w942 := e_fr.up f919 hw942 (by unfold mStm; omega)
                  have e944 := up83 hw942
                  replace e944 := (show Hid _ from e944)
                  have u945 : Hid (w942 275 78 = w70 275 78 + 1) := Hid.mk (Eq.trans (e944.out.1 275 78 (by decide)) u920.out)
                  have u946 : Hid (w942 275 79 = w 275 79) := Hid.mk (Eq.trans (e944.out.1 275 79 (by decide)) u921.out)
                  have u947 : Hid (w942 275 80 = w 275 80) := Hid.mk (Eq.trans (e944.out.1 275 80 (by decide)) u922.out)
                  have u948 : Hid (w942 275 81 = w 275 81) := Hid.mk (Eq.trans (e944.out.1 275 81 (by decide)) u923.out)
                  have u949 : Hid (w942 275 82 = w 275 82) := Hid.mk (Eq.trans (e944.out.1 275 82 (by decide)) u924.out)
                  have u950 : Hid (w942 275 83 = w70 275 83 - 1) := Hid.mk (e944.out.2)
                  have u953 : Hid (w942 275 86 = w70 275 86) := Hid.mk (Eq.trans (e944.out.1 275 86 (by decide)) u928.out)
                  have u955 : Hid (w942 275 88 = w792 275 88) := Hid.mk (Eq.trans (e944.out.1 275 88 (by decide)) u930.out)
                  have u956 : Hid (w942 275 94 = w70 275 94) := Hid.mk (Eq.trans (e944.out.1 275 94 (by decide)) u931.out)
                  have c957 := cSt.up c932 hw942
                  refine e_Ok.rets rfl rfl ?_
                  exact ⟨rfl, f943, c957, (by unfold stL; rw [u945.out, u946.out, u947.out, u948.out, u949.out, u950.out, u953.out, u955.out, u956.out]; omega), (fun z => by rw [u955.out] at z; exact absurd z (by omega))⟩
                · rw [u930.out] at q941z; exact absurd q941z (by omega)
                · rw [u930.out] at q941z; exact absurd q941z (by omega)
              · show e_Ok 20 elay ecode eI (d + 1) 350 (114, [(1, (0, w70 275 78)), (0, (1, 275))], [(0, 0), (1, 275)], w916) _
                clear q937n
                refine e_Ok.callV rfl (Nat.le_trans (by decide) hdq) rfl rfl rfl rfl (c_334 (Nat.le_trans (by decide) hdq) c932.1 c932.2.1 c932.2.2.1 hNr c932.2.2.2.1 (by decide)) (fun r958 w959 h960 => ?_)
                obtain ⟨rfl, q961⟩ := h960
                obtain ⟨rfl, q961z⟩ | ⟨q961z, q961b, q961, q961s, q961t⟩ | ⟨q961z, q961b, q961, q961T, q961H, q961r⟩ := q961
                · show e_Ok 20 elay ecode eI (d + 1) 350 (117, [(1, (0, w70 275 78)), (0, (1, 275))], [], w916) _
                  rw [u930.out] at q961z
                  refine e_Ok.run (t' := (119, [(1, (0, w70 275 78)), (0, (1, 275))], [(1, 275), (1, 275)], w916)) 2 rfl ?_
                  refine e_Ok.getf (z := w70 275 83) rfl (el_o rfl) rfl rfl u925.out (by omega) ?_
                  refine e_Ok.run (t' := (123, [(1, (0, w70 275 78)), (0, (1, 275))], [(0, 1), (0, w70 275 83), (1, 275)], w916)) 1 rfl ?_
                  refine e_Ok.sub' (z := w70 275 83 - 1) rfl (by omega) (by omega) ?_
                  refine e_Ok.putf rfl (el_o rfl) rfl rfl ?_
                  generalize hw962 : e_up w916 275 83 (w70 275 83 - 1) = w962
                  have f963 : e_fr (mStm (w 275 78) (w 275 79) (w 275 80) (w 275 94)) w w962 := e_fr.up f919 hw962 (by unfold mStm; omega)
                  have e964 := up83 hw962
                  replace e964 := (show Hid _ from e964)
                  have u965 : Hid (w962 275 78 = w70 275 78 + 1) := Hid.mk (Eq.trans (e964.out.1 275 78 (by decide)) u920.out)
                  have u966 : Hid (w962 275 79 = w 275 79) := Hid.mk (Eq.trans (e964.out.1 275 79 (by decide)) u921.out)
                  have u967 : Hid (w962 275 80 = w 275 80) := Hid.mk (Eq.trans (e964.out.1 275 80 (by decide)) u922.out)
                  have u968 : Hid (w962 275 81 = w 275 81) := Hid.mk (Eq.trans (e964.out.1 275 81 (by decide)) u923.out)
                  have u969 : Hid (w962 275 82 = w 275 82) := Hid.mk (Eq.trans (e964.out.1 275 82 (by decide)) u924.out)
                  have u970 : Hid (w962 275 83 = w70 275 83 - 1) := Hid.mk (e964.out.2)
                  have u973 : Hid (w962 275 86 = w70 275 86) := Hid.mk (Eq.trans (e964.out.1 275 86 (by decide)) u928.out)
                  have u975 : Hid (w962 275 88 = w792 275 88) := Hid.mk (Eq.trans (e964.out.1 275 88 (by decide)) u930.out)
                  have u976 : Hid (w962 275 94 = w70 275 94) := Hid.mk (Eq.trans (e964.out.1 275 94 (by decide)) u931.out)
                  have c977 := cSt.up c932 hw962
                  refine e_Ok.rets rfl rfl ?_
                  exact ⟨rfl, f963, c977, (by unfold stL; rw [u965.out, u966.out, u967.out, u968.out, u969.out, u970.out, u973.out, u975.out, u976.out]; omega), (fun z => by rw [u975.out] at z; exact absurd z (by omega))⟩
                · rw [u930.out] at q961z; exact absurd q961z (by omega)
                · rw [u930.out] at q961z; exact absurd q961z (by omega)
            · replace h914 : (w792 275 88 : Int) = 0 := by have q : ¬ ((w792 275 88 : Int) ≠ 0) := h914; omega
              exfalso; omega
      · exact absurd q52b (by decide)
    · show e_Ok 20 elay ecode eI (d + 1) 350 (19, [(0, (1, 275))], [(0, 0), (1, 275)], w23) _
      clear q48n
      refine e_Ok.callV rfl (Nat.le_trans (by decide) hdq) rfl rfl rfl rfl (c_334 (Nat.le_trans (by decide) hdq) c40.1 c40.2.1 c40.2.2.1 hNr c40.2.2.2.1 (by decide)) (fun r978 w979 h980 => ?_)
      obtain ⟨rfl, q981⟩ := h980
      obtain ⟨rfl, q981z⟩ | ⟨q981z, q981b, q981, q981s, q981t⟩ | ⟨q981z, q981b, q981, q981T, q981H, q981r⟩ := q981
      · rw [u36.out] at q981z; exact absurd q981z (by omega)
      · exact absurd q981b (by decide)
      · show e_Ok 20 elay ecode eI (d + 1) 350 (22, [(0, (1, 275))], [], w979) _
        rw [u36.out] at q981z
        have u982 : Hid (w979 275 78 = w 275 78 + 1) := Hid.mk (Eq.trans (q981 275 78 (mRf_fld (by decide))) u26.out)
        have u983 : Hid (w979 275 79 = w 275 79) := Hid.mk (Eq.trans (q981 275 79 (mRf_fld (by decide))) u27.out)
        have u984 : Hid (w979 275 80 = w 275 80) := Hid.mk (Eq.trans (q981 275 80 (mRf_fld (by decide))) u28.out)
        have u985 : Hid (w979 275 81 = w 275 81) := Hid.mk (Eq.trans (q981 275 81 (mRf_fld (by decide))) u29.out)
        have u986 : Hid (w979 275 82 = w 275 82) := Hid.mk (Eq.trans (q981 275 82 (mRf_fld (by decide))) u30.out)
        have u987 : Hid (w979 275 83 = w 275 83 + 1) := Hid.mk (Eq.trans (q981 275 83 (mRf_fld (by decide))) u31.out)
        have u988 : Hid (w979 275 84 = w 275 84) := Hid.mk (Eq.trans (q981 275 84 (mRf_fld (by decide))) u32.out)
        have u989 : Hid (w979 275 85 = w 275 85) := Hid.mk (Eq.trans (q981 275 85 (mRf_fld (by decide))) u33.out)
        have u990 : Hid (w979 275 86 = w 275 86) := Hid.mk (Eq.trans (q981 275 86 (mRf_fld (by decide))) u34.out)
        have u992 : Hid (w979 275 94 = w 275 94) := Hid.mk (Eq.trans (q981 275 94 (mRf_fld (by decide))) u37.out)
        have c993 := cSt.rf c40 q981 q981T q981H
        have f994 : e_fr (mStm (w 275 78) (w 275 79) (w 275 80) (w 275 94)) w w979 := e_fr.trans f38 (e_fr.mono q981 (fun c k g => mRf_St g))
        refine e_Ok.run (t' := (23, [(0, (1, 275))], [(1, 275)], w979)) 1 rfl ?_
        refine e_Ok.callV rfl (Nat.le_trans (by decide) hdq) rfl rfl rfl rfl (c_339_0 (Nat.le_trans (by decide) hdq) c993 (by omega)) (fun r995 w996 h997 => ?_)
        obtain ⟨rfl, rfl⟩ := h997
        show e_Ok 20 elay ecode eI (d + 1) 350 (26, [(0, (1, 275))], [], w979) _
        refine e_Ok.run (t' := (30, [(0, (1, 275))], [(0, 58), (1, 275), (1, 275)], w979)) 3 rfl ?_
        refine e_Ok.callV rfl (Nat.le_trans (by decide) hdq) rfl rfl rfl rfl (c_331 c993.1 (N := N) c993.2.2.2.1) (fun r998 w999 h1000 => ?_)
        obtain ⟨z1001, rfl, rfl, q1002⟩ := h1000
        obtain ⟨rfl, q1002, q1002b⟩ | ⟨rfl, q1002n⟩ := q1002
        · show e_Ok 20 elay ecode eI (d + 1) 350 (33, [(0, (1, 275))], [(0, 1), (1, 275)], w979) _
          rw [u988.out] at q1002
          rw [u989.out] at q1002b
          refine e_Ok.callV rfl (Nat.le_trans (by decide) hdq) rfl rfl rfl rfl (c_334 (Nat.le_trans (by decide) hdq) c993.1 c993.2.1 c993.2.2.1 hNr c993.2.2.2.1 (by decide)) (fun r1003 w1004 h1005 => ?_)
          obtain ⟨rfl, q1006⟩ := h1005
          obtain ⟨rfl, q1006z⟩ | ⟨q1006z, q1006b, q1006, q1006s, q1006t⟩ | ⟨q1006z, q1006b, q1006, q1006T, q1006H, q1006r⟩ := q1006
          · show e_Ok 20 elay ecode eI (d + 1) 350 (36, [(0, (1, 275))], [], w979) _
            refine e_Ok.run (t' := (40, [(0, (1, 275))], [(0, 0), (0, 47), (1, 275)], w979)) 3 rfl ?_
            refine e_Ok.callV rfl (Nat.le_trans (by decide) hdq) rfl rfl rfl rfl (c_336 c993.1 (n := w 275 78 + 1) u982.out (by omega) (s := w 275 81) u985.out (by omega)) (fun r1007 w1008 h1009 => ?_)
            obtain ⟨rfl, q1010⟩ := h1009
            replace q1010 := (show Hid (EM w979 w1008 (w 275 78 + 1) 47 (0) (w 275 81)) from q1010)
            have u1011 : Hid (w1008 275 78 = w 275 78 + 2) := Hid.mk (Eq.trans q1010.out.2.2.2.2 (by omega))
            have u1012 : Hid (w1008 275 79 = w 275 79) := Hid.mk (Eq.trans (q1010.out.fld (by decide)) u983.out)
            have u1013 : Hid (w1008 275 80 = w 275 80) := Hid.mk (Eq.trans (q1010.out.fld (by decide)) u984.out)
            have u1014 : Hid (w1008 275 81 = w 275 81) := Hid.mk (Eq.trans (q1010.out.fld (by decide)) u985.out)
            have u1015 : Hid (w1008 275 82 = w 275 82) := Hid.mk (Eq.trans (q1010.out.fld (by decide)) u986.out)
            have u1016 : Hid (w1008 275 83 = w 275 83 + 1) := Hid.mk (Eq.trans (q1010.out.fld (by decide)) u987.out)
            have u1017 : Hid (w1008 275 84 = w 275 84) := Hid.mk (Eq.trans (q1010.out.fld (by decide)) u988.out)
            have u1018 : Hid (w1008 275 85 = w 275 85) := Hid.mk (Eq.trans (q1010.out.fld (by decide)) u989.out)
            have u1019 : Hid (w1008 275 86 = w 275 86) := Hid.mk (Eq.trans (q1010.out.fld (by decide)) u990.out)
            have u1021 : Hid (w1008 275 88 = w979 275 88) := Hid.mk (q1010.out.fld (by decide))
            have u1022 : Hid (w1008 275 94 = w 275 94) := Hid.mk (Eq.trans (q1010.out.fld (by decide)) u992.out)
            have f1023 : e_fr (mStm (w 275 78) (w 275 79) (w 275 80) (w 275 94)) w w1008 := e_fr.trans f994 (q1010.out.st (by omega))
            have c1024 := cSt.em c993 q1010.out (by decide) (by omega) (by omega)
            show e_Ok 20 elay ecode eI (d + 1) 350 (43, [(0, (1, 275))], [(0, w 275 78 + 1)], w1008) _
            refine e_Ok.run (t' := (45, [(1, (0, w 275 78 + 1)), (0, (1, 275))], [(1, 275)], w1008)) 2 rfl ?_
            refine e_Ok.callV rfl (Nat.le_trans (by decide) hdq) rfl rfl rfl rfl (c_348_0 (Nat.le_trans (by decide) hdq) c1024 (by rw [u1021.out] <;> omega)) (fun r1025 w1026 h1027 => ?_)
            obtain ⟨rfl, rfl⟩ := h1027
            show e_Ok 20 elay ecode eI (d + 1) 350 (48, [(1, (0, w 275 78 + 1)), (0, (1, 275))], [], w1008) _
            refine e_Ok.run (t' := (49, [(1, (0, w 275 78 + 1)), (0, (1, 275))], [(1, 275)], w1008)) 1 rfl ?_
            refine e_Ok.getf (z := w979 275 88) rfl (el_o rfl) rfl rfl u1021.out (by omega) ?_
            refine e_Ok.if1 rfl (fun h1028 => ?_) (fun h1028 => ?_)
            · replace h1028 : (w979 275 88 : Int) ≠ 0 := h1028
              refine e_Ok.run (t' := (105, [(1, (0, w 275 78 + 1)), (0, (1, 275))], [(0, w 275 78 + 1), (1, 275)], w1008)) 2 rfl ?_
              refine e_Ok.callV rfl (Nat.le_trans (by decide) hdq) rfl rfl rfl rfl (c_337 c1024.1 (n := w 275 78 + 2) u1011.out (by omega) (by omega)) (fun r1029 w1030 h1031 => ?_)
              obtain ⟨rfl, q1032⟩ := h1031
              have f1033 : e_fr (mStm (w 275 78) (w 275 79) (w 275 80) (w 275 94)) w w1030 := e_fr.up f1023 q1032 (by unfold mStm; omega)
              have u1034 : Hid (w1030 275 78 = w 275 78 + 2) := Hid.mk (Eq.trans (by rw [← q1032]; exact e_up_ne _ _ (Or.inl (by decide))) u1011.out)
              have u1035 : Hid (w1030 275 79 = w 275 79) := Hid.mk (Eq.trans (by rw [← q1032]; exact e_up_ne _ _ (Or.inl (by decide))) u1012.out)
              have u1036 : Hid (w1030 275 80 = w 275 80) := Hid.mk (Eq.trans (by rw [← q1032]; exact e_up_ne _ _ (Or.inl (by decide))) u1013.out)
              have u1037 : Hid (w1030 275 81 = w 275 81) := Hid.mk (Eq.trans (by rw [← q1032]; exact e_up_ne _ _ (Or.inl (by decide))) u1014.out)
              have u1038 : Hid (w1030 275 82 = w 275 82) := Hid.mk (Eq.trans (by rw [← q1032]; exact e_up_ne _ _ (Or.inl (by decide))) u1015.out)
              have u1039 : Hid (w1030 275 83 = w 275 83 + 1) := Hid.mk (Eq.trans (by rw [← q1032]; exact e_up_ne _ _ (Or.inl (by decide))) u1016.out)
              have u1040 : Hid (w1030 275 84 = w 275 84) := Hid.mk (Eq.trans (by rw [← q1032]; exact e_up_ne _ _ (Or.inl (by decide))) u1017.out)
              have u1041 : Hid (w1030 275 85 = w 275 85) := Hid.mk (Eq.trans (by rw [← q1032]; exact e_up_ne _ _ (Or.inl (by decide))) u1018.out)
              have u1042 : Hid (w1030 275 86 = w 275 86) := Hid.mk (Eq.trans (by rw [← q1032]; exact e_up_ne _ _ (Or.inl (by decide))) u1019.out)
              have u1044 : Hid (w1030 275 88 = w979 275 88) := Hid.mk (Eq.trans (by rw [← q1032]; exact e_up_ne _ _ (Or.inl (by decide))) u1021.out)
              have u1045 : Hid (w1030 275 94 = w 275 94) := Hid.mk (Eq.trans (by rw [← q1032]; exact e_up_ne _ _ (Or.inl (by decide))) u1022.out)
              have c1046 := cSt.wr c1024 q1032 (Or.inl rfl) (by omega) rfl (fun y => absurd y (by decide))
              show e_Ok 20 elay ecode eI (d + 1) 350 (108, [(1, (0, w 275 78 + 1)), (0, (1, 275))], [], w1030) _
              refine e_Ok.run (t' := (111, [(1, (0, w 275 78 + 1)), (0, (1, 275))], [(0, 2), (1, 275), (1, 275)], w1030)) 3 rfl ?_
              refine e_Ok.callV rfl (Nat.le_trans (by decide) hdq) rfl rfl rfl rfl (c_332 c1046.1 (N := N) c1046.2.2.2.1) (fun r1047 w1048 h1049 => ?_)
              obtain ⟨z1050, rfl, rfl, q1051⟩ := h1049
              obtain ⟨rfl, q1051, q1051b⟩ | ⟨rfl, q1051n⟩ := q1051
              · show e_Ok 20 elay ecode eI (d + 1) 350 (114, [(1, (0, w 275 78 + 1)), (0, (1, 275))], [(0, 1), (1, 275)], w1030) _
                rw [u1040.out] at q1051
                rw [u1041.out] at q1051b
                refine e_Ok.callV rfl (Nat.le_trans (by decide) hdq) rfl rfl rfl rfl (c_334 (Nat.le_trans (by decide) hdq) c1046.1 c1046.2.1 c1046.2.2.1 hNr c1046.2.2.2.1 (by decide)) (fun r1052 w1053 h1054 => ?_)
                obtain ⟨rfl, q1055⟩ := h1054
                obtain ⟨rfl, q1055z⟩ | ⟨q1055z, q1055b, q1055, q1055s, q1055t⟩ | ⟨q1055z, q1055b, q1055, q1055T, q1055H, q1055r⟩ := q1055
                · show e_Ok 20 elay ecode eI (d + 1) 350 (117, [(1, (0, w 275 78 + 1)), (0, (1, 275))], [], w1030) _
                  rw [u1044.out] at q1055z
                  refine e_Ok.run (t' := (119, [(1, (0, w 275 78 + 1)), (0, (1, 275))], [(1, 275), (1, 275)], w1030)) 2 rfl ?_
                  refine e_Ok.getf (z := w 275 83 + 1) rfl (el_o rfl) rfl rfl u1039.out (by omega) ?_
                  refine e_Ok.run (t' := (123, [(1, (0, w 275 78 + 1)), (0, (1, 275))], [(0, 1), (0, w 275 83 + 1), (1, 275)], w1030)) 1 rfl ?_
                  refine e_Ok.sub' (z := w 275 83) rfl (by omega) (by omega) ?_
                  refine e_Ok.putf rfl (el_o rfl) rfl rfl ?_
                  generalize hw1056 : e_up w1030 275 83 (w 275 83) = w1056
                  have f1057 : e_fr (mStm (w 275 78) (w 275 79) (w 275 80) (w 275 94)) w w1056 := e_fr.up f1033 hw1056 (by unfold mStm; omega)
                  have e1058 := up83 hw1056
                  replace e1058 := (show Hid _ from e1058)
                  have u1059 : Hid (w1056 275 78 = w 275 78 + 2) := Hid.mk (Eq.trans (e1058.out.1 275 78 (by decide)) u1034.out)
                  have u1060 : Hid (w1056 275 79 = w 275 79) := Hid.mk (Eq.trans (e1058.out.1 275 79 (by decide)) u1035.out)
                  have u1061 : Hid (w1056 275 80 = w 275 80) := Hid.mk (Eq.trans (e1058.out.1 275 80 (by decide)) u1036.out)
                  have u1062 : Hid (w1056 275 81 = w 275 81) := Hid.mk (Eq.trans (e1058.out.1 275 81 (by decide)) u1037.out)
                  have u1063 : Hid (w1056 275 82 = w 275 82) := Hid.mk (Eq.trans (e1058.out.1 275 82 (by decide)) u1038.out)
                  have u1064 : Hid (w1056 275 83 = w 275 83) := Hid.mk (e1058.out.2)
                  have u1067 : Hid (w1056 275 86 = w 275 86) := Hid.mk (Eq.trans (e1058.out.1 275 86 (by decide)) u1042.out)
                  have u1069 : Hid (w1056 275 88 = w979 275 88) := Hid.mk (Eq.trans (e1058.out.1 275 88 (by decide)) u1044.out)
                  have u1070 : Hid (w1056 275 94 = w 275 94) := Hid.mk (Eq.trans (e1058.out.1 275 94 (by decide)) u1045.out)
                  have c1071 := cSt.up c1046 hw1056
                  refine e_Ok.rets rfl rfl ?_
                  exact ⟨rfl, f1057, c1071, (by unfold stL; rw [u1059.out, u1060.out, u1061.out, u1062.out, u1063.out, u1064.out, u1067.out, u1069.out, u1070.out]; omega), (fun z => by rw [u1069.out] at z; exact absurd z (by omega))⟩
                · rw [u1044.out] at q1055z; exact absurd q1055z (by omega)
                · rw [u1044.out] at q1055z; exact absurd q1055z (by omega)
              · show e_Ok 20 elay ecode eI (d + 1) 350 (114, [(1, (0, w 275 78 + 1)), (0, (1, 275))], [(0, 0), (1, 275)], w1030) _
                clear q1051n
                refine e_Ok.callV rfl (Nat.le_trans (by decide) hdq) rfl rfl rfl rfl (c_334 (Nat.le_trans (by decide) hdq) c1046.1 c1046.2.1 c1046.2.2.1 hNr c1046.2.2.2.1 (by decide)) (fun r1072 w1073 h1074 => ?_)
                obtain ⟨rfl, q1075⟩ := h1074
                obtain ⟨rfl, q1075z⟩ | ⟨q1075z, q1075b, q1075, q1075s, q1075t⟩ | ⟨q1075z, q1075b, q1075, q1075T, q1075H, q1075r⟩ := q1075
                · show e_Ok 20 elay ecode eI (d + 1) 350 (117, [(1, (0, w 275 78 + 1)), (0, (1, 275))], [], w1030) _
                  rw [u1044.out] at q1075z
                  refine e_Ok.run (t' := (119, [(1, (0, w 275 78 + 1)), (0, (1, 275))], [(1, 275), (1, 275)], w1030)) 2 rfl ?_
                  refine e_Ok.getf (z := w 275 83 + 1) rfl (el_o rfl) rfl rfl u1039.out (by omega) ?_
                  refine e_Ok.run (t' := (123, [(1, (0, w 275 78 + 1)), (0, (1, 275))], [(0, 1), (0, w 275 83 + 1), (1, 275)], w1030)) 1 rfl ?_
                  refine e_Ok.sub' (z := w 275 83) rfl (by omega) (by omega) ?_
                  refine e_Ok.putf rfl (el_o rfl) rfl rfl ?_
                  generalize hw1076 : e_up w1030 275 83 (w 275 83) = w1076
                  have f1077 : e_fr (mStm (w 275 78) (w 275 79) (w 275 80) (w 275 94)) w w1076 := e_fr.up f1033 hw1076 (by unfold mStm; omega)
                  have e1078 := up83 hw1076
                  replace e1078 := (show Hid _ from e1078)
                  have u1079 : Hid (w1076 275 78 = w 275 78 + 2) := Hid.mk (Eq.trans (e1078.out.1 275 78 (by decide)) u1034.out)
                  have u1080 : Hid (w1076 275 79 = w 275 79) := Hid.mk (Eq.trans (e1078.out.1 275 79 (by decide)) u1035.out)
                  have u1081 : Hid (w1076 275 80 = w 275 80) := Hid.mk (Eq.trans (e1078.out.1 275 80 (by decide)) u1036.out)
                  have u1082 : Hid (w1076 275 81 = w 275 81) := Hid.mk (Eq.trans (e1078.out.1 275 81 (by decide)) u1037.out)
                  have u1083 : Hid (w1076 275 82 = w 275 82) := Hid.mk (Eq.trans (e1078.out.1 275 82 (by decide)) u1038.out)
                  have u1084 : Hid (w1076 275 83 = w 275 83) := Hid.mk (e1078.out.2)
                  have u1087 : Hid (w1076 275 86 = w 275 86) := Hid.mk (Eq.trans (e1078.out.1 275 86 (by decide)) u1042.out)
                  have u1089 : Hid (w1076 275 88 = w979 275 88) := Hid.mk (Eq.trans (e1078.out.1 275 88 (by decide)) u1044.out)
                  have u1090 : Hid (w1076 275 94 = w 275 94) := Hid.mk (Eq.trans (e1078.out.1 275 94 (by decide)) u1045.out)
                  have c1091 := cSt.up c1046 hw1076
                  refine e_Ok.rets rfl rfl ?_
                  exact ⟨rfl, f1077, c1091, (by unfold stL; rw [u1079.out, u1080.out, u1081.out, u1082.out, u1083.out, u1084.out, u1087.out, u1089.out, u1090.out]; omega), (fun z => by rw [u1089.out] at z; exact absurd z (by omega))⟩
                · rw [u1044.out] at q1075z; exact absurd q1075z (by omega)
                · rw [u1044.out] at q1075z; exact absurd q1075z (by omega)
            · replace h1028 : (w979 275 88 : Int) = 0 := by have q : ¬ ((w979 275 88 : Int) ≠ 0) := h1028; omega
              exfalso; omega
          · exact absurd q1006z (by omega)
          · exact absurd q1006z (by omega)
        · show e_Ok 20 elay ecode eI (d + 1) 350 (33, [(0, (1, 275))], [(0, 0), (1, 275)], w979) _
          clear q1002n
          refine e_Ok.callV rfl (Nat.le_trans (by decide) hdq) rfl rfl rfl rfl (c_334 (Nat.le_trans (by decide) hdq) c993.1 c993.2.1 c993.2.2.1 hNr c993.2.2.2.1 (by decide)) (fun r1092 w1093 h1094 => ?_)
          obtain ⟨rfl, q1095⟩ := h1094
          obtain ⟨rfl, q1095z⟩ | ⟨q1095z, q1095b, q1095, q1095s, q1095t⟩ | ⟨q1095z, q1095b, q1095, q1095T, q1095H, q1095r⟩ := q1095
          · show e_Ok 20 elay ecode eI (d + 1) 350 (36, [(0, (1, 275))], [], w979) _
            refine e_Ok.run (t' := (40, [(0, (1, 275))], [(0, 0), (0, 47), (1, 275)], w979)) 3 rfl ?_
            refine e_Ok.callV rfl (Nat.le_trans (by decide) hdq) rfl rfl rfl rfl (c_336 c993.1 (n := w 275 78 + 1) u982.out (by omega) (s := w 275 81) u985.out (by omega)) (fun r1096 w1097 h1098 => ?_)
            obtain ⟨rfl, q1099⟩ := h1098
            replace q1099 := (show Hid (EM w979 w1097 (w 275 78 + 1) 47 (0) (w 275 81)) from q1099)
            have u1100 : Hid (w1097 275 78 = w 275 78 + 2) := Hid.mk (Eq.trans q1099.out.2.2.2.2 (by omega))
            have u1101 : Hid (w1097 275 79 = w 275 79) := Hid.mk (Eq.trans (q1099.out.fld (by decide)) u983.out)
            have u1102 : Hid (w1097 275 80 = w 275 80) := Hid.mk (Eq.trans (q1099.out.fld (by decide)) u984.out)
            have u1103 : Hid (w1097 275 81 = w 275 81) := Hid.mk (Eq.trans (q1099.out.fld (by decide)) u985.out)
            have u1104 : Hid (w1097 275 82 = w 275 82) := Hid.mk (Eq.trans (q1099.out.fld (by decide)) u986.out)
            have u1105 : Hid (w1097 275 83 = w 275 83 + 1) := Hid.mk (Eq.trans (q1099.out.fld (by decide)) u987.out)
            have u1106 : Hid (w1097 275 84 = w 275 84) := Hid.mk (Eq.trans (q1099.out.fld (by decide)) u988.out)
            have u1107 : Hid (w1097 275 85 = w 275 85) := Hid.mk (Eq.trans (q1099.out.fld (by decide)) u989.out)
            have u1108 : Hid (w1097 275 86 = w 275 86) := Hid.mk (Eq.trans (q1099.out.fld (by decide)) u990.out)
            have u1110 : Hid (w1097 275 88 = w979 275 88) := Hid.mk (q1099.out.fld (by decide))
            have u1111 : Hid (w1097 275 94 = w 275 94) := Hid.mk (Eq.trans (q1099.out.fld (by decide)) u992.out)
            have f1112 : e_fr (mStm (w 275 78) (w 275 79) (w 275 80) (w 275 94)) w w1097 := e_fr.trans f994 (q1099.out.st (by omega))
            have c1113 := cSt.em c993 q1099.out (by decide) (by omega) (by omega)
            show e_Ok 20 elay ecode eI (d + 1) 350 (43, [(0, (1, 275))], [(0, w 275 78 + 1)], w1097) _
            refine e_Ok.run (t' := (45, [(1, (0, w 275 78 + 1)), (0, (1, 275))], [(1, 275)], w1097)) 2 rfl ?_
            refine e_Ok.callV rfl (Nat.le_trans (by decide) hdq) rfl rfl rfl rfl (c_348_0 (Nat.le_trans (by decide) hdq) c1113 (by rw [u1110.out] <;> omega)) (fun r1114 w1115 h1116 => ?_)
            obtain ⟨rfl, rfl⟩ := h1116
            show e_Ok 20 elay ecode eI (d + 1) 350 (48, [(1, (0, w 275 78 + 1)), (0, (1, 275))], [], w1097) _
            refine e_Ok.run (t' := (49, [(1, (0, w 275 78 + 1)), (0, (1, 275))], [(1, 275)], w1097)) 1 rfl ?_
            refine e_Ok.getf (z := w979 275 88) rfl (el_o rfl) rfl rfl u1110.out (by omega) ?_
            refine e_Ok.if1 rfl (fun h1117 => ?_) (fun h1117 => ?_)
            · replace h1117 : (w979 275 88 : Int) ≠ 0 := h1117
              refine e_Ok.run (t' := (105, [(1, (0, w 275 78 + 1)), (0, (1, 275))], [(0, w 275 78 + 1), (1, 275)], w1097)) 2 rfl ?_
              refine e_Ok.callV rfl (Nat.le_trans (by decide) hdq) rfl rfl rfl rfl (c_337 c1113.1 (n := w 275 78 + 2) u1100.out (by omega) (by omega)) (fun r1118 w1119 h1120 => ?_)
              obtain ⟨rfl, q1121⟩ := h1120
              have f1122 : e_fr (mStm (w 275 78) (w 275 79) (w 275 80) (w 275 94)) w w1119 := e_fr.up f1112 q1121 (by unfold mStm; omega)
              have u1123 : Hid (w1119 275 78 = w 275 78 + 2) := Hid.mk (Eq.trans (by rw [← q1121]; exact e_up_ne _ _ (Or.inl (by decide))) u1100.out)
              have u1124 : Hid (w1119 275 79 = w 275 79) := Hid.mk (Eq.trans (by rw [← q1121]; exact e_up_ne _ _ (Or.inl (by decide))) u1101.out)
              have u1125 : Hid (w1119 275 80 = w 275 80) := Hid.mk (Eq.trans (by rw [← q1121]; exact e_up_ne _ _ (Or.inl (by decide))) u1102.out)
              have u1126 : Hid (w1119 275 81 = w 275 81) := Hid.mk (Eq.trans (by rw [← q1121]; exact e_up_ne _ _ (Or.inl (by decide))) u1103.out)
              have u1127 : Hid (w1119 275 82 = w 275 82) := Hid.mk (Eq.trans (by rw [← q1121]; exact e_up_ne _ _ (Or.inl (by decide))) u1104.out)
              have u1128 : Hid (w1119 275 83 = w 275 83 + 1) := Hid.mk (Eq.trans (by rw [← q1121]; exact e_up_ne _ _ (Or.inl (by decide))) u1105.out)
              have u1129 : Hid (w1119 275 84 = w 275 84) := Hid.mk (Eq.trans (by rw [← q1121]; exact e_up_ne _ _ (Or.inl (by decide))) u1106.out)
              have u1130 : Hid (w1119 275 85 = w 275 85) := Hid.mk (Eq.trans (by rw [← q1121]; exact e_up_ne _ _ (Or.inl (by decide))) u1107.out)
              have u1131 : Hid (w1119 275 86 = w 275 86) := Hid.mk (Eq.trans (by rw [← q1121]; exact e_up_ne _ _ (Or.inl (by decide))) u1108.out)
              have u1133 : Hid (w1119 275 88 = w979 275 88) := Hid.mk (Eq.trans (by rw [← q1121]; exact e_up_ne _ _ (Or.inl (by decide))) u1110.out)
              have u1134 : Hid (w1119 275 94 = w 275 94) := Hid.mk (Eq.trans (by rw [← q1121]; exact e_up_ne _ _ (Or.inl (by decide))) u1111.out)
              have c1135 := cSt.wr c1113 q1121 (Or.inl rfl) (by omega) rfl (fun y => absurd y (by decide))
              show e_Ok 20 elay ecode eI (d + 1) 350 (108, [(1, (0, w 275 78 + 1)), (0, (1, 275))], [], w1119) _
              refine e_Ok.run (t' := (111, [(1, (0, w 275 78 + 1)), (0, (1, 275))], [(0, 2), (1, 275), (1, 275)], w1119)) 3 rfl ?_
              refine e_Ok.callV rfl (Nat.le_trans (by decide) hdq) rfl rfl rfl rfl (c_332 c1135.1 (N := N) c1135.2.2.2.1) (fun r1136 w1137 h1138 => ?_)
              obtain ⟨z1139, rfl, rfl, q1140⟩ := h1138
              obtain ⟨rfl, q1140, q1140b⟩ | ⟨rfl, q1140n⟩ := q1140
              · show e_Ok 20 elay ecode eI (d + 1) 350 (114, [(1, (0, w 275 78 + 1)), (0, (1, 275))], [(0, 1), (1, 275)], w1119) _
                rw [u1129.out] at q1140
                rw [u1130.out] at q1140b
                refine e_Ok.callV rfl (Nat.le_trans (by decide) hdq) rfl rfl rfl rfl (c_334 (Nat.le_trans (by decide) hdq) c1135.1 c1135.2.1 c1135.2.2.1 hNr c1135.2.2.2.1 (by decide)) (fun r1141 w1142 h1143 => ?_)
                obtain ⟨rfl, q1144⟩ := h1143
                obtain ⟨rfl, q1144z⟩ | ⟨q1144z, q1144b, q1144, q1144s, q1144t⟩ | ⟨q1144z, q1144b, q1144, q1144T, q1144H, q1144r⟩ := q1144
                · show e_Ok 20 elay ecode eI (d + 1) 350 (117, [(1, (0, w 275 78 + 1)), (0, (1, 275))], [], w1119) _
                  rw [u1133.out] at q1144z
                  refine e_Ok.run (t' := (119, [(1, (0, w 275 78 + 1)), (0, (1, 275))], [(1, 275), (1, 275)], w1119)) 2 rfl ?_
                  refine e_Ok.getf (z := w 275 83 + 1) rfl (el_o rfl) rfl rfl u1128.out (by omega) ?_
                  refine e_Ok.run (t' := (123, [(1, (0, w 275 78 + 1)), (0, (1, 275))], [(0, 1), (0, w 275 83 + 1), (1, 275)], w1119)) 1 rfl ?_
                  refine e_Ok.sub' (z := w 275 83) rfl (by omega) (by omega) ?_
                  refine e_Ok.putf rfl (el_o rfl) rfl rfl ?_
                  generalize hw1145 : e_up w1119 275 83 (w 275 83) = w1145
                  have f1146 : e_fr (mStm (w 275 78) (w 275 79) (w 275 80) (w 275 94)) w w1145 := e_fr.up f1122 hw1145 (by unfold mStm; omega)
                  have e1147 := up83 hw1145
                  replace e1147 := (show Hid _ from e1147)
                  have u1148 : Hid (w1145 275 78 = w 275 78 + 2) := Hid.mk (Eq.trans (e1147.out.1 275 78 (by decide)) u1123.out)
                  have u1149 : Hid (w1145 275 79 = w 275 79) := Hid.mk (Eq.trans (e1147.out.1 275 79 (by decide)) u1124.out)
                  have u1150 : Hid (w1145 275 80 = w 275 80) := Hid.mk (Eq.trans (e1147.out.1 275 80 (by decide)) u1125.out)
                  have u1151 : Hid (w1145 275 81 = w 275 81) := Hid.mk (Eq.trans (e1147.out.1 275 81 (by decide)) u1126.out)
                  have u1152 : Hid (w1145 275 82 = w 275 82) := Hid.mk (Eq.trans (e1147.out.1 275 82 (by decide)) u1127.out)
                  have u1153 : Hid (w1145 275 83 = w 275 83) := Hid.mk (e1147.out.2)
                  have u1156 : Hid (w1145 275 86 = w 275 86) := Hid.mk (Eq.trans (e1147.out.1 275 86 (by decide)) u1131.out)
                  have u1158 : Hid (w1145 275 88 = w979 275 88) := Hid.mk (Eq.trans (e1147.out.1 275 88 (by decide)) u1133.out)
                  have u1159 : Hid (w1145 275 94 = w 275 94) := Hid.mk (Eq.trans (e1147.out.1 275 94 (by decide)) u1134.out)
                  have c1160 := cSt.up c1135 hw1145
                  refine e_Ok.rets rfl rfl ?_
                  exact ⟨rfl, f1146, c1160, (by unfold stL; rw [u1148.out, u1149.out, u1150.out, u1151.out, u1152.out, u1153.out, u1156.out, u1158.out, u1159.out]; omega), (fun z => by rw [u1158.out] at z; exact absurd z (by omega))⟩
                · rw [u1133.out] at q1144z; exact absurd q1144z (by omega)
                · rw [u1133.out] at q1144z; exact absurd q1144z (by omega)
              · show e_Ok 20 elay ecode eI (d + 1) 350 (114, [(1, (0, w 275 78 + 1)), (0, (1, 275))], [(0, 0), (1, 275)], w1119) _
                clear q1140n
                refine e_Ok.callV rfl (Nat.le_trans (by decide) hdq) rfl rfl rfl rfl (c_334 (Nat.le_trans (by decide) hdq) c1135.1 c1135.2.1 c1135.2.2.1 hNr c1135.2.2.2.1 (by decide)) (fun r1161 w1162 h1163 => ?_)
                obtain ⟨rfl, q1164⟩ := h1163
                obtain ⟨rfl, q1164z⟩ | ⟨q1164z, q1164b, q1164, q1164s, q1164t⟩ | ⟨q1164z, q1164b, q1164, q1164T, q1164H, q1164r⟩ := q1164
                · show e_Ok 20 elay ecode eI (d + 1) 350 (117, [(1, (0, w 275 78 + 1)), (0, (1, 275))], [], w1119) _
                  rw [u1133.out] at q1164z
                  refine e_Ok.run (t' := (119, [(1, (0, w 275 78 + 1)), (0, (1, 275))], [(1, 275), (1, 275)], w1119)) 2 rfl ?_
                  refine e_Ok.getf (z := w 275 83 + 1) rfl (el_o rfl) rfl rfl u1128.out (by omega) ?_
                  refine e_Ok.run (t' := (123, [(1, (0, w 275 78 + 1)), (0, (1, 275))], [(0, 1), (0, w 275 83 + 1), (1, 275)], w1119)) 1 rfl ?_
                  refine e_Ok.sub' (z := w 275 83) rfl (by omega) (by omega) ?_
                  refine e_Ok.putf rfl (el_o rfl) rfl rfl ?_
                  generalize hw1165 : e_up w1119 275 83 (w 275 83) = w1165
                  have f1166 : e_fr (mStm (w 275 78) (w 275 79) (w 275 80) (w 275 94)) w w1165 := e_fr.up f1122 hw1165 (by unfold mStm; omega)
                  have e1167 := up83 hw1165
                  replace e1167 := (show Hid _ from e1167)
                  have u1168 : Hid (w1165 275 78 = w 275 78 + 2) := Hid.mk (Eq.trans (e1167.out.1 275 78 (by decide)) u1123.out)
                  have u1169 : Hid (w1165 275 79 = w 275 79) := Hid.mk (Eq.trans (e1167.out.1 275 79 (by decide)) u1124.out)
                  have u1170 : Hid (w1165 275 80 = w 275 80) := Hid.mk (Eq.trans (e1167.out.1 275 80 (by decide)) u1125.out)
                  have u1171 : Hid (w1165 275 81 = w 275 81) := Hid.mk (Eq.trans (e1167.out.1 275 81 (by decide)) u1126.out)
                  have u1172 : Hid (w1165 275 82 = w 275 82) := Hid.mk (Eq.trans (e1167.out.1 275 82 (by decide)) u1127.out)
                  have u1173 : Hid (w1165 275 83 = w 275 83) := Hid.mk (e1167.out.2)
                  have u1176 : Hid (w1165 275 86 = w 275 86) := Hid.mk (Eq.trans (e1167.out.1 275 86 (by decide)) u1131.out)
                  have u1178 : Hid (w1165 275 88 = w979 275 88) := Hid.mk (Eq.trans (e1167.out.1 275 88 (by decide)) u1133.out)
                  have u1179 : Hid (w1165 275 94 = w 275 94) := Hid.mk (Eq.trans (e1167.out.1 275 94 (by decide)) u1134.out)
                  have c1180 := cSt.up c1135 hw1165
                  refine e_Ok.rets rfl rfl ?_
                  exact ⟨rfl, f1166, c1180, (by unfold stL; rw [u1168.out, u1169.out, u1170.out, u1171.out, u1172.out, u1173.out, u1176.out, u1178.out, u1179.out]; omega), (fun z => by rw [u1178.out] at z; exact absurd z (by omega))⟩
                · rw [u1133.out] at q1164z; exact absurd q1164z (by omega)
                · rw [u1133.out] at q1164z; exact absurd q1164z (by omega)
            · replace h1117 : (w979 275 88 : Int) = 0 := by have q : ¬ ((w979 275 88 : Int) ≠ 0) := h1117; omega
              exfalso; omega
          · exact absurd q1095z (by omega)
          · exact absurd q1095z (by omega)
  · show e_Ok 20 elay ecode eI (d + 1) 350 (4, [(0, (1, 275))], [], w2) _
    have u1181 : Hid (w5 275 78 = w 275 78) := Hid.mk (q4 275 78 (mRf_fld (by decide)))
    have u1182 : Hid (w5 275 79 = w 275 79) := Hid.mk (q4 275 79 (mRf_fld (by decide)))
    have u1183 : Hid (w5 275 80 = w 275 80) := Hid.mk (q4 275 80 (mRf_fld (by decide)))
    have u1184 : Hid (w5 275 81 = w 275 81) := Hid.mk (q4 275 81 (mRf_fld (by decide)))
    have u1185 : Hid (w5 275 82 = w 275 82) := Hid.mk (q4 275 82 (mRf_fld (by decide)))
    have u1187 : Hid (w5 275 84 = w 275 84) := Hid.mk (q4 275 84 (mRf_fld (by decide)))
    have u1188 : Hid (w5 275 85 = w 275 85) := Hid.mk (q4 275 85 (mRf_fld (by decide)))
    have u1189 : Hid (w5 275 86 = w 275 86) := Hid.mk (q4 275 86 (mRf_fld (by decide)))
    have u1191 : Hid (w5 275 94 = w 275 94) := Hid.mk (q4 275 94 (mRf_fld (by decide)))
    have c1192 := cSt.rf hc q4 q4T q4H
    have f1193 : e_fr (mStm (w 275 78) (w 275 79) (w 275 80) (w 275 94)) w w5 := e_fr.trans (e_fr.refl w) (e_fr.mono q4 (fun c k g => mRf_St g))
    have e1194 := up83 q4u
    replace e1194 := (show Hid _ from e1194)
    have u1195 : Hid (w2 275 78 = w 275 78) := Hid.mk (Eq.trans (e1194.out.1 275 78 (by decide)) u1181.out)
    have u1196 : Hid (w2 275 79 = w 275 79) := Hid.mk (Eq.trans (e1194.out.1 275 79 (by decide)) u1182.out)
    have u1197 : Hid (w2 275 80 = w 275 80) := Hid.mk (Eq.trans (e1194.out.1 275 80 (by decide)) u1183.out)
    have u1198 : Hid (w2 275 81 = w 275 81) := Hid.mk (Eq.trans (e1194.out.1 275 81 (by decide)) u1184.out)
    have u1199 : Hid (w2 275 82 = w 275 82) := Hid.mk (Eq.trans (e1194.out.1 275 82 (by decide)) u1185.out)
    have u1200 : Hid (w2 275 83 = w 275 83 + 1) := Hid.mk (e1194.out.2)
    have u1201 : Hid (w2 275 84 = w 275 84) := Hid.mk (Eq.trans (e1194.out.1 275 84 (by decide)) u1187.out)
    have u1202 : Hid (w2 275 85 = w 275 85) := Hid.mk (Eq.trans (e1194.out.1 275 85 (by decide)) u1188.out)
    have u1203 : Hid (w2 275 86 = w 275 86) := Hid.mk (Eq.trans (e1194.out.1 275 86 (by decide)) u1189.out)
    have u1205 : Hid (w2 275 88 = w5 275 88) := Hid.mk (e1194.out.1 275 88 (by decide))
    have u1206 : Hid (w2 275 94 = w 275 94) := Hid.mk (Eq.trans (e1194.out.1 275 94 (by decide)) u1191.out)
    have c1207 := cSt.up c1192 q4u
    have f1208 : e_fr (mStm (w 275 78) (w 275 79) (w 275 80) (w 275 94)) w w2 := e_fr.trans f1193 (fun c k g => e1194.out.1 c k (fun g2 => g (mU_St g2)))
    refine e_Ok.run (t' := (8, [(0, (1, 275))], [(0, 0), (0, 30), (1, 275)], w2)) 3 rfl ?_
    refine e_Ok.callV rfl (Nat.le_trans (by decide) hdq) rfl rfl rfl rfl (c_336 c1207.1 (n := w 275 78) u1195.out (by omega) (s := w 275 81) u1198.out (by omega)) (fun r1209 w1210 h1211 => ?_)
    obtain ⟨rfl, q1212⟩ := h1211
    replace q1212 := (show Hid (EM w2 w1210 (w 275 78) 30 (0) (w 275 81)) from q1212)
    have u1213 : Hid (w1210 275 78 = w 275 78 + 1) := Hid.mk (Eq.trans q1212.out.2.2.2.2 (by omega))
    have u1214 : Hid (w1210 275 79 = w 275 79) := Hid.mk (Eq.trans (q1212.out.fld (by decide)) u1196.out)
    have u1215 : Hid (w1210 275 80 = w 275 80) := Hid.mk (Eq.trans (q1212.out.fld (by decide)) u1197.out)
    have u1216 : Hid (w1210 275 81 = w 275 81) := Hid.mk (Eq.trans (q1212.out.fld (by decide)) u1198.out)
    have u1217 : Hid (w1210 275 82 = w 275 82) := Hid.mk (Eq.trans (q1212.out.fld (by decide)) u1199.out)
    have u1218 : Hid (w1210 275 83 = w 275 83 + 1) := Hid.mk (Eq.trans (q1212.out.fld (by decide)) u1200.out)
    have u1219 : Hid (w1210 275 84 = w 275 84) := Hid.mk (Eq.trans (q1212.out.fld (by decide)) u1201.out)
    have u1220 : Hid (w1210 275 85 = w 275 85) := Hid.mk (Eq.trans (q1212.out.fld (by decide)) u1202.out)
    have u1221 : Hid (w1210 275 86 = w 275 86) := Hid.mk (Eq.trans (q1212.out.fld (by decide)) u1203.out)
    have u1223 : Hid (w1210 275 88 = w5 275 88) := Hid.mk (Eq.trans (q1212.out.fld (by decide)) u1205.out)
    have u1224 : Hid (w1210 275 94 = w 275 94) := Hid.mk (Eq.trans (q1212.out.fld (by decide)) u1206.out)
    have f1225 : e_fr (mStm (w 275 78) (w 275 79) (w 275 80) (w 275 94)) w w1210 := e_fr.trans f1208 (q1212.out.st (by omega))
    have c1226 := cSt.em c1207 q1212.out (by decide) (by omega) (by omega)
    show e_Ok 20 elay ecode eI (d + 1) 350 (11, [(0, (1, 275))], [(0, w 275 78)], w1210) _
    refine e_Ok.run (t' := (16, [(0, (1, 275))], [(0, 18), (1, 275), (1, 275)], w1210)) 4 rfl ?_
    refine e_Ok.callV rfl (Nat.le_trans (by decide) hdq) rfl rfl rfl rfl (c_332 c1226.1 (N := N) c1226.2.2.2.1) (fun r1227 w1228 h1229 => ?_)
    obtain ⟨z1230, rfl, rfl, q1231⟩ := h1229
    obtain ⟨rfl, q1231, q1231b⟩ | ⟨rfl, q1231n⟩ := q1231
    · show e_Ok 20 elay ecode eI (d + 1) 350 (19, [(0, (1, 275))], [(0, 1), (1, 275)], w1210) _
      rw [u1219.out] at q1231
      rw [u1220.out] at q1231b
      refine e_Ok.callV rfl (Nat.le_trans (by decide) hdq) rfl rfl rfl rfl (c_334 (Nat.le_trans (by decide) hdq) c1226.1 c1226.2.1 c1226.2.2.1 hNr c1226.2.2.2.1 (by decide)) (fun r1232 w1233 h1234 => ?_)
      obtain ⟨rfl, q1235⟩ := h1234
      obtain ⟨rfl, q1235z⟩ | ⟨q1235z, q1235b, q1235, q1235s, q1235t⟩ | ⟨q1235z, q1235b, q1235, q1235T, q1235H, q1235r⟩ := q1235
      · show e_Ok 20 elay ecode eI (d + 1) 350 (22, [(0, (1, 275))], [], w1210) _
        rw [u1223.out] at q1235z
        refine e_Ok.run (t' := (23, [(0, (1, 275))], [(1, 275)], w1210)) 1 rfl ?_
        refine e_Ok.callV rfl (Nat.le_trans (by decide) hdq) rfl rfl rfl rfl (c_339_0 (Nat.le_trans (by decide) hdq) c1226 (by rw [u1223.out] <;> omega)) (fun r1236 w1237 h1238 => ?_)
        obtain ⟨rfl, rfl⟩ := h1238
        show e_Ok 20 elay ecode eI (d + 1) 350 (26, [(0, (1, 275))], [], w1210) _
        refine e_Ok.run (t' := (30, [(0, (1, 275))], [(0, 58), (1, 275), (1, 275)], w1210)) 3 rfl ?_
        refine e_Ok.callV rfl (Nat.le_trans (by decide) hdq) rfl rfl rfl rfl (c_331 c1226.1 (N := N) c1226.2.2.2.1) (fun r1239 w1240 h1241 => ?_)
        obtain ⟨z1242, rfl, rfl, q1243⟩ := h1241
        obtain ⟨rfl, q1243, q1243b⟩ | ⟨rfl, q1243n⟩ := q1243
        · show e_Ok 20 elay ecode eI (d + 1) 350 (33, [(0, (1, 275))], [(0, 1), (1, 275)], w1210) _
          rw [u1219.out] at q1243
          rw [u1220.out] at q1243b
          refine e_Ok.callV rfl (Nat.le_trans (by decide) hdq) rfl rfl rfl rfl (c_334 (Nat.le_trans (by decide) hdq) c1226.1 c1226.2.1 c1226.2.2.1 hNr c1226.2.2.2.1 (by decide)) (fun r1244 w1245 h1246 => ?_)
          obtain ⟨rfl, q1247⟩ := h1246
          obtain ⟨rfl, q1247z⟩ | ⟨q1247z, q1247b, q1247, q1247s, q1247t⟩ | ⟨q1247z, q1247b, q1247, q1247T, q1247H, q1247r⟩ := q1247
          · show e_Ok 20 elay ecode eI (d + 1) 350 (36, [(0, (1, 275))], [], w1210) _
            rw [u1223.out] at q1247z
            refine e_Ok.run (t' := (40, [(0, (1, 275))], [(0, 0), (0, 47), (1, 275)], w1210)) 3 rfl ?_
            refine e_Ok.callV rfl (Nat.le_trans (by decide) hdq) rfl rfl rfl rfl (c_336 c1226.1 (n := w 275 78 + 1) u1213.out (by omega) (s := w 275 81) u1216.out (by omega)) (fun r1248 w1249 h1250 => ?_)
            obtain ⟨rfl, q1251⟩ := h1250
            replace q1251 := (show Hid (EM w1210 w1249 (w 275 78 + 1) 47 (0) (w 275 81)) from q1251)
            have u1252 : Hid (w1249 275 78 = w 275 78 + 2) := Hid.mk (Eq.trans q1251.out.2.2.2.2 (by omega))
            have u1253 : Hid (w1249 275 79 = w 275 79) := Hid.mk (Eq.trans (q1251.out.fld (by decide)) u1214.out)
            have u1254 : Hid (w1249 275 80 = w 275 80) := Hid.mk (Eq.trans (q1251.out.fld (by decide)) u1215.out)
            have u1255 : Hid (w1249 275 81 = w 275 81) := Hid.mk (Eq.trans (q1251.out.fld (by decide)) u1216.out)
            have u1256 : Hid (w1249 275 82 = w 275 82) := Hid.mk (Eq.trans (q1251.out.fld (by decide)) u1217.out)
            have u1257 : Hid (w1249 275 83 = w 275 83 + 1) := Hid.mk (Eq.trans (q1251.out.fld (by decide)) u1218.out)
            have u1258 : Hid (w1249 275 84 = w 275 84) := Hid.mk (Eq.trans (q1251.out.fld (by decide)) u1219.out)
            have u1259 : Hid (w1249 275 85 = w 275 85) := Hid.mk (Eq.trans (q1251.out.fld (by decide)) u1220.out)
            have u1260 : Hid (w1249 275 86 = w 275 86) := Hid.mk (Eq.trans (q1251.out.fld (by decide)) u1221.out)
            have u1262 : Hid (w1249 275 88 = w5 275 88) := Hid.mk (Eq.trans (q1251.out.fld (by decide)) u1223.out)
            have u1263 : Hid (w1249 275 94 = w 275 94) := Hid.mk (Eq.trans (q1251.out.fld (by decide)) u1224.out)
            have f1264 : e_fr (mStm (w 275 78) (w 275 79) (w 275 80) (w 275 94)) w w1249 := e_fr.trans f1225 (q1251.out.st (by omega))
            have c1265 := cSt.em c1226 q1251.out (by decide) (by omega) (by omega)
            show e_Ok 20 elay ecode eI (d + 1) 350 (43, [(0, (1, 275))], [(0, w 275 78 + 1)], w1249) _
            refine e_Ok.run (t' := (45, [(1, (0, w 275 78 + 1)), (0, (1, 275))], [(1, 275)], w1249)) 2 rfl ?_
            refine e_Ok.callV rfl (Nat.le_trans (by decide) hdq) rfl rfl rfl rfl (c_348_0 (Nat.le_trans (by decide) hdq) c1265 (by rw [u1262.out] <;> omega)) (fun r1266 w1267 h1268 => ?_)
            obtain ⟨rfl, rfl⟩ := h1268
            show e_Ok 20 elay ecode eI (d + 1) 350 (48, [(1, (0, w 275 78 + 1)), (0, (1, 275))], [], w1249) _
            refine e_Ok.run (t' := (49, [(1, (0, w 275 78 + 1)), (0, (1, 275))], [(1, 275)], w1249)) 1 rfl ?_
            refine e_Ok.getf (z := w5 275 88) rfl (el_o rfl) rfl rfl u1262.out (by omega) ?_
            refine e_Ok.if1 rfl (fun h1269 => ?_) (fun h1269 => ?_)
            · replace h1269 : (w5 275 88 : Int) ≠ 0 := h1269
              refine e_Ok.run (t' := (105, [(1, (0, w 275 78 + 1)), (0, (1, 275))], [(0, w 275 78 + 1), (1, 275)], w1249)) 2 rfl ?_
              refine e_Ok.callV rfl (Nat.le_trans (by decide) hdq) rfl rfl rfl rfl (c_337 c1265.1 (n := w 275 78 + 2) u1252.out (by omega) (by omega)) (fun r1270 w1271 h1272 => ?_)
              obtain ⟨rfl, q1273⟩ := h1272
              have f1274 : e_fr (mStm (w 275 78) (w 275 79) (w 275 80) (w 275 94)) w w1271 := e_fr.up f1264 q1273 (by unfold mStm; omega)
              have u1275 : Hid (w1271 275 78 = w 275 78 + 2) := Hid.mk (Eq.trans (by rw [← q1273]; exact e_up_ne _ _ (Or.inl (by decide))) u1252.out)
              have u1276 : Hid (w1271 275 79 = w 275 79) := Hid.mk (Eq.trans (by rw [← q1273]; exact e_up_ne _ _ (Or.inl (by decide))) u1253.out)
              have u1277 : Hid (w1271 275 80 = w 275 80) := Hid.mk (Eq.trans (by rw [← q1273]; exact e_up_ne _ _ (Or.inl (by decide))) u1254.out)
              have u1278 : Hid (w1271 275 81 = w 275 81) := Hid.mk (Eq.trans (by rw [← q1273]; exact e_up_ne _ _ (Or.inl (by decide))) u1255.out)
              have u1279 : Hid (w1271 275 82 = w 275 82) := Hid.mk (Eq.trans (by rw [← q1273]; exact e_up_ne _ _ (Or.inl (by decide))) u1256.out)
              have u1280 : Hid (w1271 275 83 = w 275 83 + 1) := Hid.mk (Eq.trans (by rw [← q1273]; exact e_up_ne _ _ (Or.inl (by decide))) u1257.out)
              have u1281 : Hid (w1271 275 84 = w 275 84) := Hid.mk (Eq.trans (by rw [← q1273]; exact e_up_ne _ _ (Or.inl (by decide))) u1258.out)
              have u1282 : Hid (w1271 275 85 = w 275 85) := Hid.mk (Eq.trans (by rw [← q1273]; exact e_up_ne _ _ (Or.inl (by decide))) u1259.out)
              have u1283 : Hid (w1271 275 86 = w 275 86) := Hid.mk (Eq.trans (by rw [← q1273]; exact e_up_ne _ _ (Or.inl (by decide))) u1260.out)
              have u1285 : Hid (w1271 275 88 = w5 275 88) := Hid.mk (Eq.trans (by rw [← q1273]; exact e_up_ne _ _ (Or.inl (by decide))) u1262.out)
              have u1286 : Hid (w1271 275 94 = w 275 94) := Hid.mk (Eq.trans (by rw [← q1273]; exact e_up_ne _ _ (Or.inl (by decide))) u1263.out)
              have c1287 := cSt.wr c1265 q1273 (Or.inl rfl) (by omega) rfl (fun y => absurd y (by decide))
              show e_Ok 20 elay ecode eI (d + 1) 350 (108, [(1, (0, w 275 78 + 1)), (0, (1, 275))], [], w1271) _
              refine e_Ok.run (t' := (111, [(1, (0, w 275 78 + 1)), (0, (1, 275))], [(0, 2), (1, 275), (1, 275)], w1271)) 3 rfl ?_
              refine e_Ok.callV rfl (Nat.le_trans (by decide) hdq) rfl rfl rfl rfl (c_332 c1287.1 (N := N) c1287.2.2.2.1) (fun r1288 w1289 h1290 => ?_)
              obtain ⟨z1291, rfl, rfl, q1292⟩ := h1290
              obtain ⟨rfl, q1292, q1292b⟩ | ⟨rfl, q1292n⟩ := q1292
              · show e_Ok 20 elay ecode eI (d + 1) 350 (114, [(1, (0, w 275 78 + 1)), (0, (1, 275))], [(0, 1), (1, 275)], w1271) _
                rw [u1281.out] at q1292
                rw [u1282.out] at q1292b
                refine e_Ok.callV rfl (Nat.le_trans (by decide) hdq) rfl rfl rfl rfl (c_334 (Nat.le_trans (by decide) hdq) c1287.1 c1287.2.1 c1287.2.2.1 hNr c1287.2.2.2.1 (by decide)) (fun r1293 w1294 h1295 => ?_)
                obtain ⟨rfl, q1296⟩ := h1295
                obtain ⟨rfl, q1296z⟩ | ⟨q1296z, q1296b, q1296, q1296s, q1296t⟩ | ⟨q1296z, q1296b, q1296, q1296T, q1296H, q1296r⟩ := q1296
                · show e_Ok 20 elay ecode eI (d + 1) 350 (117, [(1, (0, w 275 78 + 1)), (0, (1, 275))], [], w1271) _
                  rw [u1285.out] at q1296z
                  refine e_Ok.run (t' := (119, [(1, (0, w 275 78 + 1)), (0, (1, 275))], [(1, 275), (1, 275)], w1271)) 2 rfl ?_
                  refine e_Ok.getf (z := w 275 83 + 1) rfl (el_o rfl) rfl rfl u1280.out (by omega) ?_
                  refine e_Ok.run (t' := (123, [(1, (0, w 275 78 + 1)), (0, (1, 275))], [(0, 1), (0, w 275 83 + 1), (1, 275)], w1271)) 1 rfl ?_
                  refine e_Ok.sub' (z := w 275 83) rfl (by omega) (by omega) ?_
                  refine e_Ok.putf rfl (el_o rfl) rfl rfl ?_
                  generalize hw1297 : e_up w1271 275 83 (w 275 83) = w1297
                  have f1298 : e_fr (mStm (w 275 78) (w 275 79) (w 275 80) (w 275 94)) w w1297 := e_fr.up f1274 hw1297 (by unfold mStm; omega)
                  have e1299 := up83 hw1297
                  replace e1299 := (show Hid _ from e1299)
                  have u1300 : Hid (w1297 275 78 = w 275 78 + 2) := Hid.mk (Eq.trans (e1299.out.1 275 78 (by decide)) u1275.out)
                  have u1301 : Hid (w1297 275 79 = w 275 79) := Hid.mk (Eq.trans (e1299.out.1 275 79 (by decide)) u1276.out)
                  have u1302 : Hid (w1297 275 80 = w 275 80) := Hid.mk (Eq.trans (e1299.out.1 275 80 (by decide)) u1277.out)
                  have u1303 : Hid (w1297 275 81 = w 275 81) := Hid.mk (Eq.trans (e1299.out.1 275 81 (by decide)) u1278.out)
                  have u1304 : Hid (w1297 275 82 = w 275 82) := Hid.mk (Eq.trans (e1299.out.1 275 82 (by decide)) u1279.out)
                  have u1305 : Hid (w1297 275 83 = w 275 83) := Hid.mk (e1299.out.2)
                  have u1308 : Hid (w1297 275 86 = w 275 86) := Hid.mk (Eq.trans (e1299.out.1 275 86 (by decide)) u1283.out)
                  have u1310 : Hid (w1297 275 88 = w5 275 88) := Hid.mk (Eq.trans (e1299.out.1 275 88 (by decide)) u1285.out)
                  have u1311 : Hid (w1297 275 94 = w 275 94) := Hid.mk (Eq.trans (e1299.out.1 275 94 (by decide)) u1286.out)
                  have c1312 := cSt.up c1287 hw1297
                  refine e_Ok.rets rfl rfl ?_
                  exact ⟨rfl, f1298, c1312, (by unfold stL; rw [u1300.out, u1301.out, u1302.out, u1303.out, u1304.out, u1305.out, u1308.out, u1310.out, u1311.out]; omega), (fun z => by rw [u1310.out] at z; exact absurd z (by omega))⟩
                · rw [u1285.out] at q1296z; exact absurd q1296z (by omega)
                · rw [u1285.out] at q1296z; exact absurd q1296z (by omega)
              · show e_Ok 20 elay ecode eI (d + 1) 350 (114, [(1, (0, w 275 78 + 1)), (0, (1, 275))], [(0, 0), (1, 275)], w1271) _
                clear q1292n
                refine e_Ok.callV rfl (Nat.le_trans (by decide) hdq) rfl rfl rfl rfl (c_334 (Nat.le_trans (by decide) hdq) c1287.1 c1287.2.1 c1287.2.2.1 hNr c1287.2.2.2.1 (by decide)) (fun r1313 w1314 h1315 => ?_)
                obtain ⟨rfl, q1316⟩ := h1315
                obtain ⟨rfl, q1316z⟩ | ⟨q1316z, q1316b, q1316, q1316s, q1316t⟩ | ⟨q1316z, q1316b, q1316, q1316T, q1316H, q1316r⟩ := q1316
                · show e_Ok 20 elay ecode eI (d + 1) 350 (117, [(1, (0, w 275 78 + 1)), (0, (1, 275))], [], w1271) _
                  rw [u1285.out] at q1316z
                  refine e_Ok.run (t' := (119, [(1, (0, w 275 78 + 1)), (0, (1, 275))], [(1, 275), (1, 275)], w1271)) 2 rfl ?_
                  refine e_Ok.getf (z := w 275 83 + 1) rfl (el_o rfl) rfl rfl u1280.out (by omega) ?_
                  refine e_Ok.run (t' := (123, [(1, (0, w 275 78 + 1)), (0, (1, 275))], [(0, 1), (0, w 275 83 + 1), (1, 275)], w1271)) 1 rfl ?_
                  refine e_Ok.sub' (z := w 275 83) rfl (by omega) (by omega) ?_
                  refine e_Ok.putf rfl (el_o rfl) rfl rfl ?_
                  generalize hw1317 : e_up w1271 275 83 (w 275 83) = w1317
                  have f1318 : e_fr (mStm (w 275 78) (w 275 79) (w 275 80) (w 275 94)) w w1317 := e_fr.up f1274 hw1317 (by unfold mStm; omega)
                  have e1319 := up83 hw1317
                  replace e1319 := (show Hid _ from e1319)
                  have u1320 : Hid (w1317 275 78 = w 275 78 + 2) := Hid.mk (Eq.trans (e1319.out.1 275 78 (by decide)) u1275.out)
                  have u1321 : Hid (w1317 275 79 = w 275 79) := Hid.mk (Eq.trans (e1319.out.1 275 79 (by decide)) u1276.out)
                  have u1322 : Hid (w1317 275 80 = w 275 80) := Hid.mk (Eq.trans (e1319.out.1 275 80 (by decide)) u1277.out)
                  have u1323 : Hid (w1317 275 81 = w 275 81) := Hid.mk (Eq.trans (e1319.out.1 275 81 (by decide)) u1278.out)
                  have u1324 : Hid (w1317 275 82 = w 275 82) := Hid.mk (Eq.trans (e1319.out.1 275 82 (by decide)) u1279.out)
                  have u1325 : Hid (w1317 275 83 = w 275 83) := Hid.mk (e1319.out.2)
                  have u1328 : Hid (w1317 275 86 = w 275 86) := Hid.mk (Eq.trans (e1319.out.1 275 86 (by decide)) u1283.out)
                  have u1330 : Hid (w1317 275 88 = w5 275 88) := Hid.mk (Eq.trans (e1319.out.1 275 88 (by decide)) u1285.out)
                  have u1331 : Hid (w1317 275 94 = w 275 94) := Hid.mk (Eq.trans (e1319.out.1 275 94 (by decide)) u1286.out)
                  have c1332 := cSt.up c1287 hw1317
                  refine e_Ok.rets rfl rfl ?_
                  exact ⟨rfl, f1318, c1332, (by unfold stL; rw [u1320.out, u1321.out, u1322.out, u1323.out, u1324.out, u1325.out, u1328.out, u1330.out, u1331.out]; omega), (fun z => by rw [u1330.out] at z; exact absurd z (by omega))⟩
                · rw [u1285.out] at q1316z; exact absurd q1316z (by omega)
                · rw [u1285.out] at q1316z; exact absurd q1316z (by omega)
            · replace h1269 : (w5 275 88 : Int) = 0 := by have q : ¬ ((w5 275 88 : Int) ≠ 0) := h1269; omega
              exfalso; omega
          · rw [u1223.out] at q1247z; exact absurd q1247z (by omega)
          · rw [u1223.out] at q1247z; exact absurd q1247z (by omega)
        · show e_Ok 20 elay ecode eI (d + 1) 350 (33, [(0, (1, 275))], [(0, 0), (1, 275)], w1210) _
          clear q1243n
          refine e_Ok.callV rfl (Nat.le_trans (by decide) hdq) rfl rfl rfl rfl (c_334 (Nat.le_trans (by decide) hdq) c1226.1 c1226.2.1 c1226.2.2.1 hNr c1226.2.2.2.1 (by decide)) (fun r1333 w1334 h1335 => ?_)
          obtain ⟨rfl, q1336⟩ := h1335
          obtain ⟨rfl, q1336z⟩ | ⟨q1336z, q1336b, q1336, q1336s, q1336t⟩ | ⟨q1336z, q1336b, q1336, q1336T, q1336H, q1336r⟩ := q1336
          · show e_Ok 20 elay ecode eI (d + 1) 350 (36, [(0, (1, 275))], [], w1210) _
            rw [u1223.out] at q1336z
            refine e_Ok.run (t' := (40, [(0, (1, 275))], [(0, 0), (0, 47), (1, 275)], w1210)) 3 rfl ?_
            refine e_Ok.callV rfl (Nat.le_trans (by decide) hdq) rfl rfl rfl rfl (c_336 c1226.1 (n := w 275 78 + 1) u1213.out (by omega) (s := w 275 81) u1216.out (by omega)) (fun r1337 w1338 h1339 => ?_)
            obtain ⟨rfl, q1340⟩ := h1339
            replace q1340 := (show Hid (EM w1210 w1338 (w 275 78 + 1) 47 (0) (w 275 81)) from q1340)
            have u1341 : Hid (w1338 275 78 = w 275 78 + 2) := Hid.mk (Eq.trans q1340.out.2.2.2.2 (by omega))
            have u1342 : Hid (w1338 275 79 = w 275 79) := Hid.mk (Eq.trans (q1340.out.fld (by decide)) u1214.out)
            have u1343 : Hid (w1338 275 80 = w 275 80) := Hid.mk (Eq.trans (q1340.out.fld (by decide)) u1215.out)
            have u1344 : Hid (w1338 275 81 = w 275 81) := Hid.mk (Eq.trans (q1340.out.fld (by decide)) u1216.out)
            have u1345 : Hid (w1338 275 82 = w 275 82) := Hid.mk (Eq.trans (q1340.out.fld (by decide)) u1217.out)
            have u1346 : Hid (w1338 275 83 = w 275 83 + 1) := Hid.mk (Eq.trans (q1340.out.fld (by decide)) u1218.out)
            have u1347 : Hid (w1338 275 84 = w 275 84) := Hid.mk (Eq.trans (q1340.out.fld (by decide)) u1219.out)
            have u1348 : Hid (w1338 275 85 = w 275 85) := Hid.mk (Eq.trans (q1340.out.fld (by decide)) u1220.out)
            have u1349 : Hid (w1338 275 86 = w 275 86) := Hid.mk (Eq.trans (q1340.out.fld (by decide)) u1221.out)
            have u1351 : Hid (w1338 275 88 = w5 275 88) := Hid.mk (Eq.trans (q1340.out.fld (by decide)) u1223.out)
            have u1352 : Hid (w1338 275 94 = w 275 94) := Hid.mk (Eq.trans (q1340.out.fld (by decide)) u1224.out)
            have f1353 : e_fr (mStm (w 275 78) (w 275 79) (w 275 80) (w 275 94)) w w1338 := e_fr.trans f1225 (q1340.out.st (by omega))
            have c1354 := cSt.em c1226 q1340.out (by decide) (by omega) (by omega)
            show e_Ok 20 elay ecode eI (d + 1) 350 (43, [(0, (1, 275))], [(0, w 275 78 + 1)], w1338) _
            refine e_Ok.run (t' := (45, [(1, (0, w 275 78 + 1)), (0, (1, 275))], [(1, 275)], w1338)) 2 rfl ?_
            refine e_Ok.callV rfl (Nat.le_trans (by decide) hdq) rfl rfl rfl rfl (c_348_0 (Nat.le_trans (by decide) hdq) c1354 (by rw [u1351.out] <;> omega)) (fun r1355 w1356 h1357 => ?_)
            obtain ⟨rfl, rfl⟩ := h1357
            show e_Ok 20 elay ecode eI (d + 1) 350 (48, [(1, (0, w 275 78 + 1)), (0, (1, 275))], [], w1338) _
            refine e_Ok.run (t' := (49, [(1, (0, w 275 78 + 1)), (0, (1, 275))], [(1, 275)], w1338)) 1 rfl ?_
            refine e_Ok.getf (z := w5 275 88) rfl (el_o rfl) rfl rfl u1351.out (by omega) ?_
            refine e_Ok.if1 rfl (fun h1358 => ?_) (fun h1358 => ?_)
            · replace h1358 : (w5 275 88 : Int) ≠ 0 := h1358
              refine e_Ok.run (t' := (105, [(1, (0, w 275 78 + 1)), (0, (1, 275))], [(0, w 275 78 + 1), (1, 275)], w1338)) 2 rfl ?_
              refine e_Ok.callV rfl (Nat.le_trans (by decide) hdq) rfl rfl rfl rfl (c_337 c1354.1 (n := w 275 78 + 2) u1341.out (by omega) (by omega)) (fun r1359 w1360 h1361 => ?_)
              obtain ⟨rfl, q1362⟩ := h1361
              have f1363 : e_fr (mStm (w 275 78) (w 275 79) (w 275 80) (w 275 94)) w w1360 := e_fr.up f1353 q1362 (by unfold mStm; omega)
              have u1364 : Hid (w1360 275 78 = w 275 78 + 2) := Hid.mk (Eq.trans (by rw [← q1362]; exact e_up_ne _ _ (Or.inl (by decide))) u1341.out)
              have u1365 : Hid (w1360 275 79 = w 275 79) := Hid.mk (Eq.trans (by rw [← q1362]; exact e_up_ne _ _ (Or.inl (by decide))) u1342.out)
              have u1366 : Hid (w1360 275 80 = w 275 80) := Hid.mk (Eq.trans (by rw [← q1362]; exact e_up_ne _ _ (Or.inl (by decide))) u1343.out)
              have u1367 : Hid (w1360 275 81 = w 275 81) := Hid.mk (Eq.trans (by rw [← q1362]; exact e_up_ne _ _ (Or.inl (by decide))) u1344.out)
              have u1368 : Hid (w1360 275 82 = w 275 82) := Hid.mk (Eq.trans (by rw [← q1362]; exact e_up_ne _ _ (Or.inl (by decide))) u1345.out)
              have u1369 : Hid (w1360 275 83 = w 275 83 + 1) := Hid.mk (Eq.trans (by rw [← q1362]; exact e_up_ne _ _ (Or.inl (by decide))) u1346.out)
              have u1370 : Hid (w1360 275 84 = w 275 84) := Hid.mk (Eq.trans (by rw [← q1362]; exact e_up_ne _ _ (Or.inl (by decide))) u1347.out)
              have u1371 : Hid (w1360 275 85 = w 275 85) := Hid.mk (Eq.trans (by rw [← q1362]; exact e_up_ne _ _ (Or.inl (by decide))) u1348.out)
              have u1372 : Hid (w1360 275 86 = w 275 86) := Hid.mk (Eq.trans (by rw [← q1362]; exact e_up_ne _ _ (Or.inl (by decide))) u1349.out)
              have u1374 : Hid (w1360 275 88 = w5 275 88) := Hid.mk (Eq.trans (by rw [← q1362]; exact e_up_ne _ _ (Or.inl (by decide))) u1351.out)
              have u1375 : Hid (w1360 275 94 = w 275 94) := Hid.mk (Eq.trans (by rw [← q1362]; exact e_up_ne _ _ (Or.inl (by decide))) u1352.out)
              have c1376 := cSt.wr c1354 q1362 (Or.inl rfl) (by omega) rfl (fun y => absurd y (by decide))
              show e_Ok 20 elay ecode eI (d + 1) 350 (108, [(1, (0, w 275 78 + 1)), (0, (1, 275))], [], w1360) _
              refine e_Ok.run (t' := (111, [(1, (0, w 275 78 + 1)), (0, (1, 275))], [(0, 2), (1, 275), (1, 275)], w1360)) 3 rfl ?_
              refine e_Ok.callV rfl (Nat.le_trans (by decide) hdq) rfl rfl rfl rfl (c_332 c1376.1 (N := N) c1376.2.2.2.1) (fun r1377 w1378 h1379 => ?_)
              obtain ⟨z1380, rfl, rfl, q1381⟩ := h1379
              obtain ⟨rfl, q1381, q1381b⟩ | ⟨rfl, q1381n⟩ := q1381
              · show e_Ok 20 elay ecode eI (d + 1) 350 (114, [(1, (0, w 275 78 + 1)), (0, (1, 275))], [(0, 1), (1, 275)], w1360) _
                rw [u1370.out] at q1381
                rw [u1371.out] at q1381b
                refine e_Ok.callV rfl (Nat.le_trans (by decide) hdq) rfl rfl rfl rfl (c_334 (Nat.le_trans (by decide) hdq) c1376.1 c1376.2.1 c1376.2.2.1 hNr c1376.2.2.2.1 (by decide)) (fun r1382 w1383 h1384 => ?_)
                obtain ⟨rfl, q1385⟩ := h1384
                obtain ⟨rfl, q1385z⟩ | ⟨q1385z, q1385b, q1385, q1385s, q1385t⟩ | ⟨q1385z, q1385b, q1385, q1385T, q1385H, q1385r⟩ := q1385
                · show e_Ok 20 elay ecode eI (d + 1) 350 (117, [(1, (0, w 275 78 + 1)), (0, (1, 275))], [], w1360) _
                  rw [u1374.out] at q1385z
                  refine e_Ok.run (t' := (119, [(1, (0, w 275 78 + 1)), (0, (1, 275))], [(1, 275), (1, 275)], w1360)) 2 rfl ?_
                  refine e_Ok.getf (z := w 275 83 + 1) rfl (el_o rfl) rfl rfl u1369.out (by omega) ?_
                  refine e_Ok.run (t' := (123, [(1, (0, w 275 78 + 1)), (0, (1, 275))], [(0, 1), (0, w 275 83 + 1), (1, 275)], w1360)) 1 rfl ?_
                  refine e_Ok.sub' (z := w 275 83) rfl (by omega) (by omega) ?_
                  refine e_Ok.putf rfl (el_o rfl) rfl rfl ?_
                  generalize hw1386 : e_up w1360 275 83 (w 275 83) = w1386
                  have f1387 : e_fr (mStm (w 275 78) (w 275 79) (w 275 80) (w 275 94)) w w1386 := e_fr.up f1363 hw1386 (by unfold mStm; omega)
                  have e1388 := up83 hw1386
                  replace e1388 := (show Hid _ from e1388)
                  have u1389 : Hid (w1386 275 78 = w 275 78 + 2) := Hid.mk (Eq.trans (e1388.out.1 275 78 (by decide)) u1364.out)
                  have u1390 : Hid (w1386 275 79 = w 275 79) := Hid.mk (Eq.trans (e1388.out.1 275 79 (by decide)) u1365.out)
                  have u1391 : Hid (w1386 275 80 = w 275 80) := Hid.mk (Eq.trans (e1388.out.1 275 80 (by decide)) u1366.out)
                  have u1392 : Hid (w1386 275 81 = w 275 81) := Hid.mk (Eq.trans (e1388.out.1 275 81 (by decide)) u1367.out)
                  have u1393 : Hid (w1386 275 82 = w 275 82) := Hid.mk (Eq.trans (e1388.out.1 275 82 (by decide)) u1368.out)
                  have u1394 : Hid (w1386 275 83 = w 275 83) := Hid.mk (e1388.out.2)
                  have u1397 : Hid (w1386 275 86 = w 275 86) := Hid.mk (Eq.trans (e1388.out.1 275 86 (by decide)) u1372.out)
                  have u1399 : Hid (w1386 275 88 = w5 275 88) := Hid.mk (Eq.trans (e1388.out.1 275 88 (by decide)) u1374.out)
                  have u1400 : Hid (w1386 275 94 = w 275 94) := Hid.mk (Eq.trans (e1388.out.1 275 94 (by decide)) u1375.out)
                  have c1401 := cSt.up c1376 hw1386
                  refine e_Ok.rets rfl rfl ?_
                  exact ⟨rfl, f1387, c1401, (by unfold stL; rw [u1389.out, u1390.out, u1391.out, u1392.out, u1393.out, u1394.out, u1397.out, u1399.out, u1400.out]; omega), (fun z => by rw [u1399.out] at z; exact absurd z (by omega))⟩
                · rw [u1374.out] at q1385z; exact absurd q1385z (by omega)
                · rw [u1374.out] at q1385z; exact absurd q1385z (by omega)
              · show e_Ok 20 elay ecode eI (d + 1) 350 (114, [(1, (0, w 275 78 + 1)), (0, (1, 275))], [(0, 0), (1, 275)], w1360) _
                clear q1381n
                refine e_Ok.callV rfl (Nat.le_trans (by decide) hdq) rfl rfl rfl rfl (c_334 (Nat.le_trans (by decide) hdq) c1376.1 c1376.2.1 c1376.2.2.1 hNr c1376.2.2.2.1 (by decide)) (fun r1402 w1403 h1404 => ?_)
                obtain ⟨rfl, q1405⟩ := h1404
                obtain ⟨rfl, q1405z⟩ | ⟨q1405z, q1405b, q1405, q1405s, q1405t⟩ | ⟨q1405z, q1405b, q1405, q1405T, q1405H, q1405r⟩ := q1405
                · show e_Ok 20 elay ecode eI (d + 1) 350 (117, [(1, (0, w 275 78 + 1)), (0, (1, 275))], [], w1360) _
                  rw [u1374.out] at q1405z
                  refine e_Ok.run (t' := (119, [(1, (0, w 275 78 + 1)), (0, (1, 275))], [(1, 275), (1, 275)], w1360)) 2 rfl ?_
                  refine e_Ok.getf (z := w 275 83 + 1) rfl (el_o rfl) rfl rfl u1369.out (by omega) ?_
                  refine e_Ok.run (t' := (123, [(1, (0, w 275 78 + 1)), (0, (1, 275))], [(0, 1), (0, w 275 83 + 1), (1, 275)], w1360)) 1 rfl ?_
                  refine e_Ok.sub' (z := w 275 83) rfl (by omega) (by omega) ?_
                  refine e_Ok.putf rfl (el_o rfl) rfl rfl ?_
                  generalize hw1406 : e_up w1360 275 83 (w 275 83) = w1406
                  have f1407 : e_fr (mStm (w 275 78) (w 275 79) (w 275 80) (w 275 94)) w w1406 := e_fr.up f1363 hw1406 (by unfold mStm; omega)
                  have e1408 := up83 hw1406
                  replace e1408 := (show Hid _ from e1408)
                  have u1409 : Hid (w1406 275 78 = w 275 78 + 2) := Hid.mk (Eq.trans (e1408.out.1 275 78 (by decide)) u1364.out)
                  have u1410 : Hid (w1406 275 79 = w 275 79) := Hid.mk (Eq.trans (e1408.out.1 275 79 (by decide)) u1365.out)
                  have u1411 : Hid (w1406 275 80 = w 275 80) := Hid.mk (Eq.trans (e1408.out.1 275 80 (by decide)) u1366.out)
                  have u1412 : Hid (w1406 275 81 = w 275 81) := Hid.mk (Eq.trans (e1408.out.1 275 81 (by decide)) u1367.out)
                  have u1413 : Hid (w1406 275 82 = w 275 82) := Hid.mk (Eq.trans (e1408.out.1 275 82 (by decide)) u1368.out)
                  have u1414 : Hid (w1406 275 83 = w 275 83) := Hid.mk (e1408.out.2)
                  have u1417 : Hid (w1406 275 86 = w 275 86) := Hid.mk (Eq.trans (e1408.out.1 275 86 (by decide)) u1372.out)
                  have u1419 : Hid (w1406 275 88 = w5 275 88) := Hid.mk (Eq.trans (e1408.out.1 275 88 (by decide)) u1374.out)
                  have u1420 : Hid (w1406 275 94 = w 275 94) := Hid.mk (Eq.trans (e1408.out.1 275 94 (by decide)) u1375.out)
                  have c1421 := cSt.up c1376 hw1406
                  refine e_Ok.rets rfl rfl ?_
                  exact ⟨rfl, f1407, c1421, (by unfold stL; rw [u1409.out, u1410.out, u1411.out, u1412.out, u1413.out, u1414.out, u1417.out, u1419.out, u1420.out]; omega), (fun z => by rw [u1419.out] at z; exact absurd z (by omega))⟩
                · rw [u1374.out] at q1405z; exact absurd q1405z (by omega)
                · rw [u1374.out] at q1405z; exact absurd q1405z (by omega)
            · replace h1358 : (w5 275 88 : Int) = 0 := by have q : ¬ ((w5 275 88 : Int) ≠ 0) := h1358; omega
              exfalso; omega
          · rw [u1223.out] at q1336z; exact absurd q1336z (by omega)
          · rw [u1223.out] at q1336z; exact absurd q1336z (by omega)
      · rw [u1223.out] at q1235z; exact absurd q1235z (by omega)
      · rw [u1223.out] at q1235z; exact absurd q1235z (by omega)
    · show e_Ok 20 elay ecode eI (d + 1) 350 (19, [(0, (1, 275))], [(0, 0), (1, 275)], w1210) _
      clear q1231n
      refine e_Ok.callV rfl (Nat.le_trans (by decide) hdq) rfl rfl rfl rfl (c_334 (Nat.le_trans (by decide) hdq) c1226.1 c1226.2.1 c1226.2.2.1 hNr c1226.2.2.2.1 (by decide)) (fun r1422 w1423 h1424 => ?_)
      obtain ⟨rfl, q1425⟩ := h1424
      obtain ⟨rfl, q1425z⟩ | ⟨q1425z, q1425b, q1425, q1425s, q1425t⟩ | ⟨q1425z, q1425b, q1425, q1425T, q1425H, q1425r⟩ := q1425
      · show e_Ok 20 elay ecode eI (d + 1) 350 (22, [(0, (1, 275))], [], w1210) _
        rw [u1223.out] at q1425z
        refine e_Ok.run (t' := (23, [(0, (1, 275))], [(1, 275)], w1210)) 1 rfl ?_
        refine e_Ok.callV rfl (Nat.le_trans (by decide) hdq) rfl rfl rfl rfl (c_339_0 (Nat.le_trans (by decide) hdq) c1226 (by rw [u1223.out] <;> omega)) (fun r1426 w1427 h1428 => ?_)
        obtain ⟨rfl, rfl⟩ := h1428
        show e_Ok 20 elay ecode eI (d + 1) 350 (26, [(0, (1, 275))], [], w1210) _
        refine e_Ok.run (t' := (30, [(0, (1, 275))], [(0, 58), (1, 275), (1, 275)], w1210)) 3 rfl ?_
        refine e_Ok.callV rfl (Nat.le_trans (by decide) hdq) rfl rfl rfl rfl (c_331 c1226.1 (N := N) c1226.2.2.2.1) (fun r1429 w1430 h1431 => ?_)
        obtain ⟨z1432, rfl, rfl, q1433⟩ := h1431
        obtain ⟨rfl, q1433, q1433b⟩ | ⟨rfl, q1433n⟩ := q1433
        · show e_Ok 20 elay ecode eI (d + 1) 350 (33, [(0, (1, 275))], [(0, 1), (1, 275)], w1210) _
          rw [u1219.out] at q1433
          rw [u1220.out] at q1433b
          refine e_Ok.callV rfl (Nat.le_trans (by decide) hdq) rfl rfl rfl rfl (c_334 (Nat.le_trans (by decide) hdq) c1226.1 c1226.2.1 c1226.2.2.1 hNr c1226.2.2.2.1 (by decide)) (fun r1434 w1435 h1436 => ?_)
          obtain ⟨rfl, q1437⟩ := h1436
          obtain ⟨rfl, q1437z⟩ | ⟨q1437z, q1437b, q1437, q1437s, q1437t⟩ | ⟨q1437z, q1437b, q1437, q1437T, q1437H, q1437r⟩ := q1437
          · show e_Ok 20 elay ecode eI (d + 1) 350 (36, [(0, (1, 275))], [], w1210) _
            rw [u1223.out] at q1437z
            refine e_Ok.run (t' := (40, [(0, (1, 275))], [(0, 0), (0, 47), (1, 275)], w1210)) 3 rfl ?_
            refine e_Ok.callV rfl (Nat.le_trans (by decide) hdq) rfl rfl rfl rfl (c_336 c1226.1 (n := w 275 78 + 1) u1213.out (by omega) (s := w 275 81) u1216.out (by omega)) (fun r1438 w1439 h1440 => ?_)
            obtain ⟨rfl, q1441⟩ := h1440
            replace q1441 := (show Hid (EM w1210 w1439 (w 275 78 + 1) 47 (0) (w 275 81)) from q1441)
            have u1442 : Hid (w1439 275 78 = w 275 78 + 2) := Hid.mk (Eq.trans q1441.out.2.2.2.2 (by omega))
            have u1443 : Hid (w1439 275 79 = w 275 79) := Hid.mk (Eq.trans (q1441.out.fld (by decide)) u1214.out)
            have u1444 : Hid (w1439 275 80 = w 275 80) := Hid.mk (Eq.trans (q1441.out.fld (by decide)) u1215.out)
            have u1445 : Hid (w1439 275 81 = w 275 81) := Hid.mk (Eq.trans (q1441.out.fld (by decide)) u1216.out)
            have u1446 : Hid (w1439 275 82 = w 275 82) := Hid.mk (Eq.trans (q1441.out.fld (by decide)) u1217.out)
            have u1447 : Hid (w1439 275 83 = w 275 83 + 1) := Hid.mk (Eq.trans (q1441.out.fld (by decide)) u1218.out)
            have u1448 : Hid (w1439 275 84 = w 275 84) := Hid.mk (Eq.trans (q1441.out.fld (by decide)) u1219.out)
            have u1449 : Hid (w1439 275 85 = w 275 85) := Hid.mk (Eq.trans (q1441.out.fld (by decide)) u1220.out)
            have u1450 : Hid (w1439 275 86 = w 275 86) := Hid.mk (Eq.trans (q1441.out.fld (by decide)) u1221.out)
            have u1452 : Hid (w1439 275 88 = w5 275 88) := Hid.mk (Eq.trans (q1441.out.fld (by decide)) u1223.out)
            have u1453 : Hid (w1439 275 94 = w 275 94) := Hid.mk (Eq.trans (q1441.out.fld (by decide)) u1224.out)
            have f1454 : e_fr (mStm (w 275 78) (w 275 79) (w 275 80) (w 275 94)) w w1439 := e_fr.trans f1225 (q1441.out.st (by omega))
            have c1455 := cSt.em c1226 q1441.out (by decide) (by omega) (by omega)
            show e_Ok 20 elay ecode eI (d + 1) 350 (43, [(0, (1, 275))], [(0, w 275 78 + 1)], w1439) _
            refine e_Ok.run (t' := (45, [(1, (0, w 275 78 + 1)), (0, (1, 275))], [(1, 275)], w1439)) 2 rfl ?_
            refine e_Ok.callV rfl (Nat.le_trans (by decide) hdq) rfl rfl rfl rfl (c_348_0 (Nat.le_trans (by decide) hdq) c1455 (by rw [u1452.out] <;> omega)) (fun r1456 w1457 h1458 => ?_)
            obtain ⟨rfl, rfl⟩ := h1458
            show e_Ok 20 elay ecode eI (d + 1) 350 (48, [(1, (0, w 275 78 + 1)), (0, (1, 275))], [], w1439) _
            refine e_Ok.run (t' := (49, [(1, (0, w 275 78 + 1)), (0, (1, 275))], [(1, 275)], w1439)) 1 rfl ?_
            refine e_Ok.getf (z := w5 275 88) rfl (el_o rfl) rfl rfl u1452.out (by omega) ?_
            refine e_Ok.if1 rfl (fun h1459 => ?_) (fun h1459 => ?_)
            · replace h1459 : (w5 275 88 : Int) ≠ 0 := h1459
              refine e_Ok.run (t' := (105, [(1, (0, w 275 78 + 1)), (0, (1, 275))], [(0, w 275 78 + 1), (1, 275)], w1439)) 2 rfl ?_
              refine e_Ok.callV rfl (Nat.le_trans (by decide) hdq) rfl rfl rfl rfl (c_337 c1455.1 (n := w 275 78 + 2) u1442.out (by omega) (by omega)) (fun r1460 w1461 h1462 => ?_)
              obtain ⟨rfl, q1463⟩ := h1462
              have f1464 : e_fr (mStm (w 275 78) (w 275 79) (w 275 80) (w 275 94)) w w1461 := e_fr.up f1454 q1463 (by unfold mStm; omega)
              have u1465 : Hid (w1461 275 78 = w 275 78 + 2) := Hid.mk (Eq.trans (by rw [← q1463]; exact e_up_ne _ _ (Or.inl (by decide))) u1442.out)
              have u1466 : Hid (w1461 275 79 = w 275 79) := Hid.mk (Eq.trans (by rw [← q1463]; exact e_up_ne _ _ (Or.inl (by decide))) u1443.out)
              have u1467 : Hid (w1461 275 80 = w 275 80) := Hid.mk (Eq.trans (by rw [← q1463]; exact e_up_ne _ _ (Or.inl (by decide))) u1444.out)
              have u1468 : Hid (w1461 275 81 = w 275 81) := Hid.mk (Eq.trans (by rw [← q1463]; exact e_up_ne _ _ (Or.inl (by decide))) u1445.out)
              have u1469 : Hid (w1461 275 82 = w 275 82) := Hid.mk (Eq.trans (by rw [← q1463]; exact e_up_ne _ _ (Or.inl (by decide))) u1446.out)
              have u1470 : Hid (w1461 275 83 = w 275 83 + 1) := Hid.mk (Eq.trans (by rw [← q1463]; exact e_up_ne _ _ (Or.inl (by decide))) u1447.out)
              have u1471 : Hid (w1461 275 84 = w 275 84) := Hid.mk (Eq.trans (by rw [← q1463]; exact e_up_ne _ _ (Or.inl (by decide))) u1448.out)
              have u1472 : Hid (w1461 275 85 = w 275 85) := Hid.mk (Eq.trans (by rw [← q1463]; exact e_up_ne _ _ (Or.inl (by decide))) u1449.out)
              have u1473 : Hid (w1461 275 86 = w 275 86) := Hid.mk (Eq.trans (by rw [← q1463]; exact e_up_ne _ _ (Or.inl (by decide))) u1450.out)
              have u1475 : Hid (w1461 275 88 = w5 275 88) := Hid.mk (Eq.trans (by rw [← q1463]; exact e_up_ne _ _ (Or.inl (by decide))) u1452.out)
              have u1476 : Hid (w1461 275 94 = w 275 94) := Hid.mk (Eq.trans (by rw [← q1463]; exact e_up_ne _ _ (Or.inl (by decide))) u1453.out)
              have c1477 := cSt.wr c1455 q1463 (Or.inl rfl) (by omega) rfl (fun y => absurd y (by decide))
              show e_Ok 20 elay ecode eI (d + 1) 350 (108, [(1, (0, w 275 78 + 1)), (0, (1, 275))], [], w1461) _
              refine e_Ok.run (t' := (111, [(1, (0, w 275 78 + 1)), (0, (1, 275))], [(0, 2), (1, 275), (1, 275)], w1461)) 3 rfl ?_
              refine e_Ok.callV rfl (Nat.le_trans (by decide) hdq) rfl rfl rfl rfl (c_332 c1477.1 (N := N) c1477.2.2.2.1) (fun r1478 w1479 h1480 => ?_)
              obtain ⟨z1481, rfl, rfl, q1482⟩ := h1480
              obtain ⟨rfl, q1482, q1482b⟩ | ⟨rfl, q1482n⟩ := q1482
              · show e_Ok 20 elay ecode eI (d + 1) 350 (114, [(1, (0, w 275 78 + 1)), (0, (1, 275))], [(0, 1), (1, 275)], w1461) _
                rw [u1471.out] at q1482
                rw [u1472.out] at q1482b
                refine e_Ok.callV rfl (Nat.le_trans (by decide) hdq) rfl rfl rfl rfl (c_334 (Nat.le_trans (by decide) hdq) c1477.1 c1477.2.1 c1477.2.2.1 hNr c1477.2.2.2.1 (by decide)) (fun r1483 w1484 h1485 => ?_)
                obtain ⟨rfl, q1486⟩ := h1485
                obtain ⟨rfl, q1486z⟩ | ⟨q1486z, q1486b, q1486, q1486s, q1486t⟩ | ⟨q1486z, q1486b, q1486, q1486T, q1486H, q1486r⟩ := q1486
                · show e_Ok 20 elay ecode eI (d + 1) 350 (117, [(1, (0, w 275 78 + 1)), (0, (1, 275))], [], w1461) _
                  rw [u1475.out] at q1486z
                  refine e_Ok.run (t' := (119, [(1, (0, w 275 78 + 1)), (0, (1, 275))], [(1, 275), (1, 275)], w1461)) 2 rfl ?_
                  refine e_Ok.getf (z := w 275 83 + 1) rfl (el_o rfl) rfl rfl u1470.out (by omega) ?_
                  refine e_Ok.run (t' := (123, [(1, (0, w 275 78 + 1)), (0, (1, 275))], [(0, 1), (0, w 275 83 + 1), (1, 275)], w1461)) 1 rfl ?_
                  refine e_Ok.sub' (z := w 275 83) rfl (by omega) (by omega) ?_
                  refine e_Ok.putf rfl (el_o rfl) rfl rfl ?_
                  generalize hw1487 : e_up w1461 275 83 (w 275 83) = w1487
                  have f1488 : e_fr (mStm (w 275 78) (w 275 79) (w 275 80) (w 275 94)) w w1487 := e_fr.up f1464 hw1487 (by unfold mStm; omega)
                  have e1489 := up83 hw1487
                  replace e1489 := (show Hid _ from e1489)
                  have u1490 : Hid (w1487 275 78 = w 275 78 + 2) := Hid.mk (Eq.trans (e1489.out.1 275 78 (by decide)) u1465.out)
                  have u1491 : Hid (w1487 275 79 = w 275 79) := Hid.mk (Eq.trans (e1489.out.1 275 79 (by decide)) u1466.out)
                  have u1492 : Hid (w1487 275 80 = w 275 80) := Hid.mk (Eq.trans (e1489.out.1 275 80 (by decide)) u1467.out)
                  have u1493 : Hid (w1487 275 81 = w 275 81) := Hid.mk (Eq.trans (e1489.out.1 275 81 (by decide)) u1468.out)
                  have u1494 : Hid (w1487 275 82 = w 275 82) := Hid.mk (Eq.trans (e1489.out.1 275 82 (by decide)) u1469.out)
                  have u1495 : Hid (w1487 275 83 = w 275 83) := Hid.mk (e1489.out.2)
                  have u1498 : Hid (w1487 275 86 = w 275 86) := Hid.mk (Eq.trans (e1489.out.1 275 86 (by decide)) u1473.out)
                  have u1500 : Hid (w1487 275 88 = w5 275 88) := Hid.mk (Eq.trans (e1489.out.1 275 88 (by decide)) u1475.out)
                  have u1501 : Hid (w1487 275 94 = w 275 94) := Hid.mk (Eq.trans (e1489.out.1 275 94 (by decide)) u1476.out)
                  have c1502 := cSt.up c1477 hw1487
                  refine e_Ok.rets rfl rfl ?_
                  exact ⟨rfl, f1488, c1502, (by unfold stL; rw [u1490.out, u1491.out, u1492.out, u1493.out, u1494.out, u1495.out, u1498.out, u1500.out, u1501.out]; omega), (fun z => by rw [u1500.out] at z; exact absurd z (by omega))⟩
                · rw [u1475.out] at q1486z; exact absurd q1486z (by omega)
                · rw [u1475.out] at q1486z; exact absurd q1486z (by omega)
              · show e_Ok 20 elay ecode eI (d + 1) 350 (114, [(1, (0, w 275 78 + 1)), (0, (1, 275))], [(0, 0), (1, 275)], w1461) _
                clear q1482n
                refine e_Ok.callV rfl (Nat.le_trans (by decide) hdq) rfl rfl rfl rfl (c_334 (Nat.le_trans (by decide) hdq) c1477.1 c1477.2.1 c1477.2.2.1 hNr c1477.2.2.2.1 (by decide)) (fun r1503 w1504 h1505 => ?_)
                obtain ⟨rfl, q1506⟩ := h1505
                obtain ⟨rfl, q1506z⟩ | ⟨q1506z, q1506b, q1506, q1506s, q1506t⟩ | ⟨q1506z, q1506b, q1506, q1506T, q1506H, q1506r⟩ := q1506
                · show e_Ok 20 elay ecode eI (d + 1) 350 (117, [(1, (0, w 275 78 + 1)), (0, (1, 275))], [], w1461) _
                  rw [u1475.out] at q1506z
                  refine e_Ok.run (t' := (119, [(1, (0, w 275 78 + 1)), (0, (1, 275))], [(1, 275), (1, 275)], w1461)) 2 rfl ?_
                  refine e_Ok.getf (z := w 275 83 + 1) rfl (el_o rfl) rfl rfl u1470.out (by omega) ?_
                  refine e_Ok.run (t' := (123, [(1, (0, w 275 78 + 1)), (0, (1, 275))], [(0, 1), (0, w 275 83 + 1), (1, 275)], w1461)) 1 rfl ?_
                  refine e_Ok.sub' (z := w 275 83) rfl (by omega) (by omega) ?_
                  refine e_Ok.putf rfl (el_o rfl) rfl rfl ?_
                  generalize hw1507 : e_up w1461 275 83 (w 275 83) = w1507
                  have f1508 : e_fr (mStm (w 275 78) (w 275 79) (w 275 80) (w 275 94)) w w1507 := e_fr.up f1464 hw1507 (by unfold mStm; omega)
                  have e1509 := up83 hw1507
                  replace e1509 := (show Hid _ from e1509)
                  have u1510 : Hid (w1507 275 78 = w 275 78 + 2) := Hid.mk (Eq.trans (e1509.out.1 275 78 (by decide)) u1465.out)
                  have u1511 : Hid (w1507 275 79 = w 275 79) := Hid.mk (Eq.trans (e1509.out.1 275 79 (by decide)) u1466.out)
                  have u1512 : Hid (w1507 275 80 = w 275 80) := Hid.mk (Eq.trans (e1509.out.1 275 80 (by decide)) u1467.out)
                  have u1513 : Hid (w1507 275 81 = w 275 81) := Hid.mk (Eq.trans (e1509.out.1 275 81 (by decide)) u1468.out)
                  have u1514 : Hid (w1507 275 82 = w 275 82) := Hid.mk (Eq.trans (e1509.out.1 275 82 (by decide)) u1469.out)
                  have u1515 : Hid (w1507 275 83 = w 275 83) := Hid.mk (e1509.out.2)
                  have u1518 : Hid (w1507 275 86 = w 275 86) := Hid.mk (Eq.trans (e1509.out.1 275 86 (by decide)) u1473.out)
                  have u1520 : Hid (w1507 275 88 = w5 275 88) := Hid.mk (Eq.trans (e1509.out.1 275 88 (by decide)) u1475.out)
                  have u1521 : Hid (w1507 275 94 = w 275 94) := Hid.mk (Eq.trans (e1509.out.1 275 94 (by decide)) u1476.out)
                  have c1522 := cSt.up c1477 hw1507
                  refine e_Ok.rets rfl rfl ?_
                  exact ⟨rfl, f1508, c1522, (by unfold stL; rw [u1510.out, u1511.out, u1512.out, u1513.out, u1514.out, u1515.out, u1518.out, u1520.out, u1521.out]; omega), (fun z => by rw [u1520.out] at z; exact absurd z (by omega))⟩
                · rw [u1475.out] at q1506z; exact absurd q1506z (by omega)
                · rw [u1475.out] at q1506z; exact absurd q1506z (by omega)
            · replace h1459 : (w5 275 88 : Int) = 0 := by have q : ¬ ((w5 275 88 : Int) ≠ 0) := h1459; omega
              exfalso; omega
          · rw [u1223.out] at q1437z; exact absurd q1437z (by omega)
          · rw [u1223.out] at q1437z; exact absurd q1437z (by omega)
        · show e_Ok 20 elay ecode eI (d + 1) 350 (33, [(0, (1, 275))], [(0, 0), (1, 275)], w1210) _
          clear q1433n
          refine e_Ok.callV rfl (Nat.le_trans (by decide) hdq) rfl rfl rfl rfl (c_334 (Nat.le_trans (by decide) hdq) c1226.1 c1226.2.1 c1226.2.2.1 hNr c1226.2.2.2.1 (by decide)) (fun r1523 w1524 h1525 => ?_)
          obtain ⟨rfl, q1526⟩ := h1525
          obtain ⟨rfl, q1526z⟩ | ⟨q1526z, q1526b, q1526, q1526s, q1526t⟩ | ⟨q1526z, q1526b, q1526, q1526T, q1526H, q1526r⟩ := q1526
          · show e_Ok 20 elay ecode eI (d + 1) 350 (36, [(0, (1, 275))], [], w1210) _
            rw [u1223.out] at q1526z
            refine e_Ok.run (t' := (40, [(0, (1, 275))], [(0, 0), (0, 47), (1, 275)], w1210)) 3 rfl ?_
            refine e_Ok.callV rfl (Nat.le_trans (by decide) hdq) rfl rfl rfl rfl (c_336 c1226.1 (n := w 275 78 + 1) u1213.out (by omega) (s := w 275 81) u1216.out (by omega)) (fun r1527 w1528 h1529 => ?_)
            obtain ⟨rfl, q1530⟩ := h1529
            replace q1530 := (show Hid (EM w1210 w1528 (w 275 78 + 1) 47 (0) (w 275 81)) from q1530)
            have u1531 : Hid (w1528 275 78 = w 275 78 + 2) := Hid.mk (Eq.trans q1530.out.2.2.2.2 (by omega))
            have u1532 : Hid (w1528 275 79 = w 275 79) := Hid.mk (Eq.trans (q1530.out.fld (by decide)) u1214.out)
            have u1533 : Hid (w1528 275 80 = w 275 80) := Hid.mk (Eq.trans (q1530.out.fld (by decide)) u1215.out)
            have u1534 : Hid (w1528 275 81 = w 275 81) := Hid.mk (Eq.trans (q1530.out.fld (by decide)) u1216.out)
            have u1535 : Hid (w1528 275 82 = w 275 82) := Hid.mk (Eq.trans (q1530.out.fld (by decide)) u1217.out)
            have u1536 : Hid (w1528 275 83 = w 275 83 + 1) := Hid.mk (Eq.trans (q1530.out.fld (by decide)) u1218.out)
            have u1537 : Hid (w1528 275 84 = w 275 84) := Hid.mk (Eq.trans (q1530.out.fld (by decide)) u1219.out)
            have u1538 : Hid (w1528 275 85 = w 275 85) := Hid.mk (Eq.trans (q1530.out.fld (by decide)) u1220.out)
            have u1539 : Hid (w1528 275 86 = w 275 86) := Hid.mk (Eq.trans (q1530.out.fld (by decide)) u1221.out)
            have u1541 : Hid (w1528 275 88 = w5 275 88) := Hid.mk (Eq.trans (q1530.out.fld (by decide)) u1223.out)
            have u1542 : Hid (w1528 275 94 = w 275 94) := Hid.mk (Eq.trans (q1530.out.fld (by decide)) u1224.out)
            have f1543 : e_fr (mStm (w 275 78) (w 275 79) (w 275 80) (w 275 94)) w w1528 := e_fr.trans f1225 (q1530.out.st (by omega))
            have c1544 := cSt.em c1226 q1530.out (by decide) (by omega) (by omega)
            show e_Ok 20 elay ecode eI (d + 1) 350 (43, [(0, (1, 275))], [(0, w 275 78 + 1)], w1528) _
            refine e_Ok.run (t' := (45, [(1, (0, w 275 78 + 1)), (0, (1, 275))], [(1, 275)], w1528)) 2 rfl ?_
            refine e_Ok.callV rfl (Nat.le_trans (by decide) hdq) rfl rfl rfl rfl (c_348_0 (Nat.le_trans (by decide) hdq) c1544 (by rw [u1541.out] <;> omega)) (fun r1545 w1546 h1547 => ?_)
            obtain ⟨rfl, rfl⟩ := h1547
            show e_Ok 20 elay ecode eI (d + 1) 350 (48, [(1, (0, w 275 78 + 1)), (0, (1, 275))], [], w1528) _
            refine e_Ok.run (t' := (49, [(1, (0, w 275 78 + 1)), (0, (1, 275))], [(1, 275)], w1528)) 1 rfl ?_
            refine e_Ok.getf (z := w5 275 88) rfl (el_o rfl) rfl rfl u1541.out (by omega) ?_
            refine e_Ok.if1 rfl (fun h1548 => ?_) (fun h1548 => ?_)
            · replace h1548 : (w5 275 88 : Int) ≠ 0 := h1548
              refine e_Ok.run (t' := (105, [(1, (0, w 275 78 + 1)), (0, (1, 275))], [(0, w 275 78 + 1), (1, 275)], w1528)) 2 rfl ?_
              refine e_Ok.callV rfl (Nat.le_trans (by decide) hdq) rfl rfl rfl rfl (c_337 c1544.1 (n := w 275 78 + 2) u1531.out (by omega) (by omega)) (fun r1549 w1550 h1551 => ?_)
              obtain ⟨rfl, q1552⟩ := h1551
              have f1553 : e_fr (mStm (w 275 78) (w 275 79) (w 275 80) (w 275 94)) w w1550 := e_fr.up f1543 q1552 (by unfold mStm; omega)
              have u1554 : Hid (w1550 275 78 = w 275 78 + 2) := Hid.mk (Eq.trans (by rw [← q1552]; exact e_up_ne _ _ (Or.inl (by decide))) u1531.out)
              have u1555 : Hid (w1550 275 79 = w 275 79) := Hid.mk (Eq.trans (by rw [← q1552]; exact e_up_ne _ _ (Or.inl (by decide))) u1532.out)
              have u1556 : Hid (w1550 275 80 = w 275 80) := Hid.mk (Eq.trans (by rw [← q1552]; exact e_up_ne _ _ (Or.inl (by decide))) u1533.out)
              have u1557 : Hid (w1550 275 81 = w 275 81) := Hid.mk (Eq.trans (by rw [← q1552]; exact e_up_ne _ _ (Or.inl (by decide))) u1534.out)
              have u1558 : Hid (w1550 275 82 = w 275 82) := Hid.mk (Eq.trans (by rw [← q1552]; exact e_up_ne _ _ (Or.inl (by decide))) u1535.out)
              have u1559 : Hid (w1550 275 83 = w 275 83 + 1) := Hid.mk (Eq.trans (by rw [← q1552]; exact e_up_ne _ _ (Or.inl (by decide))) u1536.out)
              have u1560 : Hid (w1550 275 84 = w 275 84) := Hid.mk (Eq.trans (by rw [← q1552]; exact e_up_ne _ _ (Or.inl (by decide))) u1537.out)
              have u1561 : Hid (w1550 275 85 = w 275 85) := Hid.mk (Eq.trans (by rw [← q1552]; exact e_up_ne _ _ (Or.inl (by decide))) u1538.out)
              have u1562 : Hid (w1550 275 86 = w 275 86) := Hid.mk (Eq.trans (by rw [← q1552]; exact e_up_ne _ _ (Or.inl (by decide))) u1539.out)
              have u1564 : Hid (w1550 275 88 = w5 275 88) := Hid.mk (Eq.trans (by rw [← q1552]; exact e_up_ne _ _ (Or.inl (by decide))) u1541.out)
              have u1565 : Hid (w1550 275 94 = w 275 94) := Hid.mk (Eq.trans (by rw [← q1552]; exact e_up_ne _ _ (Or.inl (by decide))) u1542.out)
              have c1566 := cSt.wr c1544 q1552 (Or.inl rfl) (by omega) rfl (fun y => absurd y (by decide))
              show e_Ok 20 elay ecode eI (d + 1) 350 (108, [(1, (0, w 275 78 + 1)), (0, (1, 275))], [], w1550) _
              refine e_Ok.run (t' := (111, [(1, (0, w 275 78 + 1)), (0, (1, 275))], [(0, 2), (1, 275), (1, 275)], w1550)) 3 rfl ?_
              refine e_Ok.callV rfl (Nat.le_trans (by decide) hdq) rfl rfl rfl rfl (c_332 c1566.1 (N := N) c1566.2.2.2.1) (fun r1567 w1568 h1569 => ?_)
              obtain ⟨z1570, rfl, rfl, q1571⟩ := h1569
              obtain ⟨rfl, q1571, q1571b⟩ | ⟨rfl, q1571n⟩ := q1571
              · show e_Ok 20 elay ecode eI (d + 1) 350 (114, [(1, (0, w 275 78 + 1)), (0, (1, 275))], [(0, 1), (1, 275)], w1550) _
                rw [u1560.out] at q1571
                rw [u1561.out] at q1571b
                refine e_Ok.callV rfl (Nat.le_trans (by decide) hdq) rfl rfl rfl rfl (c_334 (Nat.le_trans (by decide) hdq) c1566.1 c1566.2.1 c1566.2.2.1 hNr c1566.2.2.2.1 (by decide)) (fun r1572 w1573 h1574 => ?_)
                obtain ⟨rfl, q1575⟩ := h1574
                obtain ⟨rfl, q1575z⟩ | ⟨q1575z, q1575b, q1575, q1575s, q1575t⟩ | ⟨q1575z, q1575b, q1575, q1575T, q1575H, q1575r⟩ := q1575
                · show e_Ok 20 elay ecode eI (d + 1) 350 (117, [(1, (0, w 275 78 + 1)), (0, (1, 275))], [], w1550) _
                  rw [u1564.out] at q1575z
                  refine e_Ok.run (t' := (119, [(1, (0, w 275 78 + 1)), (0, (1, 275))], [(1, 275), (1, 275)], w1550)) 2 rfl ?_
                  refine e_Ok.getf (z := w 275 83 + 1) rfl (el_o rfl) rfl rfl u1559.out (by omega) ?_
                  refine e_Ok.run (t' := (123, [(1, (0, w 275 78 + 1)), (0, (1, 275))], [(0, 1), (0, w 275 83 + 1), (1, 275)], w1550)) 1 rfl ?_
                  refine e_Ok.sub' (z := w 275 83) rfl (by omega) (by omega) ?_
                  refine e_Ok.putf rfl (el_o rfl) rfl rfl ?_
                  generalize hw1576 : e_up w1550 275 83 (w 275 83) = w1576
                  have f1577 : e_fr (mStm (w 275 78) (w 275 79) (w 275 80) (w 275 94)) w w1576 := e_fr.up f1553 hw1576 (by unfold mStm; omega)
                  have e1578 := up83 hw1576
                  replace e1578 := (show Hid _ from e1578)
                  have u1579 : Hid (w1576 275 78 = w 275 78 + 2) := Hid.mk (Eq.trans (e1578.out.1 275 78 (by decide)) u1554.out)
                  have u1580 : Hid (w1576 275 79 = w 275 79) := Hid.mk (Eq.trans (e1578.out.1 275 79 (by decide)) u1555.out)
                  have u1581 : Hid (w1576 275 80 = w 275 80) := Hid.mk (Eq.trans (e1578.out.1 275 80 (by decide)) u1556.out)
                  have u1582 : Hid (w1576 275 81 = w 275 81) := Hid.mk (Eq.trans (e1578.out.1 275 81 (by decide)) u1557.out)
                  have u1583 : Hid (w1576 275 82 = w 275 82) := Hid.mk (Eq.trans (e1578.out.1 275 82 (by decide)) u1558.out)
                  have u1584 : Hid (w1576 275 83 = w 275 83) := Hid.mk (e1578.out.2)
                  have u1587 : Hid (w1576 275 86 = w 275 86) := Hid.mk (Eq.trans (e1578.out.1 275 86 (by decide)) u1562.out)
                  have u1589 : Hid (w1576 275 88 = w5 275 88) := Hid.mk (Eq.trans (e1578.out.1 275 88 (by decide)) u1564.out)
                  have u1590 : Hid (w1576 275 94 = w 275 94) := Hid.mk (Eq.trans (e1578.out.1 275 94 (by decide)) u1565.out)
                  have c1591 := cSt.up c1566 hw1576
                  refine e_Ok.rets rfl rfl ?_
                  exact ⟨rfl, f1577, c1591, (by unfold stL; rw [u1579.out, u1580.out, u1581.out, u1582.out, u1583.out, u1584.out, u1587.out, u1589.out, u1590.out]; omega), (fun z => by rw [u1589.out] at z; exact absurd z (by omega))⟩
                · rw [u1564.out] at q1575z; exact absurd q1575z (by omega)
                · rw [u1564.out] at q1575z; exact absurd q1575z (by omega)
              · show e_Ok 20 elay ecode eI (d + 1) 350 (114, [(1, (0, w 275 78 + 1)), (0, (1, 275))], [(0, 0), (1, 275)], w1550) _
                clear q1571n
                refine e_Ok.callV rfl (Nat.le_trans (by decide) hdq) rfl rfl rfl rfl (c_334 (Nat.le_trans (by decide) hdq) c1566.1 c1566.2.1 c1566.2.2.1 hNr c1566.2.2.2.1 (by decide)) (fun r1592 w1593 h1594 => ?_)
                obtain ⟨rfl, q1595⟩ := h1594
                obtain ⟨rfl, q1595z⟩ | ⟨q1595z, q1595b, q1595, q1595s, q1595t⟩ | ⟨q1595z, q1595b, q1595, q1595T, q1595H, q1595r⟩ := q1595
                · show e_Ok 20 elay ecode eI (d + 1) 350 (117, [(1, (0, w 275 78 + 1)), (0, (1, 275))], [], w1550) _
                  rw [u1564.out] at q1595z
                  refine e_Ok.run (t' := (119, [(1, (0, w 275 78 + 1)), (0, (1, 275))], [(1, 275), (1, 275)], w1550)) 2 rfl ?_
                  refine e_Ok.getf (z := w 275 83 + 1) rfl (el_o rfl) rfl rfl u1559.out (by omega) ?_
                  refine e_Ok.run (t' := (123, [(1, (0, w 275 78 + 1)), (0, (1, 275))], [(0, 1), (0, w 275 83 + 1), (1, 275)], w1550)) 1 rfl ?_
                  refine e_Ok.sub' (z := w 275 83) rfl (by omega) (by omega) ?_
                  refine e_Ok.putf rfl (el_o rfl) rfl rfl ?_
                  generalize hw1596 : e_up w1550 275 83 (w 275 83) = w1596
                  have f1597 : e_fr (mStm (w 275 78) (w 275 79) (w 275 80) (w 275 94)) w w1596 := e_fr.up f1553 hw1596 (by unfold mStm; omega)
                  have e1598 := up83 hw1596
                  replace e1598 := (show Hid _ from e1598)
                  have u1599 : Hid (w1596 275 78 = w 275 78 + 2) := Hid.mk (Eq.trans (e1598.out.1 275 78 (by decide)) u1554.out)
                  have u1600 : Hid (w1596 275 79 = w 275 79) := Hid.mk (Eq.trans (e1598.out.1 275 79 (by decide)) u1555.out)
                  have u1601 : Hid (w1596 275 80 = w 275 80) := Hid.mk (Eq.trans (e1598.out.1 275 80 (by decide)) u1556.out)
                  have u1602 : Hid (w1596 275 81 = w 275 81) := Hid.mk (Eq.trans (e1598.out.1 275 81 (by decide)) u1557.out)
                  have u1603 : Hid (w1596 275 82 = w 275 82) := Hid.mk (Eq.trans (e1598.out.1 275 82 (by decide)) u1558.out)
                  have u1604 : Hid (w1596 275 83 = w 275 83) := Hid.mk (e1598.out.2)
                  have u1607 : Hid (w1596 275 86 = w 275 86) := Hid.mk (Eq.trans (e1598.out.1 275 86 (by decide)) u1562.out)
                  have u1609 : Hid (w1596 275 88 = w5 275 88) := Hid.mk (Eq.trans (e1598.out.1 275 88 (by decide)) u1564.out)
                  have u1610 : Hid (w1596 275 94 = w 275 94) := Hid.mk (Eq.trans (e1598.out.1 275 94 (by decide)) u1565.out)
                  have c1611 := cSt.up c1566 hw1596
                  refine e_Ok.rets rfl rfl ?_
                  exact ⟨rfl, f1597, c1611, (by unfold stL; rw [u1599.out, u1600.out, u1601.out, u1602.out, u1603.out, u1604.out, u1607.out, u1609.out, u1610.out]; omega), (fun z => by rw [u1609.out] at z; exact absurd z (by omega))⟩
                · rw [u1564.out] at q1595z; exact absurd q1595z (by omega)
                · rw [u1564.out] at q1595z; exact absurd q1595z (by omega)
            · replace h1548 : (w5 275 88 : Int) = 0 := by have q : ¬ ((w5 275 88 : Int) ≠ 0) := h1548; omega
              exfalso; omega
          · rw [u1223.out] at q1526z; exact absurd q1526z (by omega)
          · rw [u1223.out] at q1526z; exact absurd q1526z (by omega)
      · rw [u1223.out] at q1425z; exact absurd q1425z (by omega)
      · rw [u1223.out] at q1425z; exact absurd q1425z (by omega)
end
