noncomputable section
theorem c_347 {d : Nat} (hd : 21 ≤ d) {w : eW} {N : Int} (hc : cSt w N) : e_Ok 20 elay ecode eI d 347 (0, [(0, (1, 275))], [], w) (fun r w' => ∃ z : Int, r = [(0, z)] ∧ w = w' ∧ ((z = 1 ∧ w 275 88 = 0 ∧ (w 275 84 = 1 ∨ (w 275 84 = 4 ∧ ((3 ≤ w 275 85 ∧ w 275 85 ≤ 18) ∨ w 275 85 = 20 ∨ w 275 85 = 21)))) ∨ z = 0)) := by
  obtain ⟨d, rfl⟩ : ∃ e, d = e + 1 := ⟨d - 1, by omega⟩
  have hct := tkS.lin hc.2.2.2.1
  have hcf := e_Has.get hc.2.1 (c := 275) (k := 88) (lo := 0) (hi := 7) rfl (by decide)
  refine e_Ok.ps1 (x := (1, 275)) (q := 1) 1 rfl ?_
  refine e_Ok.getf (z := w 275 88) rfl (el_o rfl) rfl (ef_o rfl) rfl (by omega) ?_
  refine e_Ok.if1 rfl (fun h1 => ?_) (fun h1 => ?_)
  · replace h1 : (w 275 88 : Int) ≠ 0 := h1
    refine e_Ok.ps1 (x := (0, 0)) (q := 63) 1 rfl ?_
    refine e_Ok.rets rfl rfl ?_
    exact ⟨_, rfl, rfl, Or.inr rfl⟩
  · replace h1 : (w 275 88 : Int) = 0 := Classical.not_not.mp (show ¬ ((w 275 88 : Int) ≠ 0) from h1)
    refine e_Ok.ps1 (x := (1, 275)) (q := 8) 1 rfl ?_
    refine e_Ok.getf (z := w 275 84) rfl (el_o rfl) rfl (ef_o rfl) rfl (by omega) ?_
    refine e_Ok.ps1 (x := (0, 1)) (q := 12) 1 rfl ?_
    refine e_Ok.if2 rfl (fun h2 => ?_) (fun h2 => ?_)
    · replace h2 : (w 275 84 : Int) = 1 := h2
      refine e_Ok.ps1 (x := (0, 1)) (q := 63) 2 rfl ?_
      refine e_Ok.rets rfl rfl ?_
      exact ⟨_, rfl, rfl, Or.inl ⟨rfl, by omega, by omega⟩⟩
    · replace h2 : (w 275 84 : Int) ≠ 1 := (show ¬ ((w 275 84 : Int) = 1) from h2)
      refine e_Ok.ps1 (x := (1, 275)) (q := 16) 1 rfl ?_
      refine e_Ok.getf (z := w 275 84) rfl (el_o rfl) rfl (ef_o rfl) rfl (by omega) ?_
      refine e_Ok.ps1 (x := (0, 4)) (q := 20) 1 rfl ?_
      refine e_Ok.if2 rfl (fun h3 => ?_) (fun h3 => ?_)
      · replace h3 : (w 275 84 : Int) ≠ 4 := h3
        refine e_Ok.ps1 (x := (0, 0)) (q := 63) 1 rfl ?_
        refine e_Ok.rets rfl rfl ?_
        exact ⟨_, rfl, rfl, Or.inr rfl⟩
      · replace h3 : (w 275 84 : Int) = 4 := Classical.not_not.mp (show ¬ ((w 275 84 : Int) ≠ 4) from h3)
        refine e_Ok.ps1 (x := (1, 275)) (q := 24) 1 rfl ?_
        refine e_Ok.getf (z := w 275 85) rfl (el_o rfl) rfl (ef_o rfl) rfl (by omega) ?_
        refine e_Ok.run (t' := (34, [(0, (1, 275))], [(4, 18), (4, 3), (4, w 275 85)], w)) 3 rfl ?_
        refine e_Ok.callS rfl (e_dq hd rfl) rfl rfl (c_266) (fun r4 w5 h6 => ?_)
        obtain ⟨z7, rfl, rfl, q8⟩ := h6
        obtain ⟨rfl, q8⟩ | ⟨rfl, q8⟩ := q8
        · refine e_Ok.nrm (q := 37) (st' := [(0, 1)]) rfl rfl ?_
          refine e_Ok.if1 rfl (fun h9 => ?_) (fun h9 => ?_)
          · replace h9 : (1 : Int) ≠ 0 := h9
            refine e_Ok.ps1 (x := (0, 1)) (q := 63) 2 rfl ?_
            refine e_Ok.rets rfl rfl ?_
            exact ⟨_, rfl, rfl, Or.inl ⟨rfl, by omega, by omega⟩⟩
          · replace h9 : (1 : Int) = 0 := Classical.not_not.mp (show ¬ ((1 : Int) ≠ 0) from h9)
            exfalso; omega
        · refine e_Ok.nrm (q := 37) (st' := [(0, 0)]) rfl rfl ?_
          refine e_Ok.if1 rfl (fun h10 => ?_) (fun h10 => ?_)
          · replace h10 : (0 : Int) ≠ 0 := h10
            exfalso; omega
          · replace h10 : (0 : Int) = 0 := Classical.not_not.mp (show ¬ ((0 : Int) ≠ 0) from h10)
            refine e_Ok.ps1 (x := (1, 275)) (q := 41) 1 rfl ?_
            refine e_Ok.getf (z := w 275 85) rfl (el_o rfl) rfl (ef_o rfl) rfl (by omega) ?_
            refine e_Ok.ps1 (x := (0, 20)) (q := 46) 1 rfl ?_
            refine e_Ok.if2 rfl (fun h11 => ?_) (fun h11 => ?_)
            · replace h11 : (w 275 85 : Int) = 20 := h11
              refine e_Ok.ps1 (x := (0, 1)) (q := 63) 2 rfl ?_
              refine e_Ok.rets rfl rfl ?_
              exact ⟨_, rfl, rfl, Or.inl ⟨rfl, by omega, by omega⟩⟩
            · replace h11 : (w 275 85 : Int) ≠ 20 := (show ¬ ((w 275 85 : Int) = 20) from h11)
              refine e_Ok.ps1 (x := (1, 275)) (q := 50) 1 rfl ?_
              refine e_Ok.getf (z := w 275 85) rfl (el_o rfl) rfl (ef_o rfl) rfl (by omega) ?_
              refine e_Ok.ps1 (x := (0, 21)) (q := 55) 1 rfl ?_
              refine e_Ok.if2 rfl (fun h12 => ?_) (fun h12 => ?_)
              · replace h12 : (w 275 85 : Int) ≠ 21 := h12
                refine e_Ok.ps1 (x := (0, 0)) (q := 63) 1 rfl ?_
                refine e_Ok.rets rfl rfl ?_
                exact ⟨_, rfl, rfl, Or.inr rfl⟩
              · replace h12 : (w 275 85 : Int) = 21 := Classical.not_not.mp (show ¬ ((w 275 85 : Int) ≠ 21) from h12)
                refine e_Ok.ps1 (x := (0, 1)) (q := 63) 2 rfl ?_
                refine e_Ok.rets rfl rfl ?_
                exact ⟨_, rfl, rfl, Or.inl ⟨rfl, by omega, by omega⟩⟩
theorem c_348_0 {d : Nat} (hd : 22 ≤ d) {w : eW} {N : Int} (hc : cSt w N) (hf : w 275 88 ≠ 0) : e_Ok 20 elay ecode eI d 348 (0, [(0, (1, 275))], [], w) (fun r w' => r = [] ∧ w = w') := by
  obtain ⟨d, rfl⟩ : ∃ e, d = e + 1 := ⟨d - 1, by omega⟩
  have hct := tkS.lin hc.2.2.2.1
  have hcf := e_Has.get hc.2.1 (c := 275) (k := 88) (lo := 0) (hi := 7) rfl (by decide)
  refine e_Ok.ps1 (x := (1, 275)) (q := 1) 1 rfl ?_
  refine e_Ok.callV rfl (e_dq hd rfl) rfl rfl rfl rfl (c_347 (e_dq hd rfl) hc) (fun r1 w2 h3 => ?_)
  obtain ⟨z4, rfl, rfl, q5⟩ := h3
  obtain ⟨-, q5x, -⟩ | rfl := q5
  · exact absurd q5x (by omega)
  refine e_Ok.nrm (q := 4) (st' := [(0, 0)]) rfl rfl ?_
  refine e_Ok.if1 rfl (fun h6 => ?_) (fun h6 => ?_)
  · replace h6 : (0 : Int) = 0 := h6
    refine e_Ok.rets rfl rfl ?_
    exact ⟨rfl, rfl⟩
  · replace h6 : (0 : Int) ≠ 0 := (show ¬ ((0 : Int) = 0) from h6)
    exfalso; omega
set_option maxHeartbeats 4000000 in
theorem c_350 {d : Nat} (hd : 309 ≤ d) {w : eW} {N o O F : Int} {P OW : Int → Prop} (hc : cSt w N) (hNr : 0 ≤ N ∧ N ≤ 4000) (h0 : w 275 88 = 0) (ho : w 275 83 = o) (hv : w 275 82 = -1 ∨ OW (w 275 82)) (hb : stB w N o) (hO : O ≤ o) (hG : GB w N (w 275 78) (w 275 94) (w 275 79) (w 275 80) P (w 275 81) OW O) (hor : 0 ≤ o ∧ o ≤ 30) (hF : 300 ≤ F ∧ F ≤ 700) (hS : o < 30 → ∀ k, d = k + 1 → stC 348 0 (o + 1) F k) : e_Ok 20 elay ecode eI d 350 (0, [(0, (1, 275))], [], w) (fun r w' => r = [] ∧ stQ w w' N P OW O 1 (F + 10)) := by
  obtain ⟨d, rfl⟩ : ∃ e, d = e + 1 := ⟨d - 1, by omega⟩
  have hdq : 308 ≤ d := by omega
  have hct := tkS.lin hc.2.2.2.1
  have hcf := e_Has.get hc.2.1 (c := 275) (k := 88) (lo := 0) (hi := 7) rfl (by decide)
  have hsb := hc.2.2.2.2
  unfold stB at hb
  have hvr : -1 ≤ w 275 82 ∧ w 275 82 ≤ 900 := by rcases hv with g | g; omega; have := hG.1.2.2.2.2.2.2.2.1 _ g; omega
  replace hv := (show Hid _ from hv)
  have hgH : Hid (w 275 88 = 0 → GB w N (w 275 78) (w 275 94) (w 275 79) (w 275 80) P (w 275 81) OW O) := Hid.mk (fun _ => hG)
  refine e_Ok.ps1 (x := (1, 275)) (q := 1) 1 rfl ?_
  refine e_Ok.callV rfl (Nat.le_trans (by decide) hdq) rfl rfl rfl rfl (c_335 (Nat.le_trans (by decide) hdq) hc.1 hc.2.1 hc.2.2.1 hNr hc.2.2.2.1 (o := w 275 83) rfl (by omega)) (fun r1 w2 h3 => ?_)
  obtain ⟨rfl, -, q4⟩ := h3
  obtain ⟨q4, q4n⟩ | ⟨q4z, q4n, w5, q4u, q4, q4T, q4H, q4r⟩ := q4
  · refine e_Ok.nrm (q := 4) (st' := []) rfl rfl ?_
    have e6 := up83 q4
    replace e6 := (show Hid _ from e6)
    have c19 := cSt.up hc q4
    refine e_Ok.ps3 (x := (0, 0)) (y := (0, 30)) (z := (1, 275)) (q := 8) 3 rfl ?_
    refine e_Ok.callV rfl (Nat.le_trans (by decide) hdq) rfl rfl rfl rfl (c_336 c19.1 (n := w 275 78) (show Hid (w2 275 78 = w 275 78) from Hid.mk (e6.out.1 275 78 (by decide))).out (by omega) (s := w 275 81) (show Hid (w2 275 81 = w 275 81) from Hid.mk (e6.out.1 275 81 (by decide))).out (by omega)) (fun r22 w23 h24 => ?_)
    obtain ⟨rfl, q25⟩ := h24
    replace q25 := (show Hid (EM w2 w23 (w 275 78) 30 (0) (w 275 81)) from q25)
    have u26 : Hid (w23 275 78 = w 275 78 + 1) := Hid.mk (Eq.trans q25.out.2.2.2.2 (by omega))
    have u32 : Hid (w23 275 84 = w 275 84) := Hid.mk (Eq.trans (q25.out.fld (by decide)) (show Hid (w2 275 84 = w 275 84) from Hid.mk (e6.out.1 275 84 (by decide))).out)
    have u36 : Hid (w23 275 88 = w 275 88) := Hid.mk (Eq.trans (q25.out.fld (by decide)) (show Hid (w2 275 88 = w 275 88) from Hid.mk (e6.out.1 275 88 (by decide))).out)
    have f38 : e_fr (mStm (w 275 78) (w 275 79) (w 275 80) (w 275 94)) w w23 := e_fr.trans (show e_fr (mStm (w 275 78) (w 275 79) (w 275 80) (w 275 94)) w w2 from e_fr.trans (e_fr.refl w) (fun c k g => e6.out.1 c k (fun g2 => g (mU_St g2)))) (q25.out.st (by omega))
    have c40 := cSt.em c19 q25.out (by decide) (by omega) (by omega)
    refine e_Ok.nrm (q := 11) (st' := [(0, w 275 78)]) rfl rfl ?_
    refine e_Ok.run (t' := (16, [(0, (1, 275))], [(0, 18), (1, 275), (1, 275)], w23)) 4 rfl ?_
    refine e_Ok.callV rfl (Nat.le_trans (by decide) hdq) rfl rfl rfl rfl (c_332 c40.1 (N := N) c40.2.2.2.1) (fun r44 w45 h46 => ?_)
    obtain ⟨z47, rfl, rfl, q48⟩ := h46
    obtain ⟨rfl, q48, q48b⟩ | ⟨rfl, q48n⟩ := q48
    · refine e_Ok.nrm (q := 19) (st' := [(0, 1), (1, 275)]) rfl rfl ?_
      rw [u32.out] at q48
      rw [(show Hid (w23 275 85 = w 275 85) from Hid.mk (Eq.trans (q25.out.fld (by decide)) (show Hid (w2 275 85 = w 275 85) from Hid.mk (e6.out.1 275 85 (by decide))).out)).out] at q48b
      refine e_Ok.callV rfl (Nat.le_trans (by decide) hdq) rfl rfl rfl rfl (c_334 (Nat.le_trans (by decide) hdq) c40.1 c40.2.1 c40.2.2.1 hNr c40.2.2.2.1 (by decide)) (fun r49 w50 h51 => ?_)
      obtain ⟨rfl, q52⟩ := h51
      obtain ⟨rfl, q52z⟩ | ⟨q52z, q52b, q52, q52s, q52t⟩ | ⟨q52z, q52b, q52, q52T, q52H, q52r⟩ := q52
      · rw [u36.out] at q52z; exact absurd q52z (by omega)
      · show e_Ok 20 elay ecode eI (d + 1) 350 (22, [(0, (1, 275))], [], w50) _
        rw [u36.out] at q52z
        rw [(show Hid (w23 275 87 = w 275 87) from Hid.mk (Eq.trans (q25.out.fld (by decide)) (show Hid (w2 275 87 = w 275 87) from Hid.mk (e6.out.1 275 87 (by decide))).out)).out] at q52t
        have p53 := tkS.pos c40.2.2.2.1 (by rw [u32.out] <;> omega)
        rw [(show Hid (w23 275 86 = w 275 86) from Hid.mk (Eq.trans (q25.out.fld (by decide)) (show Hid (w2 275 86 = w 275 86) from Hid.mk (e6.out.1 275 86 (by decide))).out)).out, (show Hid (w23 275 87 = w 275 87) from Hid.mk (Eq.trans (q25.out.fld (by decide)) (show Hid (w2 275 87 = w 275 87) from Hid.mk (e6.out.1 275 87 (by decide))).out)).out] at p53
        have p54 := tkS.key c40.2.2.2.1 (by rw [u32.out] <;> omega)
        rw [(show Hid (w23 275 86 = w 275 86) from Hid.mk (Eq.trans (q25.out.fld (by decide)) (show Hid (w2 275 86 = w 275 86) from Hid.mk (e6.out.1 275 86 (by decide))).out)).out, (show Hid (w23 275 87 = w 275 87) from Hid.mk (Eq.trans (q25.out.fld (by decide)) (show Hid (w2 275 87 = w 275 87) from Hid.mk (e6.out.1 275 87 (by decide))).out)).out, (show Hid (w23 275 85 = w 275 85) from Hid.mk (Eq.trans (q25.out.fld (by decide)) (show Hid (w2 275 85 = w 275 85) from Hid.mk (e6.out.1 275 85 (by decide))).out)).out] at p54
        have u55 : Hid (w50 275 78 = w 275 78 + 1) := Hid.mk (Eq.trans (q52 275 78 (mTq_fld (by decide))) u26.out)
        have u62 : Hid (w50 275 94 = w 275 94) := Hid.mk (Eq.trans (q52 275 94 (mTq_fld (by decide))) (show Hid (w23 275 94 = w 275 94) from Hid.mk (Eq.trans (q25.out.fld (by decide)) (show Hid (w2 275 94 = w 275 94) from Hid.mk (e6.out.1 275 94 (by decide))).out)).out)
        have c63 := cSt.tk c40 q52 q52s
        have t64 := tkS.lin c63.2.2.2.1
        refine e_Ok.run (t' := (23, [(0, (1, 275))], [(1, 275)], w50)) 1 rfl ?_
        refine e_Ok.callV rfl (Nat.le_trans (by decide) hdq) rfl rfl rfl rfl (c_exp (o := w 275 83 + 1) (Nat.le_trans (by decide) hdq) (by omega) w50 N (w 275 79) (w 275 81) (0) (enc P (w 275 78 + 1) (w 275 94)) c63 hNr (by rw [(show Hid (w50 275 88 = w 275 88) from Hid.mk (Eq.trans (q52 275 88 (mTq_fld (by decide))) u36.out)).out] <;> omega) (show Hid (w50 275 83 = w 275 83 + 1) from Hid.mk (Eq.trans (q52 275 83 (mTq_fld (by decide))) (show Hid (w23 275 83 = w 275 83 + 1) from Hid.mk (Eq.trans (q25.out.fld (by decide)) (show Hid (w2 275 83 = w 275 83 + 1) from Hid.mk (e6.out.2)).out)).out)).out (show Hid (w50 275 81 = w 275 81) from Hid.mk (Eq.trans (q52 275 81 (mTq_fld (by decide))) (show Hid (w23 275 81 = w 275 81) from Hid.mk (Eq.trans (q25.out.fld (by decide)) (show Hid (w2 275 81 = w 275 81) from Hid.mk (e6.out.1 275 81 (by decide))).out)).out)).out (by rw [u55.out, u62.out] <;> omega) (by rw [u55.out, u62.out] <;> exact GS.wf (GA.gs ((show Hid (w 275 88 = 0 → GA w50 N (w 275 78 + 1) (w 275 94) (w 275 79) (w 275 80) P (w 275 81) OW O) from Hid.mk (fun z => GA.pr ((show Hid (w 275 88 = 0 → GA w23 N (w 275 78 + 1) (w 275 94) (w 275 79) (w 275 80) P (w 275 81) OW O) from Hid.mk (fun z => (GB.beg ((show Hid (w 275 88 = 0 → GB w2 N (w 275 78) (w 275 94) (w 275 79) (w 275 80) P (w 275 81) OW O) from Hid.mk (fun z => GB.pr (hgH.out z) (prE.up q4))).out (by omega)) q25.out))).out z) (prE.tk q52))).out (by omega)))) (by omega)) (fun r69 w70 h71 => ?_)
        obtain ⟨rfl, q72F, q72c, q72l, q72w⟩ := h71
        unfold cLn at q72l
        rw [u55.out, (show Hid (w50 275 83 = w 275 83 + 1) from Hid.mk (Eq.trans (q52 275 83 (mTq_fld (by decide))) (show Hid (w23 275 83 = w 275 83 + 1) from Hid.mk (Eq.trans (q25.out.fld (by decide)) (show Hid (w2 275 83 = w 275 83 + 1) from Hid.mk (e6.out.2)).out)).out)).out, u62.out] at q72l
        rw [u55.out, u62.out] at q72F
        obtain ⟨q721, q722, q723, q724, q725, q726, q727, q728, q729⟩ := q72l
        replace q72w := (show Hid _ from q72w)
        have u73 : Hid (w70 275 79 = w 275 79) := Hid.mk (Eq.trans (q72F 275 79 (mEx_fld (by decide))) (show Hid (w50 275 79 = w 275 79) from Hid.mk (Eq.trans (q52 275 79 (mTq_fld (by decide))) (show Hid (w23 275 79 = w 275 79) from Hid.mk (Eq.trans (q25.out.fld (by decide)) (show Hid (w2 275 79 = w 275 79) from Hid.mk (e6.out.1 275 79 (by decide))).out)).out)).out)
        have u74 : Hid (w70 275 80 = w 275 80) := Hid.mk (Eq.trans (q72F 275 80 (mEx_fld (by decide))) (show Hid (w50 275 80 = w 275 80) from Hid.mk (Eq.trans (q52 275 80 (mTq_fld (by decide))) (show Hid (w23 275 80 = w 275 80) from Hid.mk (Eq.trans (q25.out.fld (by decide)) (show Hid (w2 275 80 = w 275 80) from Hid.mk (e6.out.1 275 80 (by decide))).out)).out)).out)
        have u75 : Hid (w70 275 81 = w 275 81) := Hid.mk (Eq.trans (q72F 275 81 (mEx_fld (by decide))) (show Hid (w50 275 81 = w 275 81) from Hid.mk (Eq.trans (q52 275 81 (mTq_fld (by decide))) (show Hid (w23 275 81 = w 275 81) from Hid.mk (Eq.trans (q25.out.fld (by decide)) (show Hid (w2 275 81 = w 275 81) from Hid.mk (e6.out.1 275 81 (by decide))).out)).out)).out)
        have u76 : Hid (w70 275 82 = w 275 82) := Hid.mk (Eq.trans (q72F 275 82 (mEx_fld (by decide))) (show Hid (w50 275 82 = w 275 82) from Hid.mk (Eq.trans (q52 275 82 (mTq_fld (by decide))) (show Hid (w23 275 82 = w 275 82) from Hid.mk (Eq.trans (q25.out.fld (by decide)) (show Hid (w2 275 82 = w 275 82) from Hid.mk (e6.out.1 275 82 (by decide))).out)).out)).out)
        have t77 := tkS.lin q72c.2.2.2.1
        have t78 := e_Has.get q72c.2.1 (c := 275) (k := 88) (lo := 0) (hi := 7) rfl (by decide)
        have f79 : e_fr (mStm (w 275 78) (w 275 79) (w 275 80) (w 275 94)) w w70 := e_fr.trans (show e_fr (mStm (w 275 78) (w 275 79) (w 275 80) (w 275 94)) w w50 from e_fr.trans f38 (e_fr.mono q52 (fun c k g => mTq_St g))) (e_fr.mono q72F (fun c k g => mEx_St (by omega) (by omega) g))
        have q72x : Hid (w70 275 88 = 0 → GS w70 N (w70 275 78) (w70 275 94) (w 275 79) (w 275 80) P (w 275 81) OW O (0 + 1) ∧ (∀ p, w 275 78 + 1 ≤ p → p < w70 275 78 → w70 330 (p + 40000) = w 275 81) ∧ dp w70 (w 275 78 + 1) = 0 ∧ ((0 : Int) ≠ 0 + 1 → w 275 78 + 1 < w70 275 78)) := Hid.mk (fun z => GS.ex (GA.gs ((show Hid (w 275 88 = 0 → GA w50 N (w 275 78 + 1) (w 275 94) (w 275 79) (w 275 80) P (w 275 81) OW O) from Hid.mk (fun z => GA.pr ((show Hid (w 275 88 = 0 → GA w23 N (w 275 78 + 1) (w 275 94) (w 275 79) (w 275 80) P (w 275 81) OW O) from Hid.mk (fun z => (GB.beg ((show Hid (w 275 88 = 0 → GB w2 N (w 275 78) (w 275 94) (w 275 79) (w 275 80) P (w 275 81) OW O) from Hid.mk (fun z => GB.pr (hgH.out z) (prE.up q4))).out (by omega)) q25.out))).out z) (prE.tk q52))).out (by omega))) q72F (by omega) (by omega) (q72w.out z))
        show e_Ok 20 elay ecode eI (d + 1) 350 (26, [(0, (1, 275))], [], w70) _
        refine e_Ok.ps3 (x := (0, 58)) (y := (1, 275)) (z := (1, 275)) (q := 30) 3 rfl ?_
        refine e_Ok.callV rfl (Nat.le_trans (by decide) hdq) rfl rfl rfl rfl (c_331 q72c.1 (N := N) q72c.2.2.2.1) (fun r83 w84 h85 => ?_)
        obtain ⟨z86, rfl, rfl, q87⟩ := h85
        obtain ⟨rfl, q87, q87b⟩ | ⟨rfl, q87n⟩ := q87
        · refine e_Ok.nrm (q := 33) (st' := [(0, 1), (1, 275)]) rfl rfl ?_
          refine e_Ok.callV rfl (Nat.le_trans (by decide) hdq) rfl rfl rfl rfl (c_334 (Nat.le_trans (by decide) hdq) q72c.1 q72c.2.1 q72c.2.2.1 hNr q72c.2.2.2.1 (by decide)) (fun r88 w89 h90 => ?_)
          obtain ⟨rfl, q91⟩ := h90
          obtain ⟨rfl, q91z⟩ | ⟨q91z, q91b, q91, q91s, q91t⟩ | ⟨q91z, q91b, q91, q91T, q91H, q91r⟩ := q91
          · refine e_Ok.nrm (q := 36) (st' := []) rfl rfl ?_
            clear q723
            clear q729
            refine e_Ok.ps3 (x := (0, 0)) (y := (0, 47)) (z := (1, 275)) (q := 40) 3 rfl ?_
            refine e_Ok.callV rfl (Nat.le_trans (by decide) hdq) rfl rfl rfl rfl (c_336 q72c.1 (n := w70 275 78) rfl (by omega) (s := w 275 81) u75.out (by omega)) (fun r92 w93 h94 => ?_)
            obtain ⟨rfl, q95⟩ := h94
            replace q95 := (show Hid (EM w70 w93 (w70 275 78) 47 (0) (w 275 81)) from q95)
            have u101 : Hid (w93 275 78 = w70 275 78 + 1) := Hid.mk (Eq.trans q95.out.2.2.2.2 (by omega))
            have c115 := cSt.em q72c q95.out (by decide) (by omega) (by omega)
            refine e_Ok.nrm (q := 43) (st' := [(0, w70 275 78)]) rfl rfl ?_
            refine e_Ok.run (t' := (45, [(1, (0, w70 275 78)), (0, (1, 275))], [(1, 275)], w93)) 2 rfl ?_
            refine e_Ok.callV rfl (Nat.le_trans (by decide) hdq) rfl rfl rfl rfl (c_348_0 (Nat.le_trans (by decide) hdq) c115 (by rw [(show Hid (w93 275 88 = w70 275 88) from Hid.mk (q95.out.fld (by decide))).out] <;> omega)) (fun r116 w117 h118 => ?_)
            obtain ⟨rfl, rfl⟩ := h118
            refine e_Ok.nrm (q := 48) (st' := []) rfl rfl ?_
            refine e_Ok.ps1 (x := (1, 275)) (q := 49) 1 rfl ?_
            refine e_Ok.getf (z := w70 275 88) rfl (el_o rfl) rfl (ef_o rfl) (show Hid (w93 275 88 = w70 275 88) from Hid.mk (q95.out.fld (by decide))).out (by omega) ?_
            refine e_Ok.if1 rfl (fun h119 => ?_) (fun h119 => ?_)
            · replace h119 : (w70 275 88 : Int) ≠ 0 := h119
              refine e_Ok.ps2 (x := (0, w70 275 78)) (y := (1, 275)) (q := 105) 2 rfl ?_
              refine e_Ok.callV rfl (Nat.le_trans (by decide) hdq) rfl rfl rfl rfl (c_337 c115.1 (n := w70 275 78 + 1) u101.out (by omega) (by omega)) (fun r120 w121 h122 => ?_)
              obtain ⟨rfl, q123⟩ := h122
              have f124 : e_fr (mStm (w 275 78) (w 275 79) (w 275 80) (w 275 94)) w w121 := e_fr.up (show e_fr (mStm (w 275 78) (w 275 79) (w 275 80) (w 275 94)) w w93 from e_fr.trans f79 (q95.out.st (by omega))) q123 (by unfold mStm; omega)
              have u135 : Hid (w121 275 88 = w70 275 88) := Hid.upn q123 (Or.inl (by decide)) (show Hid (w93 275 88 = w70 275 88) from Hid.mk (q95.out.fld (by decide)))
              have c137 := cSt.wr c115 q123 (Or.inl rfl) (by omega) rfl (fun y => absurd y (by decide))
              refine e_Ok.nrm (q := 108) (st' := []) rfl rfl ?_
              refine e_Ok.ps3 (x := (0, 2)) (y := (1, 275)) (z := (1, 275)) (q := 111) 3 rfl ?_
              refine e_Ok.callV rfl (Nat.le_trans (by decide) hdq) rfl rfl rfl rfl (c_332 c137.1 (N := N) c137.2.2.2.1) (fun r138 w139 h140 => ?_)
              obtain ⟨z141, rfl, rfl, q142⟩ := h140
              obtain ⟨rfl, q142, q142b⟩ | ⟨rfl, q142n⟩ := q142
              · refine e_Ok.nrm (q := 114) (st' := [(0, 1), (1, 275)]) rfl rfl ?_
                rw [(Hid.upn q123 (Or.inl (by decide)) (show Hid (w93 275 84 = w70 275 84) from Hid.mk (q95.out.fld (by decide)))).out] at q142
                rw [(Hid.upn q123 (Or.inl (by decide)) (show Hid (w93 275 85 = w70 275 85) from Hid.mk (q95.out.fld (by decide)))).out] at q142b
                refine e_Ok.callV rfl (Nat.le_trans (by decide) hdq) rfl rfl rfl rfl (c_334 (Nat.le_trans (by decide) hdq) c137.1 c137.2.1 c137.2.2.1 hNr c137.2.2.2.1 (by decide)) (fun r143 w144 h145 => ?_)
                obtain ⟨rfl, q146⟩ := h145
                obtain ⟨rfl, q146z⟩ | ⟨q146z, q146b, q146, q146s, q146t⟩ | ⟨q146z, q146b, q146, q146T, q146H, q146r⟩ := q146
                · show e_Ok 20 elay ecode eI (d + 1) 350 (117, [(1, (0, w70 275 78)), (0, (1, 275))], [], w121) _
                  rw [u135.out] at q146z
                  refine e_Ok.run (t' := (119, [(1, (0, w70 275 78)), (0, (1, 275))], [(1, 275), (1, 275)], w121)) 2 rfl ?_
                  refine e_Ok.getf (z := w70 275 83) rfl (el_o rfl) rfl (ef_o rfl) (Hid.upn q123 (Or.inl (by decide)) (show Hid (w93 275 83 = w70 275 83) from Hid.mk (q95.out.fld (by decide)))).out (by omega) ?_
                  refine e_Ok.ps1 (x := (0, 1)) (q := 123) 1 rfl ?_
                  refine e_Ok.sub' (z := w70 275 83 - 1) rfl rfl (by omega) ?_
                  refine e_Ok.putf rfl (el_o rfl) rfl (ef_o rfl) ?_
                  generalize hw147 : e_up w121 275 83 (w70 275 83 - 1) = w147
                  have e149 := up83 hw147
                  replace e149 := (show Hid _ from e149)
                  refine e_Ok.rets rfl rfl ?_
                  exact ⟨rfl, (show e_fr (mStm (w 275 78) (w 275 79) (w 275 80) (w 275 94)) w w147 from e_fr.up f124 hw147 (by first | exact Or.inr (Or.inr (Or.inr (Or.inr ⟨rfl, Or.inl ⟨(by decide), (by decide)⟩⟩))) | (unfold mStm; omega))), (cSt.up c137 hw147), (by unfold stL; rw [(show Hid (w147 275 78 = w70 275 78 + 1) from Hid.mk (Eq.trans (e149.out.1 275 78 (by decide)) (Hid.upn q123 (Or.inl (by decide)) u101).out)).out, (show Hid (w147 275 79 = w 275 79) from Hid.mk (Eq.trans (e149.out.1 275 79 (by decide)) (Hid.upn q123 (Or.inl (by decide)) (show Hid (w93 275 79 = w 275 79) from Hid.mk (Eq.trans (q95.out.fld (by decide)) u73.out))).out)).out, (show Hid (w147 275 80 = w 275 80) from Hid.mk (Eq.trans (e149.out.1 275 80 (by decide)) (Hid.upn q123 (Or.inl (by decide)) (show Hid (w93 275 80 = w 275 80) from Hid.mk (Eq.trans (q95.out.fld (by decide)) u74.out))).out)).out, (show Hid (w147 275 81 = w 275 81) from Hid.mk (Eq.trans (e149.out.1 275 81 (by decide)) (Hid.upn q123 (Or.inl (by decide)) (show Hid (w93 275 81 = w 275 81) from Hid.mk (Eq.trans (q95.out.fld (by decide)) u75.out))).out)).out, (show Hid (w147 275 82 = w 275 82) from Hid.mk (Eq.trans (e149.out.1 275 82 (by decide)) (Hid.upn q123 (Or.inl (by decide)) (show Hid (w93 275 82 = w 275 82) from Hid.mk (Eq.trans (q95.out.fld (by decide)) u76.out))).out)).out, (show Hid (w147 275 83 = w70 275 83 - 1) from Hid.mk (e149.out.2)).out, (show Hid (w147 275 86 = w70 275 86) from Hid.mk (Eq.trans (e149.out.1 275 86 (by decide)) (Hid.upn q123 (Or.inl (by decide)) (show Hid (w93 275 86 = w70 275 86) from Hid.mk (q95.out.fld (by decide)))).out)).out, (show Hid (w147 275 88 = w70 275 88) from Hid.mk (Eq.trans (e149.out.1 275 88 (by decide)) u135.out)).out, (show Hid (w147 275 94 = w70 275 94) from Hid.mk (Eq.trans (e149.out.1 275 94 (by decide)) (Hid.upn q123 (Or.inl (by decide)) (show Hid (w93 275 94 = w70 275 94) from Hid.mk (q95.out.fld (by decide)))).out)).out]; omega), (fun z => by rw [(show Hid (w147 275 88 = w70 275 88) from Hid.mk (Eq.trans (e149.out.1 275 88 (by decide)) u135.out)).out] at z; exact absurd z (by omega))⟩
                · rw [u135.out] at q146z; exact absurd q146z (by omega)
                · rw [u135.out] at q146z; exact absurd q146z (by omega)
              · refine e_Ok.nrm (q := 114) (st' := [(0, 0), (1, 275)]) rfl rfl ?_
                clear q142n
                refine e_Ok.callV rfl (Nat.le_trans (by decide) hdq) rfl rfl rfl rfl (c_334 (Nat.le_trans (by decide) hdq) c137.1 c137.2.1 c137.2.2.1 hNr c137.2.2.2.1 (by decide)) (fun r163 w164 h165 => ?_)
                obtain ⟨rfl, q166⟩ := h165
                obtain ⟨rfl, q166z⟩ | ⟨q166z, q166b, q166, q166s, q166t⟩ | ⟨q166z, q166b, q166, q166T, q166H, q166r⟩ := q166
                · refine e_Ok.nrm (q := 117) (st' := []) rfl rfl ?_
                  rw [u135.out] at q166z
                  refine e_Ok.run (t' := (119, [(1, (0, w70 275 78)), (0, (1, 275))], [(1, 275), (1, 275)], w121)) 2 rfl ?_
                  refine e_Ok.getf (z := w70 275 83) rfl (el_o rfl) rfl (ef_o rfl) (Hid.upn q123 (Or.inl (by decide)) (show Hid (w93 275 83 = w70 275 83) from Hid.mk (q95.out.fld (by decide)))).out (by omega) ?_
                  refine e_Ok.ps1 (x := (0, 1)) (q := 123) 1 rfl ?_
                  refine e_Ok.sub' (z := w70 275 83 - 1) rfl rfl (by omega) ?_
                  refine e_Ok.putf rfl (el_o rfl) rfl (ef_o rfl) ?_
                  generalize hw167 : e_up w121 275 83 (w70 275 83 - 1) = w167
                  have e169 := up83 hw167
                  replace e169 := (show Hid _ from e169)
                  refine e_Ok.rets rfl rfl ?_
                  exact ⟨rfl, (show e_fr (mStm (w 275 78) (w 275 79) (w 275 80) (w 275 94)) w w167 from e_fr.up f124 hw167 (by first | exact Or.inr (Or.inr (Or.inr (Or.inr ⟨rfl, Or.inl ⟨(by decide), (by decide)⟩⟩))) | (unfold mStm; omega))), (cSt.up c137 hw167), (by unfold stL; rw [(show Hid (w167 275 78 = w70 275 78 + 1) from Hid.mk (Eq.trans (e169.out.1 275 78 (by decide)) (Hid.upn q123 (Or.inl (by decide)) u101).out)).out, (show Hid (w167 275 79 = w 275 79) from Hid.mk (Eq.trans (e169.out.1 275 79 (by decide)) (Hid.upn q123 (Or.inl (by decide)) (show Hid (w93 275 79 = w 275 79) from Hid.mk (Eq.trans (q95.out.fld (by decide)) u73.out))).out)).out, (show Hid (w167 275 80 = w 275 80) from Hid.mk (Eq.trans (e169.out.1 275 80 (by decide)) (Hid.upn q123 (Or.inl (by decide)) (show Hid (w93 275 80 = w 275 80) from Hid.mk (Eq.trans (q95.out.fld (by decide)) u74.out))).out)).out, (show Hid (w167 275 81 = w 275 81) from Hid.mk (Eq.trans (e169.out.1 275 81 (by decide)) (Hid.upn q123 (Or.inl (by decide)) (show Hid (w93 275 81 = w 275 81) from Hid.mk (Eq.trans (q95.out.fld (by decide)) u75.out))).out)).out, (show Hid (w167 275 82 = w 275 82) from Hid.mk (Eq.trans (e169.out.1 275 82 (by decide)) (Hid.upn q123 (Or.inl (by decide)) (show Hid (w93 275 82 = w 275 82) from Hid.mk (Eq.trans (q95.out.fld (by decide)) u76.out))).out)).out, (show Hid (w167 275 83 = w70 275 83 - 1) from Hid.mk (e169.out.2)).out, (show Hid (w167 275 86 = w70 275 86) from Hid.mk (Eq.trans (e169.out.1 275 86 (by decide)) (Hid.upn q123 (Or.inl (by decide)) (show Hid (w93 275 86 = w70 275 86) from Hid.mk (q95.out.fld (by decide)))).out)).out, (show Hid (w167 275 88 = w70 275 88) from Hid.mk (Eq.trans (e169.out.1 275 88 (by decide)) u135.out)).out, (show Hid (w167 275 94 = w70 275 94) from Hid.mk (Eq.trans (e169.out.1 275 94 (by decide)) (Hid.upn q123 (Or.inl (by decide)) (show Hid (w93 275 94 = w70 275 94) from Hid.mk (q95.out.fld (by decide)))).out)).out]; omega), (fun z => by rw [(show Hid (w167 275 88 = w70 275 88) from Hid.mk (Eq.trans (e169.out.1 275 88 (by decide)) u135.out)).out] at z; exact absurd z (by omega))⟩
                · rw [u135.out] at q166z; exact absurd q166z (by omega)
                · rw [u135.out] at q166z; exact absurd q166z (by omega)
            · replace h119 : (w70 275 88 : Int) = 0 := Classical.not_not.mp (show ¬ ((w70 275 88 : Int) ≠ 0) from h119)
              exfalso; omega
          · refine e_Ok.nrm (q := 36) (st' := []) rfl rfl ?_
            replace q723 := q723 (by omega)
            replace q729 := q729 (by omega)
            have p183 := tkS.pos q72c.2.2.2.1 (by omega)
            have c192 := cSt.tk q72c q91 q91s
            have t193 := tkS.lin c192.2.2.2.1
            refine e_Ok.ps3 (x := (0, 0)) (y := (0, 47)) (z := (1, 275)) (q := 40) 3 rfl ?_
            refine e_Ok.callV rfl (Nat.le_trans (by decide) hdq) rfl rfl rfl rfl (c_336 c192.1 (n := w70 275 78) (show Hid (w89 275 78 = w70 275 78) from Hid.mk (q91 275 78 (mTq_fld (by decide)))).out (by omega) (s := w 275 81) (show Hid (w89 275 81 = w 275 81) from Hid.mk (Eq.trans (q91 275 81 (mTq_fld (by decide))) u75.out)).out (by omega)) (fun r198 w199 h200 => ?_)
            obtain ⟨rfl, q201⟩ := h200
            replace q201 := (show Hid (EM w89 w199 (w70 275 78) 47 (0) (w 275 81)) from q201)
            have u202 : Hid (w199 275 78 = w70 275 78 + 1) := Hid.mk (Eq.trans q201.out.2.2.2.2 (by omega))
            have u203 : Hid (w199 275 79 = w 275 79) := Hid.mk (Eq.trans (q201.out.fld (by decide)) (show Hid (w89 275 79 = w 275 79) from Hid.mk (Eq.trans (q91 275 79 (mTq_fld (by decide))) u73.out)).out)
            have u204 : Hid (w199 275 80 = w 275 80) := Hid.mk (Eq.trans (q201.out.fld (by decide)) (show Hid (w89 275 80 = w 275 80) from Hid.mk (Eq.trans (q91 275 80 (mTq_fld (by decide))) u74.out)).out)
            have u207 : Hid (w199 275 83 = w70 275 83) := Hid.mk (Eq.trans (q201.out.fld (by decide)) (show Hid (w89 275 83 = w70 275 83) from Hid.mk (q91 275 83 (mTq_fld (by decide)))).out)
            have u210 : Hid (w199 275 86 = w89 275 86) := Hid.mk (q201.out.fld (by decide))
            have u213 : Hid (w199 275 94 = w70 275 94) := Hid.mk (Eq.trans (q201.out.fld (by decide)) (show Hid (w89 275 94 = w70 275 94) from Hid.mk (q91 275 94 (mTq_fld (by decide)))).out)
            refine e_Ok.nrm (q := 43) (st' := [(0, w70 275 78)]) rfl rfl ?_
            refine e_Ok.run (t' := (45, [(1, (0, w70 275 78)), (0, (1, 275))], [(1, 275)], w199)) 2 rfl ?_
            refine e_Ok.callV rfl (Nat.le_trans (by decide) hdq) rfl rfl rfl rfl ((hS (by omega) d rfl) w199 N O (fun p => P p ∨ p = w70 275 78) OW (cSt.em c192 q201.out (by decide) (by omega) (by omega)) hNr (by rw [(show Hid (w199 275 88 = w70 275 88) from Hid.mk (Eq.trans (q201.out.fld (by decide)) (show Hid (w89 275 88 = w70 275 88) from Hid.mk (q91 275 88 (mTq_fld (by decide)))).out)).out] <;> omega) (Eq.trans u207.out (show _ = o + 1 from by omega)) (by rw [(show Hid (w199 275 82 = w 275 82) from Hid.mk (Eq.trans (q201.out.fld (by decide)) (show Hid (w89 275 82 = w 275 82) from Hid.mk (Eq.trans (q91 275 82 (mTq_fld (by decide))) u76.out)).out)).out] <;> exact hv.out) (by unfold stB; rw [u202.out, u210.out, u213.out, u203.out, u204.out]; omega) (by omega) (by rw [u202.out, u213.out, u203.out, u204.out, (show Hid (w199 275 81 = w 275 81) from Hid.mk (Eq.trans (q201.out.fld (by decide)) (show Hid (w89 275 81 = w 275 81) from Hid.mk (Eq.trans (q91 275 81 (mTq_fld (by decide))) u75.out)).out)).out] <;> exact ((show Hid (w70 275 88 = 0 → GB w199 N (w70 275 78 + 1) (w70 275 94) (w 275 79) (w 275 80) (fun p => P p ∨ p = w70 275 78) (w 275 81) OW O) from Hid.mk (fun z => (GS.jn (GS.re ((show Hid (w70 275 88 = 0 → GS w89 N (w70 275 78) (w70 275 94) (w 275 79) (w 275 80) P (w 275 81) OW O (0 + 1)) from Hid.mk (fun z => GS.pr ((show Hid (w70 275 88 = 0 → GS w70 N (w70 275 78) (w70 275 94) (w 275 79) (w 275 80) P (w 275 81) OW O (0 + 1)) from Hid.mk (fun z => (q72x.out z).1)).out z) (prE.tk q91))).out (by omega)) rfl rfl rfl rfl rfl (show _ = 1 from by omega)) q201.out))).out (by omega)))) (fun r221 w222 h223 => ?_)
            obtain ⟨rfl, q224F, q224c, q224l, q224w⟩ := h223
            unfold stL at q224l
            obtain ⟨q2241, q2242, q2243, q2244, q2245, q2246, q2247, q2248, q2249, q22410, q22411, q22412⟩ := q224l
            replace q2249 := (show Hid _ from q2249)
            replace q22410 := (show Hid _ from q22410)
            replace q224F := (show Hid _ from q224F)
            rw [u210.out] at q2241
            rw [u202.out] at q2242
            rw [u202.out, u210.out, u207.out, u203.out, u204.out] at q2243
            rw [u202.out, u210.out] at q2244
            rw [u213.out] at q2245
            rw [u213.out, u210.out] at q2246
            rw [u207.out] at q2247
            rw [u207.out] at q2248
            rw [u203.out] at q22411
            rw [u204.out] at q22412
            have f225 : Hid (e_fr (mStm (w70 275 78 + 1) (w 275 79) (w 275 80) (w70 275 94)) w199 w222) := Hid.mk (by have y := q224F.out; rw [u202.out, u203.out, u204.out, u213.out] at y; exact y)
            replace q224w := (show Hid _ from q224w)
            have u226 : Hid (w222 275 81 = w 275 81) := Hid.mk (Eq.trans (q2249.out) (show Hid (w199 275 81 = w 275 81) from Hid.mk (Eq.trans (q201.out.fld (by decide)) (show Hid (w89 275 81 = w 275 81) from Hid.mk (Eq.trans (q91 275 81 (mTq_fld (by decide))) u75.out)).out)).out)
            have t228 := tkS.lin q224c.2.2.2.1
            have t229 := e_Has.get q224c.2.1 (c := 275) (k := 88) (lo := 0) (hi := 7) rfl (by decide)
            have f230 : e_fr (mStm (w 275 78) (w 275 79) (w 275 80) (w 275 94)) w w222 := e_fr.trans (show e_fr (mStm (w 275 78) (w 275 79) (w 275 80) (w 275 94)) w w199 from e_fr.trans (show e_fr (mStm (w 275 78) (w 275 79) (w 275 80) (w 275 94)) w w89 from e_fr.trans f79 (e_fr.mono q91 (fun c k g => mTq_St g))) (q201.out.st (by omega))) (e_fr.mono f225.out (fun c k g => mSt_St (by omega) (by omega) (by omega) (by omega) g))
            have cf234 : Hid (w222 328 (w70 275 78 + 40000) = 47) := Hid.mk (Eq.trans (f225.out 328 (w70 275 78 + 40000) (by unfold mStm; omega)) (show Hid (w199 328 (w70 275 78 + 40000) = 47) from Hid.mk (q201.out.2.1)).out)
            have cf235 : Hid (w222 330 (w70 275 78 + 40000) = w 275 81) := Hid.mk (Eq.trans (f225.out 330 (w70 275 78 + 40000) (by unfold mStm; omega)) (show Hid (w199 330 (w70 275 78 + 40000) = w 275 81) from Hid.mk (q201.out.2.2.2.1)).out)
            show e_Ok 20 elay ecode eI (d + 1) 350 (48, [(1, (0, w70 275 78)), (0, (1, 275))], [], w222) _
            refine e_Ok.ps1 (x := (1, 275)) (q := 49) 1 rfl ?_
            refine e_Ok.getf (z := w222 275 88) rfl (el_o rfl) rfl (ef_o rfl) rfl (by omega) ?_
            refine e_Ok.if1 rfl (fun h236 => ?_) (fun h236 => ?_)
            · replace h236 : (w222 275 88 : Int) ≠ 0 := h236
              clear q2243
              refine e_Ok.ps2 (x := (0, w70 275 78)) (y := (1, 275)) (q := 105) 2 rfl ?_
              refine e_Ok.callV rfl (Nat.le_trans (by decide) hdq) rfl rfl rfl rfl (c_337 q224c.1 (n := w222 275 78) rfl (by omega) (by omega)) (fun r237 w238 h239 => ?_)
              obtain ⟨rfl, q240⟩ := h239
              have f241 : e_fr (mStm (w 275 78) (w 275 79) (w 275 80) (w 275 94)) w w238 := e_fr.up f230 q240 (by unfold mStm; omega)
              have u252 : Hid (w238 275 88 = w222 275 88) := Hid.mk (e_un q240 (Or.inl (by decide)))
              have c254 := cSt.wr q224c q240 (Or.inl rfl) (by omega) rfl (fun y => absurd y (by decide))
              refine e_Ok.nrm (q := 108) (st' := []) rfl rfl ?_
              refine e_Ok.ps3 (x := (0, 2)) (y := (1, 275)) (z := (1, 275)) (q := 111) 3 rfl ?_
              refine e_Ok.callV rfl (Nat.le_trans (by decide) hdq) rfl rfl rfl rfl (c_332 c254.1 (N := N) c254.2.2.2.1) (fun r255 w256 h257 => ?_)
              obtain ⟨z258, rfl, rfl, q259⟩ := h257
              obtain ⟨rfl, q259, q259b⟩ | ⟨rfl, q259n⟩ := q259
              · refine e_Ok.nrm (q := 114) (st' := [(0, 1), (1, 275)]) rfl rfl ?_
                rw [(show Hid (w238 275 84 = w222 275 84) from Hid.mk (e_un q240 (Or.inl (by decide)))).out] at q259
                rw [(show Hid (w238 275 85 = w222 275 85) from Hid.mk (e_un q240 (Or.inl (by decide)))).out] at q259b
                refine e_Ok.callV rfl (Nat.le_trans (by decide) hdq) rfl rfl rfl rfl (c_334 (Nat.le_trans (by decide) hdq) c254.1 c254.2.1 c254.2.2.1 hNr c254.2.2.2.1 (by decide)) (fun r260 w261 h262 => ?_)
                obtain ⟨rfl, q263⟩ := h262
                obtain ⟨rfl, q263z⟩ | ⟨q263z, q263b, q263, q263s, q263t⟩ | ⟨q263z, q263b, q263, q263T, q263H, q263r⟩ := q263
                · show e_Ok 20 elay ecode eI (d + 1) 350 (117, [(1, (0, w70 275 78)), (0, (1, 275))], [], w238) _
                  rw [u252.out] at q263z
                  refine e_Ok.run (t' := (119, [(1, (0, w70 275 78)), (0, (1, 275))], [(1, 275), (1, 275)], w238)) 2 rfl ?_
                  refine e_Ok.getf (z := w222 275 83) rfl (el_o rfl) rfl (ef_o rfl) (show Hid (w238 275 83 = w222 275 83) from Hid.mk (e_un q240 (Or.inl (by decide)))).out (by omega) ?_
                  refine e_Ok.ps1 (x := (0, 1)) (q := 123) 1 rfl ?_
                  refine e_Ok.sub' (z := w222 275 83 - 1) rfl rfl (by omega) ?_
                  refine e_Ok.putf rfl (el_o rfl) rfl (ef_o rfl) ?_
                  generalize hw264 : e_up w238 275 83 (w222 275 83 - 1) = w264
                  have e266 := up83 hw264
                  replace e266 := (show Hid _ from e266)
                  refine e_Ok.rets rfl rfl ?_
                  exact ⟨rfl, (show e_fr (mStm (w 275 78) (w 275 79) (w 275 80) (w 275 94)) w w264 from e_fr.up f241 hw264 (by first | exact Or.inr (Or.inr (Or.inr (Or.inr ⟨rfl, Or.inl ⟨(by decide), (by decide)⟩⟩))) | (unfold mStm; omega))), (cSt.up c254 hw264), (by unfold stL; rw [(show Hid (w264 275 78 = w222 275 78) from Hid.mk (Eq.trans (e266.out.1 275 78 (by decide)) (show Hid (w238 275 78 = w222 275 78) from Hid.mk (e_un q240 (Or.inl (by decide)))).out)).out, (show Hid (w264 275 79 = w222 275 79) from Hid.mk (Eq.trans (e266.out.1 275 79 (by decide)) (show Hid (w238 275 79 = w222 275 79) from Hid.mk (e_un q240 (Or.inl (by decide)))).out)).out, (show Hid (w264 275 80 = w222 275 80) from Hid.mk (Eq.trans (e266.out.1 275 80 (by decide)) (show Hid (w238 275 80 = w222 275 80) from Hid.mk (e_un q240 (Or.inl (by decide)))).out)).out, (show Hid (w264 275 81 = w 275 81) from Hid.mk (Eq.trans (e266.out.1 275 81 (by decide)) (Hid.upn q240 (Or.inl (by decide)) u226).out)).out, (show Hid (w264 275 82 = w 275 82) from Hid.mk (Eq.trans (e266.out.1 275 82 (by decide)) (Hid.upn q240 (Or.inl (by decide)) (show Hid (w222 275 82 = w 275 82) from Hid.mk (Eq.trans (q22410.out) (show Hid (w199 275 82 = w 275 82) from Hid.mk (Eq.trans (q201.out.fld (by decide)) (show Hid (w89 275 82 = w 275 82) from Hid.mk (Eq.trans (q91 275 82 (mTq_fld (by decide))) u76.out)).out)).out))).out)).out, (show Hid (w264 275 83 = w222 275 83 - 1) from Hid.mk (e266.out.2)).out, (show Hid (w264 275 86 = w222 275 86) from Hid.mk (Eq.trans (e266.out.1 275 86 (by decide)) (show Hid (w238 275 86 = w222 275 86) from Hid.mk (e_un q240 (Or.inl (by decide)))).out)).out, (show Hid (w264 275 88 = w222 275 88) from Hid.mk (Eq.trans (e266.out.1 275 88 (by decide)) u252.out)).out, (show Hid (w264 275 94 = w222 275 94) from Hid.mk (Eq.trans (e266.out.1 275 94 (by decide)) (show Hid (w238 275 94 = w222 275 94) from Hid.mk (e_un q240 (Or.inl (by decide)))).out)).out]; omega), (fun z => by rw [(show Hid (w264 275 88 = w222 275 88) from Hid.mk (Eq.trans (e266.out.1 275 88 (by decide)) u252.out)).out] at z; exact absurd z (by omega))⟩
                · rw [u252.out] at q263z; exact absurd q263z (by omega)
                · rw [u252.out] at q263z; exact absurd q263z (by omega)
              · refine e_Ok.nrm (q := 114) (st' := [(0, 0), (1, 275)]) rfl rfl ?_
                clear q259n
                refine e_Ok.callV rfl (Nat.le_trans (by decide) hdq) rfl rfl rfl rfl (c_334 (Nat.le_trans (by decide) hdq) c254.1 c254.2.1 c254.2.2.1 hNr c254.2.2.2.1 (by decide)) (fun r280 w281 h282 => ?_)
                obtain ⟨rfl, q283⟩ := h282
                obtain ⟨rfl, q283z⟩ | ⟨q283z, q283b, q283, q283s, q283t⟩ | ⟨q283z, q283b, q283, q283T, q283H, q283r⟩ := q283
                · refine e_Ok.nrm (q := 117) (st' := []) rfl rfl ?_
                  rw [u252.out] at q283z
                  refine e_Ok.run (t' := (119, [(1, (0, w70 275 78)), (0, (1, 275))], [(1, 275), (1, 275)], w238)) 2 rfl ?_
                  refine e_Ok.getf (z := w222 275 83) rfl (el_o rfl) rfl (ef_o rfl) (show Hid (w238 275 83 = w222 275 83) from Hid.mk (e_un q240 (Or.inl (by decide)))).out (by omega) ?_
                  refine e_Ok.ps1 (x := (0, 1)) (q := 123) 1 rfl ?_
                  refine e_Ok.sub' (z := w222 275 83 - 1) rfl rfl (by omega) ?_
                  refine e_Ok.putf rfl (el_o rfl) rfl (ef_o rfl) ?_
                  generalize hw284 : e_up w238 275 83 (w222 275 83 - 1) = w284
                  have e286 := up83 hw284
                  replace e286 := (show Hid _ from e286)
                  refine e_Ok.rets rfl rfl ?_
                  exact ⟨rfl, (show e_fr (mStm (w 275 78) (w 275 79) (w 275 80) (w 275 94)) w w284 from e_fr.up f241 hw284 (by first | exact Or.inr (Or.inr (Or.inr (Or.inr ⟨rfl, Or.inl ⟨(by decide), (by decide)⟩⟩))) | (unfold mStm; omega))), (cSt.up c254 hw284), (by unfold stL; rw [(show Hid (w284 275 78 = w222 275 78) from Hid.mk (Eq.trans (e286.out.1 275 78 (by decide)) (show Hid (w238 275 78 = w222 275 78) from Hid.mk (e_un q240 (Or.inl (by decide)))).out)).out, (show Hid (w284 275 79 = w222 275 79) from Hid.mk (Eq.trans (e286.out.1 275 79 (by decide)) (show Hid (w238 275 79 = w222 275 79) from Hid.mk (e_un q240 (Or.inl (by decide)))).out)).out, (show Hid (w284 275 80 = w222 275 80) from Hid.mk (Eq.trans (e286.out.1 275 80 (by decide)) (show Hid (w238 275 80 = w222 275 80) from Hid.mk (e_un q240 (Or.inl (by decide)))).out)).out, (show Hid (w284 275 81 = w 275 81) from Hid.mk (Eq.trans (e286.out.1 275 81 (by decide)) (Hid.upn q240 (Or.inl (by decide)) u226).out)).out, (show Hid (w284 275 82 = w 275 82) from Hid.mk (Eq.trans (e286.out.1 275 82 (by decide)) (Hid.upn q240 (Or.inl (by decide)) (show Hid (w222 275 82 = w 275 82) from Hid.mk (Eq.trans (q22410.out) (show Hid (w199 275 82 = w 275 82) from Hid.mk (Eq.trans (q201.out.fld (by decide)) (show Hid (w89 275 82 = w 275 82) from Hid.mk (Eq.trans (q91 275 82 (mTq_fld (by decide))) u76.out)).out)).out))).out)).out, (show Hid (w284 275 83 = w222 275 83 - 1) from Hid.mk (e286.out.2)).out, (show Hid (w284 275 86 = w222 275 86) from Hid.mk (Eq.trans (e286.out.1 275 86 (by decide)) (show Hid (w238 275 86 = w222 275 86) from Hid.mk (e_un q240 (Or.inl (by decide)))).out)).out, (show Hid (w284 275 88 = w222 275 88) from Hid.mk (Eq.trans (e286.out.1 275 88 (by decide)) u252.out)).out, (show Hid (w284 275 94 = w222 275 94) from Hid.mk (Eq.trans (e286.out.1 275 94 (by decide)) (show Hid (w238 275 94 = w222 275 94) from Hid.mk (e_un q240 (Or.inl (by decide)))).out)).out]; omega), (fun z => by rw [(show Hid (w284 275 88 = w222 275 88) from Hid.mk (Eq.trans (e286.out.1 275 88 (by decide)) u252.out)).out] at z; exact absurd z (by omega))⟩
                · rw [u252.out] at q283z; exact absurd q283z (by omega)
                · rw [u252.out] at q283z; exact absurd q283z (by omega)
            · replace h236 : (w222 275 88 : Int) = 0 := Classical.not_not.mp (show ¬ ((w222 275 88 : Int) ≠ 0) from h236)
              replace q2243 := q2243 (by omega)
              refine e_Ok.ps2 (x := (0, 19)) (y := (1, 275)) (q := 58) 2 rfl ?_
              refine e_Ok.callV rfl (Nat.le_trans (by decide) hdq) rfl rfl rfl rfl (c_332 q224c.1 (N := N) q224c.2.2.2.1) (fun r300 w301 h302 => ?_)
              obtain ⟨z303, rfl, rfl, q304⟩ := h302
              obtain ⟨rfl, q304, q304b⟩ | ⟨rfl, q304n⟩ := q304
              · refine e_Ok.nrm (q := 61) (st' := [(0, 1)]) rfl rfl ?_
                refine e_Ok.if1 rfl (fun h305 => ?_) (fun h305 => ?_)
                · replace h305 : (1 : Int) = 0 := h305
                  exfalso; omega
                · replace h305 : (1 : Int) ≠ 0 := (show ¬ ((1 : Int) = 0) from h305)
                  refine e_Ok.ps1 (x := (1, 275)) (q := 65) 1 rfl ?_
                  refine e_Ok.callV rfl (Nat.le_trans (by decide) hdq) rfl rfl rfl rfl (c_327 (Nat.le_trans (by decide) hdq) q224c.1 q224c.2.1 q224c.2.2.1 hNr (t := w222 275 87) rfl (by omega)) (fun r306 w307 h308 => ?_)
                  have p310 := tkS.pos q224c.2.2.2.1 (by omega)
                  have p311 := tkS.key q224c.2.2.2.1 (by omega)
                  obtain ⟨rfl, q309, q309s, q309t⟩ := h308
                  have u318 : Hid (w307 275 88 = w222 275 88) := Hid.mk (q309 275 88 (mTq_fld (by decide)))
                  have c320 := cSt.tk q224c q309 q309s
                  have t321 := tkS.lin c320.2.2.2.1
                  have f322 : e_fr (mStm (w 275 78) (w 275 79) (w 275 80) (w 275 94)) w w307 := e_fr.trans f230 (e_fr.mono q309 (fun c k g => mTq_St g))
                  refine e_Ok.nrm (q := 68) (st' := []) rfl rfl ?_
                  refine e_Ok.ps3 (x := (0, 58)) (y := (1, 275)) (z := (1, 275)) (q := 72) 3 rfl ?_
                  refine e_Ok.callV rfl (Nat.le_trans (by decide) hdq) rfl rfl rfl rfl (c_331 c320.1 (N := N) c320.2.2.2.1) (fun r329 w331 h332 => ?_)
                  obtain ⟨z333, rfl, rfl, q334⟩ := h332
                  obtain ⟨rfl, q334, q334b⟩ | ⟨rfl, q334n⟩ := q334
                  · refine e_Ok.nrm (q := 75) (st' := [(0, 1), (1, 275)]) rfl rfl ?_
                    refine e_Ok.callV rfl (Nat.le_trans (by decide) hdq) rfl rfl rfl rfl (c_334 (Nat.le_trans (by decide) hdq) c320.1 c320.2.1 c320.2.2.1 hNr c320.2.2.2.1 (by decide)) (fun r335 w336 h337 => ?_)
                    obtain ⟨rfl, q339⟩ := h337
                    obtain ⟨rfl, q339z⟩ | ⟨q339z, q339b, q339, q339s, q339t⟩ | ⟨q339z, q339b, q339, q339T, q339H, q339r⟩ := q339
                    · rw [u318.out] at q339z; exact absurd q339z (by omega)
                    · refine e_Ok.nrm (q := 78) (st' := []) rfl rfl ?_
                      rw [u318.out] at q339z
                      have p340 := tkS.pos c320.2.2.2.1 (by omega)
                      have c349 := cSt.tk c320 q339 q339s
                      have t350 := tkS.lin c349.2.2.2.1
                      refine e_Ok.run (t' := (82, [(1, (0, w70 275 78)), (0, (1, 275))], [(0, 0), (0, 48), (1, 275)], w336)) 3 rfl ?_
                      refine e_Ok.callV rfl (Nat.le_trans (by decide) hdq) rfl rfl rfl rfl (c_336 c349.1 (n := w222 275 78) (show Hid (w336 275 78 = w222 275 78) from Hid.mk (Eq.trans (q339 275 78 (mTq_fld (by decide))) (show Hid (w307 275 78 = w222 275 78) from Hid.mk (q309 275 78 (mTq_fld (by decide)))).out)).out (by omega) (s := w 275 81) (show Hid (w336 275 81 = w 275 81) from Hid.mk (Eq.trans (q339 275 81 (mTq_fld (by decide))) (show Hid (w307 275 81 = w 275 81) from Hid.mk (Eq.trans (q309 275 81 (mTq_fld (by decide))) u226.out)).out)).out (by omega)) (fun r357 w358 h359 => ?_)
                      obtain ⟨rfl, q360⟩ := h359
                      replace q360 := (show Hid (EM w336 w358 (w222 275 78) 48 (0) (w 275 81)) from q360)
                      have u361 : Hid (w358 275 78 = w222 275 78 + 1) := Hid.mk (Eq.trans q360.out.2.2.2.2 (by omega))
                      have c374 := cSt.em c349 q360.out (by decide) (by omega) (by omega)
                      refine e_Ok.nrm (q := 85) (st' := [(0, w222 275 78)]) rfl rfl ?_
                      refine e_Ok.run (t' := (88, [(2, (0, w222 275 78)), (1, (0, w70 275 78)), (0, (1, 275))], [(0, w70 275 78), (1, 275)], w358)) 3 rfl ?_
                      refine e_Ok.callV rfl (Nat.le_trans (by decide) hdq) rfl rfl rfl rfl (c_337 c374.1 (n := w222 275 78 + 1) u361.out (by omega) (by omega)) (fun r382 w383 h384 => ?_)
                      obtain ⟨rfl, q385⟩ := h384
                      have u387 : Hid (w383 275 78 = w222 275 78 + 1) := Hid.upn q385 (Or.inl (by decide)) u361
                      have u388 : Hid (w383 275 79 = w222 275 79) := Hid.upn q385 (Or.inl (by decide)) (show Hid (w358 275 79 = w222 275 79) from Hid.mk (Eq.trans (q360.out.fld (by decide)) (show Hid (w336 275 79 = w222 275 79) from Hid.mk (Eq.trans (q339 275 79 (mTq_fld (by decide))) (show Hid (w307 275 79 = w222 275 79) from Hid.mk (q309 275 79 (mTq_fld (by decide)))).out)).out))
                      have u389 : Hid (w383 275 80 = w222 275 80) := Hid.upn q385 (Or.inl (by decide)) (show Hid (w358 275 80 = w222 275 80) from Hid.mk (Eq.trans (q360.out.fld (by decide)) (show Hid (w336 275 80 = w222 275 80) from Hid.mk (Eq.trans (q339 275 80 (mTq_fld (by decide))) (show Hid (w307 275 80 = w222 275 80) from Hid.mk (q309 275 80 (mTq_fld (by decide)))).out)).out))
                      have u392 : Hid (w383 275 83 = w222 275 83) := Hid.upn q385 (Or.inl (by decide)) (show Hid (w358 275 83 = w222 275 83) from Hid.mk (Eq.trans (q360.out.fld (by decide)) (show Hid (w336 275 83 = w222 275 83) from Hid.mk (Eq.trans (q339 275 83 (mTq_fld (by decide))) (show Hid (w307 275 83 = w222 275 83) from Hid.mk (q309 275 83 (mTq_fld (by decide)))).out)).out))
                      have u395 : Hid (w383 275 86 = w336 275 86) := Hid.upn q385 (Or.inl (by decide)) (show Hid (w358 275 86 = w336 275 86) from Hid.mk (q360.out.fld (by decide)))
                      have u398 : Hid (w383 275 94 = w222 275 94) := Hid.upn q385 (Or.inl (by decide)) (show Hid (w358 275 94 = w222 275 94) from Hid.mk (Eq.trans (q360.out.fld (by decide)) (show Hid (w336 275 94 = w222 275 94) from Hid.mk (Eq.trans (q339 275 94 (mTq_fld (by decide))) (show Hid (w307 275 94 = w222 275 94) from Hid.mk (q309 275 94 (mTq_fld (by decide)))).out)).out))
                      have g400 : Hid (w222 275 88 = 0 → GB w383 N (w222 275 78 + 1) (w222 275 94) (w222 275 79) (w222 275 80) (fun p => P p ∨ p = w222 275 78) (w 275 81) OW O) := Hid.mk (fun z => GB.patch (GB.cg (P' := fun p => (fun p => P p ∨ p = w222 275 78) p ∨ p = w70 275 78) (GZ.gb ((show Hid (w222 275 88 = 0 → GZ w358 N (w222 275 78 + 1) (w222 275 94) (w222 275 79) (w222 275 80) (fun p => (fun p => P p ∨ p = w70 275 78) p ∨ p = w222 275 78) (w 275 81) OW O) from Hid.mk (fun z => (GI.jf ((show Hid (w222 275 88 = 0 → GB w336 N (w222 275 78) (w222 275 94) (w222 275 79) (w222 275 80) (fun p => P p ∨ p = w70 275 78) (w 275 81) OW O) from Hid.mk (fun z => GB.pr ((show Hid (w222 275 88 = 0 → GB w307 N (w222 275 78) (w222 275 94) (w222 275 79) (w222 275 80) (fun p => P p ∨ p = w70 275 78) (w 275 81) OW O) from Hid.mk (fun z => GB.pr ((show Hid (w222 275 88 = 0 → GB w222 N (w222 275 78) (w222 275 94) (w222 275 79) (w222 275 80) (fun p => P p ∨ p = w70 275 78) (w 275 81) OW O) from Hid.mk (fun z => by have y := q224w.out z; rw [u226.out] at y; exact y)).out z) (prE.tk q309))).out z) (prE.tk q339))).out (by omega)).1 (((show Hid (w222 275 88 = 0 → GB w336 N (w222 275 78) (w222 275 94) (w222 275 79) (w222 275 80) (fun p => P p ∨ p = w70 275 78) (w 275 81) OW O) from Hid.mk (fun z => GB.pr ((show Hid (w222 275 88 = 0 → GB w307 N (w222 275 78) (w222 275 94) (w222 275 79) (w222 275 80) (fun p => P p ∨ p = w70 275 78) (w 275 81) OW O) from Hid.mk (fun z => GB.pr ((show Hid (w222 275 88 = 0 → GB w222 N (w222 275 78) (w222 275 94) (w222 275 79) (w222 275 80) (fun p => P p ∨ p = w70 275 78) (w 275 81) OW O) from Hid.mk (fun z => by have y := q224w.out z; rw [u226.out] at y; exact y)).out z) (prE.tk q309))).out z) (prE.tk q339))).out (by omega)).2.2 48 (sg_no (by omega))) ((show Hid (w222 275 88 = 0 → GB w336 N (w222 275 78) (w222 275 94) (w222 275 79) (w222 275 80) (fun p => P p ∨ p = w70 275 78) (w 275 81) OW O) from Hid.mk (fun z => GB.pr ((show Hid (w222 275 88 = 0 → GB w307 N (w222 275 78) (w222 275 94) (w222 275 79) (w222 275 80) (fun p => P p ∨ p = w70 275 78) (w 275 81) OW O) from Hid.mk (fun z => GB.pr ((show Hid (w222 275 88 = 0 → GB w222 N (w222 275 78) (w222 275 94) (w222 275 79) (w222 275 80) (fun p => P p ∨ p = w70 275 78) (w 275 81) OW O) from Hid.mk (fun z => by have y := q224w.out z; rw [u226.out] at y; exact y)).out z) (prE.tk q309))).out z) (prE.tk q339))).out (by omega)).2.1 q360.out))).out (by omega))) (fun p => ⟨(fun y => y.elim (fun y => y.elim (fun a => Or.inl (Or.inl a)) Or.inr) (fun c => Or.inl (Or.inr c))), (fun y => y.elim (fun y => y.elim (fun a => Or.inl (Or.inl a)) Or.inr) (fun c => Or.inl (Or.inr c)))⟩)) q385 (by omega) (Or.inl (show Hid (w358 328 (w70 275 78 + 40000) = 47) from Hid.mk (Eq.trans (q360.out.lt (by decide) (by omega)) (show Hid (w336 328 (w70 275 78 + 40000) = 47) from Hid.mk (Eq.trans (q339 328 (w70 275 78 + 40000) (mTq_not (by decide))) (show Hid (w307 328 (w70 275 78 + 40000) = 47) from Hid.mk (Eq.trans (q309 328 (w70 275 78 + 40000) (mTq_not (by decide))) cf234.out)).out)).out)).out) (show Hid (w358 330 (w70 275 78 + 40000) = w 275 81) from Hid.mk (Eq.trans (q360.out.lt (by decide) (by omega)) (show Hid (w336 330 (w70 275 78 + 40000) = w 275 81) from Hid.mk (Eq.trans (q339 330 (w70 275 78 + 40000) (mTq_not (by decide))) (show Hid (w307 330 (w70 275 78 + 40000) = w 275 81) from Hid.mk (Eq.trans (q309 330 (w70 275 78 + 40000) (mTq_not (by decide))) cf235.out)).out)).out)).out)
                      refine e_Ok.nrm (q := 91) (st' := []) rfl rfl ?_
                      refine e_Ok.ps1 (x := (1, 275)) (q := 92) 1 rfl ?_
                      refine e_Ok.callV rfl (Nat.le_trans (by decide) hdq) rfl rfl rfl rfl ((hS (by omega) d rfl) w383 N O (fun p => P p ∨ p = w222 275 78) OW (cSt.wr c374 q385 (Or.inl rfl) (by omega) rfl (fun y => absurd y (by decide))) hNr (by rw [(Hid.upn q385 (Or.inl (by decide)) (show Hid (w358 275 88 = w222 275 88) from Hid.mk (Eq.trans (q360.out.fld (by decide)) (show Hid (w336 275 88 = w222 275 88) from Hid.mk (Eq.trans (q339 275 88 (mTq_fld (by decide))) u318.out)).out))).out] <;> omega) (Eq.trans u392.out (show _ = o + 1 from by omega)) (by rw [(Hid.upn q385 (Or.inl (by decide)) (show Hid (w358 275 82 = w 275 82) from Hid.mk (Eq.trans (q360.out.fld (by decide)) (show Hid (w336 275 82 = w 275 82) from Hid.mk (Eq.trans (q339 275 82 (mTq_fld (by decide))) (show Hid (w307 275 82 = w 275 82) from Hid.mk (Eq.trans (q309 275 82 (mTq_fld (by decide))) (show Hid (w222 275 82 = w 275 82) from Hid.mk (Eq.trans (q22410.out) (show Hid (w199 275 82 = w 275 82) from Hid.mk (Eq.trans (q201.out.fld (by decide)) (show Hid (w89 275 82 = w 275 82) from Hid.mk (Eq.trans (q91 275 82 (mTq_fld (by decide))) u76.out)).out)).out)).out)).out)).out))).out] <;> exact hv.out) (by unfold stB; rw [u387.out, u395.out, u398.out, u388.out, u389.out]; omega) (by omega) (by rw [u387.out, u398.out, u388.out, u389.out, (Hid.upn q385 (Or.inl (by decide)) (show Hid (w358 275 81 = w 275 81) from Hid.mk (Eq.trans (q360.out.fld (by decide)) (show Hid (w336 275 81 = w 275 81) from Hid.mk (Eq.trans (q339 275 81 (mTq_fld (by decide))) (show Hid (w307 275 81 = w 275 81) from Hid.mk (Eq.trans (q309 275 81 (mTq_fld (by decide))) u226.out)).out)).out))).out] <;> exact (g400.out (by omega)))) (fun r407 w408 h409 => ?_)
                      obtain ⟨rfl, q410F, q410c, q410l, q410w⟩ := h409
                      unfold stL at q410l
                      obtain ⟨q4101, q4102, q4103, q4104, q4105, q4106, q4107, q4108, q4109, q41010, q41011, q41012⟩ := q410l
                      replace q4109 := (show Hid _ from q4109)
                      replace q41010 := (show Hid _ from q41010)
                      replace q410F := (show Hid _ from q410F)
                      rw [u395.out] at q4101
                      rw [u387.out] at q4102
                      rw [u387.out, u395.out, u392.out, u388.out, u389.out] at q4103
                      rw [u387.out, u395.out] at q4104
                      rw [u398.out] at q4105
                      rw [u398.out, u395.out] at q4106
                      rw [u392.out] at q4107
                      rw [u392.out] at q4108
                      rw [u388.out] at q41011
                      rw [u389.out] at q41012
                      have f411 : Hid (e_fr (mStm (w222 275 78 + 1) (w222 275 79) (w222 275 80) (w222 275 94)) w383 w408) := Hid.mk (by have y := q410F.out; rw [u387.out, u388.out, u389.out, u398.out] at y; exact y)
                      replace q410w := (show Hid _ from q410w)
                      have t414 := tkS.lin q410c.2.2.2.1
                      have t415 := e_Has.get q410c.2.1 (c := 275) (k := 88) (lo := 0) (hi := 7) rfl (by decide)
                      show e_Ok 20 elay ecode eI (d + 1) 350 (95, [(2, (0, w222 275 78)), (1, (0, w70 275 78)), (0, (1, 275))], [], w408) _
                      refine e_Ok.ps2 (x := (0, w222 275 78)) (y := (1, 275)) (q := 97) 2 rfl ?_
                      refine e_Ok.callV rfl (Nat.le_trans (by decide) hdq) rfl rfl rfl rfl (c_337 q410c.1 (n := w408 275 78) rfl (by omega) (by omega)) (fun r425 w426 h427 => ?_)
                      obtain ⟨rfl, q428⟩ := h427
                      have f429 : e_fr (mStm (w 275 78) (w 275 79) (w 275 80) (w 275 94)) w w426 := e_fr.up (show e_fr (mStm (w 275 78) (w 275 79) (w 275 80) (w 275 94)) w w408 from e_fr.trans (show e_fr (mStm (w 275 78) (w 275 79) (w 275 80) (w 275 94)) w w383 from e_fr.up (show e_fr (mStm (w 275 78) (w 275 79) (w 275 80) (w 275 94)) w w358 from e_fr.trans (show e_fr (mStm (w 275 78) (w 275 79) (w 275 80) (w 275 94)) w w336 from e_fr.trans f322 (e_fr.mono q339 (fun c k g => mTq_St g))) (q360.out.st (by omega))) q385 (by unfold mStm; omega)) (e_fr.mono f411.out (fun c k g => mSt_St (by omega) (by omega) (by omega) (by omega) g))) q428 (by unfold mStm; omega)
                      have u430 : Hid (w426 275 78 = w408 275 78) := Hid.mk (e_un q428 (Or.inl (by decide)))
                      have u431 : Hid (w426 275 79 = w408 275 79) := Hid.mk (e_un q428 (Or.inl (by decide)))
                      have u432 : Hid (w426 275 80 = w408 275 80) := Hid.mk (e_un q428 (Or.inl (by decide)))
                      have u433 : Hid (w426 275 81 = w 275 81) := Hid.upn q428 (Or.inl (by decide)) (show Hid (w408 275 81 = w 275 81) from Hid.mk (Eq.trans (q4109.out) (Hid.upn q385 (Or.inl (by decide)) (show Hid (w358 275 81 = w 275 81) from Hid.mk (Eq.trans (q360.out.fld (by decide)) (show Hid (w336 275 81 = w 275 81) from Hid.mk (Eq.trans (q339 275 81 (mTq_fld (by decide))) (show Hid (w307 275 81 = w 275 81) from Hid.mk (Eq.trans (q309 275 81 (mTq_fld (by decide))) u226.out)).out)).out))).out))
                      have u434 : Hid (w426 275 82 = w 275 82) := Hid.upn q428 (Or.inl (by decide)) (show Hid (w408 275 82 = w 275 82) from Hid.mk (Eq.trans (q41010.out) (Hid.upn q385 (Or.inl (by decide)) (show Hid (w358 275 82 = w 275 82) from Hid.mk (Eq.trans (q360.out.fld (by decide)) (show Hid (w336 275 82 = w 275 82) from Hid.mk (Eq.trans (q339 275 82 (mTq_fld (by decide))) (show Hid (w307 275 82 = w 275 82) from Hid.mk (Eq.trans (q309 275 82 (mTq_fld (by decide))) (show Hid (w222 275 82 = w 275 82) from Hid.mk (Eq.trans (q22410.out) (show Hid (w199 275 82 = w 275 82) from Hid.mk (Eq.trans (q201.out.fld (by decide)) (show Hid (w89 275 82 = w 275 82) from Hid.mk (Eq.trans (q91 275 82 (mTq_fld (by decide))) u76.out)).out)).out)).out)).out)).out))).out))
                      have u435 : Hid (w426 275 83 = w408 275 83) := Hid.mk (e_un q428 (Or.inl (by decide)))
                      have u438 : Hid (w426 275 86 = w408 275 86) := Hid.mk (e_un q428 (Or.inl (by decide)))
                      have u440 : Hid (w426 275 88 = w408 275 88) := Hid.mk (e_un q428 (Or.inl (by decide)))
                      have u441 : Hid (w426 275 94 = w408 275 94) := Hid.mk (e_un q428 (Or.inl (by decide)))
                      have c442 := cSt.wr q410c q428 (Or.inl rfl) (by omega) rfl (fun y => absurd y (by decide))
                      refine e_Ok.nrm (q := 100) (st' := []) rfl rfl ?_
                      refine e_Ok.ps3 (x := (0, 2)) (y := (1, 275)) (z := (1, 275)) (q := 111) 4 rfl ?_
                      refine e_Ok.callV rfl (Nat.le_trans (by decide) hdq) rfl rfl rfl rfl (c_332 c442.1 (N := N) c442.2.2.2.1) (fun r450 w451 h452 => ?_)
                      obtain ⟨z453, rfl, rfl, q454⟩ := h452
                      obtain ⟨rfl, q454, q454b⟩ | ⟨rfl, q454n⟩ := q454
                      · refine e_Ok.nrm (q := 114) (st' := [(0, 1), (1, 275)]) rfl rfl ?_
                        rw [(show Hid (w426 275 84 = w408 275 84) from Hid.mk (e_un q428 (Or.inl (by decide)))).out] at q454
                        rw [(show Hid (w426 275 85 = w408 275 85) from Hid.mk (e_un q428 (Or.inl (by decide)))).out] at q454b
                        refine e_Ok.callV rfl (Nat.le_trans (by decide) hdq) rfl rfl rfl rfl (c_334 (Nat.le_trans (by decide) hdq) c442.1 c442.2.1 c442.2.2.1 hNr c442.2.2.2.1 (by decide)) (fun r455 w456 h457 => ?_)
                        obtain ⟨rfl, q458⟩ := h457
                        obtain ⟨rfl, q458z⟩ | ⟨q458z, q458b, q458, q458s, q458t⟩ | ⟨q458z, q458b, q458, q458T, q458H, q458r⟩ := q458
                        · show e_Ok 20 elay ecode eI (d + 1) 350 (117, [(2, (0, w222 275 78)), (1, (0, w70 275 78)), (0, (1, 275))], [], w426) _
                          rw [u440.out] at q458z
                          clear q4103
                          refine e_Ok.run (t' := (119, [(2, (0, w222 275 78)), (1, (0, w70 275 78)), (0, (1, 275))], [(1, 275), (1, 275)], w426)) 2 rfl ?_
                          refine e_Ok.getf (z := w408 275 83) rfl (el_o rfl) rfl (ef_o rfl) u435.out (by omega) ?_
                          refine e_Ok.ps1 (x := (0, 1)) (q := 123) 1 rfl ?_
                          refine e_Ok.sub' (z := w408 275 83 - 1) rfl rfl (by omega) ?_
                          refine e_Ok.putf rfl (el_o rfl) rfl (ef_o rfl) ?_
                          generalize hw459 : e_up w426 275 83 (w408 275 83 - 1) = w459
                          have e461 := up83 hw459
                          replace e461 := (show Hid _ from e461)
                          refine e_Ok.rets rfl rfl ?_
                          exact ⟨rfl, (show e_fr (mStm (w 275 78) (w 275 79) (w 275 80) (w 275 94)) w w459 from e_fr.up f429 hw459 (by first | exact Or.inr (Or.inr (Or.inr (Or.inr ⟨rfl, Or.inl ⟨(by decide), (by decide)⟩⟩))) | (unfold mStm; omega))), (cSt.up c442 hw459), (by unfold stL; rw [(show Hid (w459 275 78 = w408 275 78) from Hid.mk (Eq.trans (e461.out.1 275 78 (by decide)) u430.out)).out, (show Hid (w459 275 79 = w408 275 79) from Hid.mk (Eq.trans (e461.out.1 275 79 (by decide)) u431.out)).out, (show Hid (w459 275 80 = w408 275 80) from Hid.mk (Eq.trans (e461.out.1 275 80 (by decide)) u432.out)).out, (show Hid (w459 275 81 = w 275 81) from Hid.mk (Eq.trans (e461.out.1 275 81 (by decide)) u433.out)).out, (show Hid (w459 275 82 = w 275 82) from Hid.mk (Eq.trans (e461.out.1 275 82 (by decide)) u434.out)).out, (show Hid (w459 275 83 = w408 275 83 - 1) from Hid.mk (e461.out.2)).out, (show Hid (w459 275 86 = w408 275 86) from Hid.mk (Eq.trans (e461.out.1 275 86 (by decide)) u438.out)).out, (show Hid (w459 275 88 = w408 275 88) from Hid.mk (Eq.trans (e461.out.1 275 88 (by decide)) u440.out)).out, (show Hid (w459 275 94 = w408 275 94) from Hid.mk (Eq.trans (e461.out.1 275 94 (by decide)) u441.out)).out]; omega), (fun z => by rw [(show Hid (w459 275 88 = w408 275 88) from Hid.mk (Eq.trans (e461.out.1 275 88 (by decide)) u440.out)).out] at z; exact absurd z (by omega))⟩
                        · show e_Ok 20 elay ecode eI (d + 1) 350 (117, [(2, (0, w222 275 78)), (1, (0, w70 275 78)), (0, (1, 275))], [], w456) _
                          rw [u440.out] at q458z
                          rw [(show Hid (w426 275 87 = w408 275 87) from Hid.mk (e_un q428 (Or.inl (by decide)))).out] at q458t
                          replace q4103 := q4103 (by omega)
                          have p475 := tkS.pos c442.2.2.2.1 (by rw [(show Hid (w426 275 84 = w408 275 84) from Hid.mk (e_un q428 (Or.inl (by decide)))).out] <;> omega)
                          rw [u438.out, (show Hid (w426 275 87 = w408 275 87) from Hid.mk (e_un q428 (Or.inl (by decide)))).out] at p475
                          have p476 := tkS.key c442.2.2.2.1 (by rw [(show Hid (w426 275 84 = w408 275 84) from Hid.mk (e_un q428 (Or.inl (by decide)))).out] <;> omega)
                          rw [u438.out, (show Hid (w426 275 87 = w408 275 87) from Hid.mk (e_un q428 (Or.inl (by decide)))).out, (show Hid (w426 275 85 = w408 275 85) from Hid.mk (e_un q428 (Or.inl (by decide)))).out] at p476
                          have c485 := cSt.tk c442 q458 q458s
                          have t486 := tkS.lin c485.2.2.2.1
                          refine e_Ok.run (t' := (119, [(2, (0, w222 275 78)), (1, (0, w70 275 78)), (0, (1, 275))], [(1, 275), (1, 275)], w456)) 2 rfl ?_
                          refine e_Ok.getf (z := w408 275 83) rfl (el_o rfl) rfl (ef_o rfl) (show Hid (w456 275 83 = w408 275 83) from Hid.mk (Eq.trans (q458 275 83 (mTq_fld (by decide))) u435.out)).out (by omega) ?_
                          refine e_Ok.ps1 (x := (0, 1)) (q := 123) 1 rfl ?_
                          refine e_Ok.sub' (z := w408 275 83 - 1) rfl rfl (by omega) ?_
                          refine e_Ok.putf rfl (el_o rfl) rfl (ef_o rfl) ?_
                          generalize hw495 : e_up w456 275 83 (w408 275 83 - 1) = w495
                          have e497 := up83 hw495
                          replace e497 := (show Hid _ from e497)
                          refine e_Ok.rets rfl rfl ?_
                          exact ⟨rfl, (show e_fr (mStm (w 275 78) (w 275 79) (w 275 80) (w 275 94)) w w495 from e_fr.up (show e_fr (mStm (w 275 78) (w 275 79) (w 275 80) (w 275 94)) w w456 from e_fr.trans f429 (e_fr.mono q458 (fun c k g => mTq_St g))) hw495 (by first | exact Or.inr (Or.inr (Or.inr (Or.inr ⟨rfl, Or.inl ⟨(by decide), (by decide)⟩⟩))) | (unfold mStm; omega))), (cSt.up c485 hw495), (by unfold stL; rw [(show Hid (w495 275 78 = w408 275 78) from Hid.mk (Eq.trans (e497.out.1 275 78 (by decide)) (show Hid (w456 275 78 = w408 275 78) from Hid.mk (Eq.trans (q458 275 78 (mTq_fld (by decide))) u430.out)).out)).out, (show Hid (w495 275 79 = w408 275 79) from Hid.mk (Eq.trans (e497.out.1 275 79 (by decide)) (show Hid (w456 275 79 = w408 275 79) from Hid.mk (Eq.trans (q458 275 79 (mTq_fld (by decide))) u431.out)).out)).out, (show Hid (w495 275 80 = w408 275 80) from Hid.mk (Eq.trans (e497.out.1 275 80 (by decide)) (show Hid (w456 275 80 = w408 275 80) from Hid.mk (Eq.trans (q458 275 80 (mTq_fld (by decide))) u432.out)).out)).out, (show Hid (w495 275 81 = w 275 81) from Hid.mk (Eq.trans (e497.out.1 275 81 (by decide)) (show Hid (w456 275 81 = w 275 81) from Hid.mk (Eq.trans (q458 275 81 (mTq_fld (by decide))) u433.out)).out)).out, (show Hid (w495 275 82 = w 275 82) from Hid.mk (Eq.trans (e497.out.1 275 82 (by decide)) (show Hid (w456 275 82 = w 275 82) from Hid.mk (Eq.trans (q458 275 82 (mTq_fld (by decide))) u434.out)).out)).out, (show Hid (w495 275 83 = w408 275 83 - 1) from Hid.mk (e497.out.2)).out, (show Hid (w495 275 86 = w456 275 86) from Hid.mk (e497.out.1 275 86 (by decide))).out, (show Hid (w495 275 88 = w408 275 88) from Hid.mk (Eq.trans (e497.out.1 275 88 (by decide)) (show Hid (w456 275 88 = w408 275 88) from Hid.mk (Eq.trans (q458 275 88 (mTq_fld (by decide))) u440.out)).out)).out, (show Hid (w495 275 94 = w408 275 94) from Hid.mk (Eq.trans (e497.out.1 275 94 (by decide)) (show Hid (w456 275 94 = w408 275 94) from Hid.mk (Eq.trans (q458 275 94 (mTq_fld (by decide))) u441.out)).out)).out]; omega), (fun z => by rw [(show Hid (w495 275 88 = w408 275 88) from Hid.mk (Eq.trans (e497.out.1 275 88 (by decide)) (show Hid (w456 275 88 = w408 275 88) from Hid.mk (Eq.trans (q458 275 88 (mTq_fld (by decide))) u440.out)).out)).out] at z; rw [(show Hid (w495 275 78 = w408 275 78) from Hid.mk (Eq.trans (e497.out.1 275 78 (by decide)) (show Hid (w456 275 78 = w408 275 78) from Hid.mk (Eq.trans (q458 275 78 (mTq_fld (by decide))) u430.out)).out)).out, (show Hid (w495 275 94 = w408 275 94) from Hid.mk (Eq.trans (e497.out.1 275 94 (by decide)) (show Hid (w456 275 94 = w408 275 94) from Hid.mk (Eq.trans (q458 275 94 (mTq_fld (by decide))) u441.out)).out)).out, (show Hid (w495 275 79 = w408 275 79) from Hid.mk (Eq.trans (e497.out.1 275 79 (by decide)) (show Hid (w456 275 79 = w408 275 79) from Hid.mk (Eq.trans (q458 275 79 (mTq_fld (by decide))) u431.out)).out)).out, (show Hid (w495 275 80 = w408 275 80) from Hid.mk (Eq.trans (e497.out.1 275 80 (by decide)) (show Hid (w456 275 80 = w408 275 80) from Hid.mk (Eq.trans (q458 275 80 (mTq_fld (by decide))) u432.out)).out)).out, (show Hid (w495 275 81 = w 275 81) from Hid.mk (Eq.trans (e497.out.1 275 81 (by decide)) (show Hid (w456 275 81 = w 275 81) from Hid.mk (Eq.trans (q458 275 81 (mTq_fld (by decide))) u433.out)).out)).out]; exact ((show Hid (w408 275 88 = 0 → GB w495 N (w408 275 78) (w408 275 94) (w408 275 79) (w408 275 80) P (w 275 81) OW O) from Hid.mk (fun z => GB.pr ((show Hid (w408 275 88 = 0 → GB w456 N (w408 275 78) (w408 275 94) (w408 275 79) (w408 275 80) P (w 275 81) OW O) from Hid.mk (fun z => GB.pr ((show Hid (w408 275 88 = 0 → GB w426 N (w408 275 78) (w408 275 94) (w408 275 79) (w408 275 80) P (w 275 81) OW O) from Hid.mk (fun z => GB.patch ((show Hid (w408 275 88 = 0 → GB w408 N (w408 275 78) (w408 275 94) (w408 275 79) (w408 275 80) (fun p => P p ∨ p = w222 275 78) (w 275 81) OW O) from Hid.mk (fun z => by have y := q410w.out z; rw [(show Hid (w408 275 81 = w 275 81) from Hid.mk (Eq.trans (q4109.out) (Hid.upn q385 (Or.inl (by decide)) (show Hid (w358 275 81 = w 275 81) from Hid.mk (Eq.trans (q360.out.fld (by decide)) (show Hid (w336 275 81 = w 275 81) from Hid.mk (Eq.trans (q339 275 81 (mTq_fld (by decide))) (show Hid (w307 275 81 = w 275 81) from Hid.mk (Eq.trans (q309 275 81 (mTq_fld (by decide))) u226.out)).out)).out))).out)).out] at y; exact y)).out (by omega)) q428 (by omega) (Or.inr (show Hid (w408 328 (w222 275 78 + 40000) = 48) from Hid.mk (Eq.trans (f411.out 328 (w222 275 78 + 40000) (by unfold mStm; omega)) (Hid.upn q385 (Or.inl (by decide)) (show Hid (w358 328 (w222 275 78 + 40000) = 48) from Hid.mk (q360.out.2.1))).out)).out) (show Hid (w408 330 (w222 275 78 + 40000) = w 275 81) from Hid.mk (Eq.trans (f411.out 330 (w222 275 78 + 40000) (by unfold mStm; omega)) (Hid.upn q385 (Or.inl (by decide)) (show Hid (w358 330 (w222 275 78 + 40000) = w 275 81) from Hid.mk (q360.out.2.2.2.1))).out)).out)).out z) (prE.tk q458))).out z) (prE.up hw495))).out (by omega)))⟩
                        · exact absurd q458b (by decide)
                      · refine e_Ok.nrm (q := 114) (st' := [(0, 0), (1, 275)]) rfl rfl ?_
                        clear q454n
                        refine e_Ok.callV rfl (Nat.le_trans (by decide) hdq) rfl rfl rfl rfl (c_334 (Nat.le_trans (by decide) hdq) c442.1 c442.2.1 c442.2.2.1 hNr c442.2.2.2.1 (by decide)) (fun r518 w519 h520 => ?_)
                        obtain ⟨rfl, q521⟩ := h520
                        obtain ⟨rfl, q521z⟩ | ⟨q521z, q521b, q521, q521s, q521t⟩ | ⟨q521z, q521b, q521, q521T, q521H, q521r⟩ := q521
                        · refine e_Ok.nrm (q := 117) (st' := []) rfl rfl ?_
                          rw [u440.out] at q521z
                          clear q4103
                          refine e_Ok.run (t' := (119, [(2, (0, w222 275 78)), (1, (0, w70 275 78)), (0, (1, 275))], [(1, 275), (1, 275)], w426)) 2 rfl ?_
                          refine e_Ok.getf (z := w408 275 83) rfl (el_o rfl) rfl (ef_o rfl) u435.out (by omega) ?_
                          refine e_Ok.ps1 (x := (0, 1)) (q := 123) 1 rfl ?_
                          refine e_Ok.sub' (z := w408 275 83 - 1) rfl rfl (by omega) ?_
                          refine e_Ok.putf rfl (el_o rfl) rfl (ef_o rfl) ?_
                          generalize hw522 : e_up w426 275 83 (w408 275 83 - 1) = w522
                          have e524 := up83 hw522
                          replace e524 := (show Hid _ from e524)
                          refine e_Ok.rets rfl rfl ?_
                          exact ⟨rfl, (show e_fr (mStm (w 275 78) (w 275 79) (w 275 80) (w 275 94)) w w522 from e_fr.up f429 hw522 (by first | exact Or.inr (Or.inr (Or.inr (Or.inr ⟨rfl, Or.inl ⟨(by decide), (by decide)⟩⟩))) | (unfold mStm; omega))), (cSt.up c442 hw522), (by unfold stL; rw [(show Hid (w522 275 78 = w408 275 78) from Hid.mk (Eq.trans (e524.out.1 275 78 (by decide)) u430.out)).out, (show Hid (w522 275 79 = w408 275 79) from Hid.mk (Eq.trans (e524.out.1 275 79 (by decide)) u431.out)).out, (show Hid (w522 275 80 = w408 275 80) from Hid.mk (Eq.trans (e524.out.1 275 80 (by decide)) u432.out)).out, (show Hid (w522 275 81 = w 275 81) from Hid.mk (Eq.trans (e524.out.1 275 81 (by decide)) u433.out)).out, (show Hid (w522 275 82 = w 275 82) from Hid.mk (Eq.trans (e524.out.1 275 82 (by decide)) u434.out)).out, (show Hid (w522 275 83 = w408 275 83 - 1) from Hid.mk (e524.out.2)).out, (show Hid (w522 275 86 = w408 275 86) from Hid.mk (Eq.trans (e524.out.1 275 86 (by decide)) u438.out)).out, (show Hid (w522 275 88 = w408 275 88) from Hid.mk (Eq.trans (e524.out.1 275 88 (by decide)) u440.out)).out, (show Hid (w522 275 94 = w408 275 94) from Hid.mk (Eq.trans (e524.out.1 275 94 (by decide)) u441.out)).out]; omega), (fun z => by rw [(show Hid (w522 275 88 = w408 275 88) from Hid.mk (Eq.trans (e524.out.1 275 88 (by decide)) u440.out)).out] at z; exact absurd z (by omega))⟩
                        · exact absurd q521b (by decide)
                        · refine e_Ok.nrm (q := 117) (st' := []) rfl rfl ?_
                          rw [u440.out] at q521z
                          replace q4103 := q4103 (by omega)
                          refine e_Ok.run (t' := (119, [(2, (0, w222 275 78)), (1, (0, w70 275 78)), (0, (1, 275))], [(1, 275), (1, 275)], w519)) 2 rfl ?_
                          refine e_Ok.getf (z := w408 275 83) rfl (el_o rfl) rfl (ef_o rfl) (show Hid (w519 275 83 = w408 275 83) from Hid.mk (Eq.trans (q521 275 83 (mRf_fld (by decide))) u435.out)).out (by omega) ?_
                          refine e_Ok.ps1 (x := (0, 1)) (q := 123) 1 rfl ?_
                          refine e_Ok.sub' (z := w408 275 83 - 1) rfl rfl (by omega) ?_
                          refine e_Ok.putf rfl (el_o rfl) rfl (ef_o rfl) ?_
                          generalize hw551 : e_up w519 275 83 (w408 275 83 - 1) = w551
                          have e553 := up83 hw551
                          replace e553 := (show Hid _ from e553)
                          refine e_Ok.rets rfl rfl ?_
                          exact ⟨rfl, (show e_fr (mStm (w 275 78) (w 275 79) (w 275 80) (w 275 94)) w w551 from e_fr.up (show e_fr (mStm (w 275 78) (w 275 79) (w 275 80) (w 275 94)) w w519 from e_fr.trans f429 (e_fr.mono q521 (fun c k g => mRf_St g))) hw551 (by first | exact Or.inr (Or.inr (Or.inr (Or.inr ⟨rfl, Or.inl ⟨(by decide), (by decide)⟩⟩))) | (unfold mStm; omega))), (cSt.up (cSt.rf c442 q521 q521T q521H) hw551), (by unfold stL; rw [(show Hid (w551 275 78 = w408 275 78) from Hid.mk (Eq.trans (e553.out.1 275 78 (by decide)) (show Hid (w519 275 78 = w408 275 78) from Hid.mk (Eq.trans (q521 275 78 (mRf_fld (by decide))) u430.out)).out)).out, (show Hid (w551 275 79 = w408 275 79) from Hid.mk (Eq.trans (e553.out.1 275 79 (by decide)) (show Hid (w519 275 79 = w408 275 79) from Hid.mk (Eq.trans (q521 275 79 (mRf_fld (by decide))) u431.out)).out)).out, (show Hid (w551 275 80 = w408 275 80) from Hid.mk (Eq.trans (e553.out.1 275 80 (by decide)) (show Hid (w519 275 80 = w408 275 80) from Hid.mk (Eq.trans (q521 275 80 (mRf_fld (by decide))) u432.out)).out)).out, (show Hid (w551 275 81 = w 275 81) from Hid.mk (Eq.trans (e553.out.1 275 81 (by decide)) (show Hid (w519 275 81 = w 275 81) from Hid.mk (Eq.trans (q521 275 81 (mRf_fld (by decide))) u433.out)).out)).out, (show Hid (w551 275 82 = w 275 82) from Hid.mk (Eq.trans (e553.out.1 275 82 (by decide)) (show Hid (w519 275 82 = w 275 82) from Hid.mk (Eq.trans (q521 275 82 (mRf_fld (by decide))) u434.out)).out)).out, (show Hid (w551 275 83 = w408 275 83 - 1) from Hid.mk (e553.out.2)).out, (show Hid (w551 275 86 = w408 275 86) from Hid.mk (Eq.trans (e553.out.1 275 86 (by decide)) (show Hid (w519 275 86 = w408 275 86) from Hid.mk (Eq.trans (q521 275 86 (mRf_fld (by decide))) u438.out)).out)).out, (show Hid (w551 275 88 = w519 275 88) from Hid.mk (e553.out.1 275 88 (by decide))).out, (show Hid (w551 275 94 = w408 275 94) from Hid.mk (Eq.trans (e553.out.1 275 94 (by decide)) (show Hid (w519 275 94 = w408 275 94) from Hid.mk (Eq.trans (q521 275 94 (mRf_fld (by decide))) u441.out)).out)).out]; omega), (fun z => by rw [(show Hid (w551 275 88 = w519 275 88) from Hid.mk (e553.out.1 275 88 (by decide))).out] at z; exact absurd z (by omega))⟩
                    · exact absurd q339b (by decide)
                  · refine e_Ok.nrm (q := 75) (st' := [(0, 0), (1, 275)]) rfl rfl ?_
                    clear q334n
                    refine e_Ok.callV rfl (Nat.le_trans (by decide) hdq) rfl rfl rfl rfl (c_334 (Nat.le_trans (by decide) hdq) c320.1 c320.2.1 c320.2.2.1 hNr c320.2.2.2.1 (by decide)) (fun r567 w568 h569 => ?_)
                    obtain ⟨rfl, q570⟩ := h569
                    obtain ⟨rfl, q570z⟩ | ⟨q570z, q570b, q570, q570s, q570t⟩ | ⟨q570z, q570b, q570, q570T, q570H, q570r⟩ := q570
                    · rw [u318.out] at q570z; exact absurd q570z (by omega)
                    · exact absurd q570b (by decide)
                    · refine e_Ok.nrm (q := 78) (st' := []) rfl rfl ?_
                      rw [u318.out] at q570z
                      have c582 := cSt.rf c320 q570 q570T q570H
                      refine e_Ok.run (t' := (82, [(1, (0, w70 275 78)), (0, (1, 275))], [(0, 0), (0, 48), (1, 275)], w568)) 3 rfl ?_
                      refine e_Ok.callV rfl (Nat.le_trans (by decide) hdq) rfl rfl rfl rfl (c_336 c582.1 (n := w222 275 78) (show Hid (w568 275 78 = w222 275 78) from Hid.mk (Eq.trans (q570 275 78 (mRf_fld (by decide))) (show Hid (w307 275 78 = w222 275 78) from Hid.mk (q309 275 78 (mTq_fld (by decide)))).out)).out (by omega) (s := w 275 81) (show Hid (w568 275 81 = w 275 81) from Hid.mk (Eq.trans (q570 275 81 (mRf_fld (by decide))) (show Hid (w307 275 81 = w 275 81) from Hid.mk (Eq.trans (q309 275 81 (mTq_fld (by decide))) u226.out)).out)).out (by omega)) (fun r584 w585 h586 => ?_)
                      obtain ⟨rfl, q587⟩ := h586
                      replace q587 := (show Hid (EM w568 w585 (w222 275 78) 48 (0) (w 275 81)) from q587)
                      have u588 : Hid (w585 275 78 = w222 275 78 + 1) := Hid.mk (Eq.trans q587.out.2.2.2.2 (by omega))
                      have c601 := cSt.em c582 q587.out (by decide) (by omega) (by omega)
                      refine e_Ok.nrm (q := 85) (st' := [(0, w222 275 78)]) rfl rfl ?_
                      refine e_Ok.run (t' := (88, [(2, (0, w222 275 78)), (1, (0, w70 275 78)), (0, (1, 275))], [(0, w70 275 78), (1, 275)], w585)) 3 rfl ?_
                      refine e_Ok.callV rfl (Nat.le_trans (by decide) hdq) rfl rfl rfl rfl (c_337 c601.1 (n := w222 275 78 + 1) u588.out (by omega) (by omega)) (fun r602 w603 h604 => ?_)
                      obtain ⟨rfl, q605⟩ := h604
                      have c619 := cSt.wr c601 q605 (Or.inl rfl) (by omega) rfl (fun y => absurd y (by decide))
                      refine e_Ok.nrm (q := 91) (st' := []) rfl rfl ?_
                      refine e_Ok.ps1 (x := (1, 275)) (q := 92) 1 rfl ?_
                      refine e_Ok.callV rfl (Nat.le_trans (by decide) hdq) rfl rfl rfl rfl (c_348_0 (Nat.le_trans (by decide) hdq) c619 (by rw [(Hid.upn q605 (Or.inl (by decide)) (show Hid (w585 275 88 = w568 275 88) from Hid.mk (q587.out.fld (by decide)))).out] <;> omega)) (fun r620 w621 h622 => ?_)
                      obtain ⟨rfl, rfl⟩ := h622
                      refine e_Ok.nrm (q := 95) (st' := []) rfl rfl ?_
                      refine e_Ok.ps2 (x := (0, w222 275 78)) (y := (1, 275)) (q := 97) 2 rfl ?_
                      refine e_Ok.callV rfl (Nat.le_trans (by decide) hdq) rfl rfl rfl rfl (c_337 c619.1 (n := w222 275 78 + 1) (Hid.upn q605 (Or.inl (by decide)) u588).out (by omega) (by omega)) (fun r623 w624 h625 => ?_)
                      obtain ⟨rfl, q626⟩ := h625
                      have f627 : e_fr (mStm (w 275 78) (w 275 79) (w 275 80) (w 275 94)) w w624 := e_fr.up (show e_fr (mStm (w 275 78) (w 275 79) (w 275 80) (w 275 94)) w w603 from e_fr.up (show e_fr (mStm (w 275 78) (w 275 79) (w 275 80) (w 275 94)) w w585 from e_fr.trans (show e_fr (mStm (w 275 78) (w 275 79) (w 275 80) (w 275 94)) w w568 from e_fr.trans f322 (e_fr.mono q570 (fun c k g => mRf_St g))) (q587.out.st (by omega))) q605 (by unfold mStm; omega)) q626 (by unfold mStm; omega)
                      have u638 : Hid (w624 275 88 = w568 275 88) := Hid.upn q626 (Or.inl (by decide)) (Hid.upn q605 (Or.inl (by decide)) (show Hid (w585 275 88 = w568 275 88) from Hid.mk (q587.out.fld (by decide))))
                      have c640 := cSt.wr c619 q626 (Or.inl rfl) (by omega) rfl (fun y => absurd y (by decide))
                      refine e_Ok.nrm (q := 100) (st' := []) rfl rfl ?_
                      refine e_Ok.ps3 (x := (0, 2)) (y := (1, 275)) (z := (1, 275)) (q := 111) 4 rfl ?_
                      refine e_Ok.callV rfl (Nat.le_trans (by decide) hdq) rfl rfl rfl rfl (c_332 c640.1 (N := N) c640.2.2.2.1) (fun r641 w642 h643 => ?_)
                      obtain ⟨z644, rfl, rfl, q645⟩ := h643
                      obtain ⟨rfl, q645, q645b⟩ | ⟨rfl, q645n⟩ := q645
                      · refine e_Ok.nrm (q := 114) (st' := [(0, 1), (1, 275)]) rfl rfl ?_
                        rw [(Hid.upn q626 (Or.inl (by decide)) (Hid.upn q605 (Or.inl (by decide)) (show Hid (w585 275 84 = w307 275 84) from Hid.mk (Eq.trans (q587.out.fld (by decide)) (show Hid (w568 275 84 = w307 275 84) from Hid.mk (q570 275 84 (mRf_fld (by decide)))).out)))).out] at q645
                        rw [(Hid.upn q626 (Or.inl (by decide)) (Hid.upn q605 (Or.inl (by decide)) (show Hid (w585 275 85 = w307 275 85) from Hid.mk (Eq.trans (q587.out.fld (by decide)) (show Hid (w568 275 85 = w307 275 85) from Hid.mk (q570 275 85 (mRf_fld (by decide)))).out)))).out] at q645b
                        refine e_Ok.callV rfl (Nat.le_trans (by decide) hdq) rfl rfl rfl rfl (c_334 (Nat.le_trans (by decide) hdq) c640.1 c640.2.1 c640.2.2.1 hNr c640.2.2.2.1 (by decide)) (fun r646 w647 h648 => ?_)
                        obtain ⟨rfl, q649⟩ := h648
                        obtain ⟨rfl, q649z⟩ | ⟨q649z, q649b, q649, q649s, q649t⟩ | ⟨q649z, q649b, q649, q649T, q649H, q649r⟩ := q649
                        · show e_Ok 20 elay ecode eI (d + 1) 350 (117, [(2, (0, w222 275 78)), (1, (0, w70 275 78)), (0, (1, 275))], [], w624) _
                          rw [u638.out] at q649z
                          refine e_Ok.run (t' := (119, [(2, (0, w222 275 78)), (1, (0, w70 275 78)), (0, (1, 275))], [(1, 275), (1, 275)], w624)) 2 rfl ?_
                          refine e_Ok.getf (z := w222 275 83) rfl (el_o rfl) rfl (ef_o rfl) (Hid.upn q626 (Or.inl (by decide)) (Hid.upn q605 (Or.inl (by decide)) (show Hid (w585 275 83 = w222 275 83) from Hid.mk (Eq.trans (q587.out.fld (by decide)) (show Hid (w568 275 83 = w222 275 83) from Hid.mk (Eq.trans (q570 275 83 (mRf_fld (by decide))) (show Hid (w307 275 83 = w222 275 83) from Hid.mk (q309 275 83 (mTq_fld (by decide)))).out)).out)))).out (by omega) ?_
                          refine e_Ok.ps1 (x := (0, 1)) (q := 123) 1 rfl ?_
                          refine e_Ok.sub' (z := w222 275 83 - 1) rfl rfl (by omega) ?_
                          refine e_Ok.putf rfl (el_o rfl) rfl (ef_o rfl) ?_
                          generalize hw650 : e_up w624 275 83 (w222 275 83 - 1) = w650
                          have e652 := up83 hw650
                          replace e652 := (show Hid _ from e652)
                          refine e_Ok.rets rfl rfl ?_
                          exact ⟨rfl, (show e_fr (mStm (w 275 78) (w 275 79) (w 275 80) (w 275 94)) w w650 from e_fr.up f627 hw650 (by first | exact Or.inr (Or.inr (Or.inr (Or.inr ⟨rfl, Or.inl ⟨(by decide), (by decide)⟩⟩))) | (unfold mStm; omega))), (cSt.up c640 hw650), (by unfold stL; rw [(show Hid (w650 275 78 = w222 275 78 + 1) from Hid.mk (Eq.trans (e652.out.1 275 78 (by decide)) (Hid.upn q626 (Or.inl (by decide)) (Hid.upn q605 (Or.inl (by decide)) u588)).out)).out, (show Hid (w650 275 79 = w222 275 79) from Hid.mk (Eq.trans (e652.out.1 275 79 (by decide)) (Hid.upn q626 (Or.inl (by decide)) (Hid.upn q605 (Or.inl (by decide)) (show Hid (w585 275 79 = w222 275 79) from Hid.mk (Eq.trans (q587.out.fld (by decide)) (show Hid (w568 275 79 = w222 275 79) from Hid.mk (Eq.trans (q570 275 79 (mRf_fld (by decide))) (show Hid (w307 275 79 = w222 275 79) from Hid.mk (q309 275 79 (mTq_fld (by decide)))).out)).out)))).out)).out, (show Hid (w650 275 80 = w222 275 80) from Hid.mk (Eq.trans (e652.out.1 275 80 (by decide)) (Hid.upn q626 (Or.inl (by decide)) (Hid.upn q605 (Or.inl (by decide)) (show Hid (w585 275 80 = w222 275 80) from Hid.mk (Eq.trans (q587.out.fld (by decide)) (show Hid (w568 275 80 = w222 275 80) from Hid.mk (Eq.trans (q570 275 80 (mRf_fld (by decide))) (show Hid (w307 275 80 = w222 275 80) from Hid.mk (q309 275 80 (mTq_fld (by decide)))).out)).out)))).out)).out, (show Hid (w650 275 81 = w 275 81) from Hid.mk (Eq.trans (e652.out.1 275 81 (by decide)) (Hid.upn q626 (Or.inl (by decide)) (Hid.upn q605 (Or.inl (by decide)) (show Hid (w585 275 81 = w 275 81) from Hid.mk (Eq.trans (q587.out.fld (by decide)) (show Hid (w568 275 81 = w 275 81) from Hid.mk (Eq.trans (q570 275 81 (mRf_fld (by decide))) (show Hid (w307 275 81 = w 275 81) from Hid.mk (Eq.trans (q309 275 81 (mTq_fld (by decide))) u226.out)).out)).out)))).out)).out, (show Hid (w650 275 82 = w 275 82) from Hid.mk (Eq.trans (e652.out.1 275 82 (by decide)) (Hid.upn q626 (Or.inl (by decide)) (Hid.upn q605 (Or.inl (by decide)) (show Hid (w585 275 82 = w 275 82) from Hid.mk (Eq.trans (q587.out.fld (by decide)) (show Hid (w568 275 82 = w 275 82) from Hid.mk (Eq.trans (q570 275 82 (mRf_fld (by decide))) (show Hid (w307 275 82 = w 275 82) from Hid.mk (Eq.trans (q309 275 82 (mTq_fld (by decide))) (show Hid (w222 275 82 = w 275 82) from Hid.mk (Eq.trans (q22410.out) (show Hid (w199 275 82 = w 275 82) from Hid.mk (Eq.trans (q201.out.fld (by decide)) (show Hid (w89 275 82 = w 275 82) from Hid.mk (Eq.trans (q91 275 82 (mTq_fld (by decide))) u76.out)).out)).out)).out)).out)).out)))).out)).out, (show Hid (w650 275 83 = w222 275 83 - 1) from Hid.mk (e652.out.2)).out, (show Hid (w650 275 86 = w307 275 86) from Hid.mk (Eq.trans (e652.out.1 275 86 (by decide)) (Hid.upn q626 (Or.inl (by decide)) (Hid.upn q605 (Or.inl (by decide)) (show Hid (w585 275 86 = w307 275 86) from Hid.mk (Eq.trans (q587.out.fld (by decide)) (show Hid (w568 275 86 = w307 275 86) from Hid.mk (q570 275 86 (mRf_fld (by decide)))).out)))).out)).out, (show Hid (w650 275 88 = w568 275 88) from Hid.mk (Eq.trans (e652.out.1 275 88 (by decide)) u638.out)).out, (show Hid (w650 275 94 = w222 275 94) from Hid.mk (Eq.trans (e652.out.1 275 94 (by decide)) (Hid.upn q626 (Or.inl (by decide)) (Hid.upn q605 (Or.inl (by decide)) (show Hid (w585 275 94 = w222 275 94) from Hid.mk (Eq.trans (q587.out.fld (by decide)) (show Hid (w568 275 94 = w222 275 94) from Hid.mk (Eq.trans (q570 275 94 (mRf_fld (by decide))) (show Hid (w307 275 94 = w222 275 94) from Hid.mk (q309 275 94 (mTq_fld (by decide)))).out)).out)))).out)).out]; omega), (fun z => by rw [(show Hid (w650 275 88 = w568 275 88) from Hid.mk (Eq.trans (e652.out.1 275 88 (by decide)) u638.out)).out] at z; exact absurd z (by omega))⟩
                        · rw [u638.out] at q649z; exact absurd q649z (by omega)
                        · rw [u638.out] at q649z; exact absurd q649z (by omega)
                      · refine e_Ok.nrm (q := 114) (st' := [(0, 0), (1, 275)]) rfl rfl ?_
                        clear q645n
                        refine e_Ok.callV rfl (Nat.le_trans (by decide) hdq) rfl rfl rfl rfl (c_334 (Nat.le_trans (by decide) hdq) c640.1 c640.2.1 c640.2.2.1 hNr c640.2.2.2.1 (by decide)) (fun r666 w667 h668 => ?_)
                        obtain ⟨rfl, q669⟩ := h668
                        obtain ⟨rfl, q669z⟩ | ⟨q669z, q669b, q669, q669s, q669t⟩ | ⟨q669z, q669b, q669, q669T, q669H, q669r⟩ := q669
                        · refine e_Ok.nrm (q := 117) (st' := []) rfl rfl ?_
                          rw [u638.out] at q669z
                          refine e_Ok.run (t' := (119, [(2, (0, w222 275 78)), (1, (0, w70 275 78)), (0, (1, 275))], [(1, 275), (1, 275)], w624)) 2 rfl ?_
                          refine e_Ok.getf (z := w222 275 83) rfl (el_o rfl) rfl (ef_o rfl) (Hid.upn q626 (Or.inl (by decide)) (Hid.upn q605 (Or.inl (by decide)) (show Hid (w585 275 83 = w222 275 83) from Hid.mk (Eq.trans (q587.out.fld (by decide)) (show Hid (w568 275 83 = w222 275 83) from Hid.mk (Eq.trans (q570 275 83 (mRf_fld (by decide))) (show Hid (w307 275 83 = w222 275 83) from Hid.mk (q309 275 83 (mTq_fld (by decide)))).out)).out)))).out (by omega) ?_
                          refine e_Ok.ps1 (x := (0, 1)) (q := 123) 1 rfl ?_
                          refine e_Ok.sub' (z := w222 275 83 - 1) rfl rfl (by omega) ?_
                          refine e_Ok.putf rfl (el_o rfl) rfl (ef_o rfl) ?_
                          generalize hw670 : e_up w624 275 83 (w222 275 83 - 1) = w670
                          have e672 := up83 hw670
                          replace e672 := (show Hid _ from e672)
                          refine e_Ok.rets rfl rfl ?_
                          exact ⟨rfl, (show e_fr (mStm (w 275 78) (w 275 79) (w 275 80) (w 275 94)) w w670 from e_fr.up f627 hw670 (by first | exact Or.inr (Or.inr (Or.inr (Or.inr ⟨rfl, Or.inl ⟨(by decide), (by decide)⟩⟩))) | (unfold mStm; omega))), (cSt.up c640 hw670), (by unfold stL; rw [(show Hid (w670 275 78 = w222 275 78 + 1) from Hid.mk (Eq.trans (e672.out.1 275 78 (by decide)) (Hid.upn q626 (Or.inl (by decide)) (Hid.upn q605 (Or.inl (by decide)) u588)).out)).out, (show Hid (w670 275 79 = w222 275 79) from Hid.mk (Eq.trans (e672.out.1 275 79 (by decide)) (Hid.upn q626 (Or.inl (by decide)) (Hid.upn q605 (Or.inl (by decide)) (show Hid (w585 275 79 = w222 275 79) from Hid.mk (Eq.trans (q587.out.fld (by decide)) (show Hid (w568 275 79 = w222 275 79) from Hid.mk (Eq.trans (q570 275 79 (mRf_fld (by decide))) (show Hid (w307 275 79 = w222 275 79) from Hid.mk (q309 275 79 (mTq_fld (by decide)))).out)).out)))).out)).out, (show Hid (w670 275 80 = w222 275 80) from Hid.mk (Eq.trans (e672.out.1 275 80 (by decide)) (Hid.upn q626 (Or.inl (by decide)) (Hid.upn q605 (Or.inl (by decide)) (show Hid (w585 275 80 = w222 275 80) from Hid.mk (Eq.trans (q587.out.fld (by decide)) (show Hid (w568 275 80 = w222 275 80) from Hid.mk (Eq.trans (q570 275 80 (mRf_fld (by decide))) (show Hid (w307 275 80 = w222 275 80) from Hid.mk (q309 275 80 (mTq_fld (by decide)))).out)).out)))).out)).out, (show Hid (w670 275 81 = w 275 81) from Hid.mk (Eq.trans (e672.out.1 275 81 (by decide)) (Hid.upn q626 (Or.inl (by decide)) (Hid.upn q605 (Or.inl (by decide)) (show Hid (w585 275 81 = w 275 81) from Hid.mk (Eq.trans (q587.out.fld (by decide)) (show Hid (w568 275 81 = w 275 81) from Hid.mk (Eq.trans (q570 275 81 (mRf_fld (by decide))) (show Hid (w307 275 81 = w 275 81) from Hid.mk (Eq.trans (q309 275 81 (mTq_fld (by decide))) u226.out)).out)).out)))).out)).out, (show Hid (w670 275 82 = w 275 82) from Hid.mk (Eq.trans (e672.out.1 275 82 (by decide)) (Hid.upn q626 (Or.inl (by decide)) (Hid.upn q605 (Or.inl (by decide)) (show Hid (w585 275 82 = w 275 82) from Hid.mk (Eq.trans (q587.out.fld (by decide)) (show Hid (w568 275 82 = w 275 82) from Hid.mk (Eq.trans (q570 275 82 (mRf_fld (by decide))) (show Hid (w307 275 82 = w 275 82) from Hid.mk (Eq.trans (q309 275 82 (mTq_fld (by decide))) (show Hid (w222 275 82 = w 275 82) from Hid.mk (Eq.trans (q22410.out) (show Hid (w199 275 82 = w 275 82) from Hid.mk (Eq.trans (q201.out.fld (by decide)) (show Hid (w89 275 82 = w 275 82) from Hid.mk (Eq.trans (q91 275 82 (mTq_fld (by decide))) u76.out)).out)).out)).out)).out)).out)))).out)).out, (show Hid (w670 275 83 = w222 275 83 - 1) from Hid.mk (e672.out.2)).out, (show Hid (w670 275 86 = w307 275 86) from Hid.mk (Eq.trans (e672.out.1 275 86 (by decide)) (Hid.upn q626 (Or.inl (by decide)) (Hid.upn q605 (Or.inl (by decide)) (show Hid (w585 275 86 = w307 275 86) from Hid.mk (Eq.trans (q587.out.fld (by decide)) (show Hid (w568 275 86 = w307 275 86) from Hid.mk (q570 275 86 (mRf_fld (by decide)))).out)))).out)).out, (show Hid (w670 275 88 = w568 275 88) from Hid.mk (Eq.trans (e672.out.1 275 88 (by decide)) u638.out)).out, (show Hid (w670 275 94 = w222 275 94) from Hid.mk (Eq.trans (e672.out.1 275 94 (by decide)) (Hid.upn q626 (Or.inl (by decide)) (Hid.upn q605 (Or.inl (by decide)) (show Hid (w585 275 94 = w222 275 94) from Hid.mk (Eq.trans (q587.out.fld (by decide)) (show Hid (w568 275 94 = w222 275 94) from Hid.mk (Eq.trans (q570 275 94 (mRf_fld (by decide))) (show Hid (w307 275 94 = w222 275 94) from Hid.mk (q309 275 94 (mTq_fld (by decide)))).out)).out)))).out)).out]; omega), (fun z => by rw [(show Hid (w670 275 88 = w568 275 88) from Hid.mk (Eq.trans (e672.out.1 275 88 (by decide)) u638.out)).out] at z; exact absurd z (by omega))⟩
                        · rw [u638.out] at q669z; exact absurd q669z (by omega)
                        · rw [u638.out] at q669z; exact absurd q669z (by omega)
              · refine e_Ok.nrm (q := 61) (st' := [(0, 0)]) rfl rfl ?_
                clear q304n
                refine e_Ok.if1 rfl (fun h686 => ?_) (fun h686 => ?_)
                · replace h686 : (0 : Int) = 0 := h686
                  refine e_Ok.ps2 (x := (0, w70 275 78)) (y := (1, 275)) (q := 105) 2 rfl ?_
                  refine e_Ok.callV rfl (Nat.le_trans (by decide) hdq) rfl rfl rfl rfl (c_337 q224c.1 (n := w222 275 78) rfl (by omega) (by omega)) (fun r687 w688 h689 => ?_)
                  obtain ⟨rfl, q690⟩ := h689
                  have f691 : e_fr (mStm (w 275 78) (w 275 79) (w 275 80) (w 275 94)) w w688 := e_fr.up f230 q690 (by unfold mStm; omega)
                  have u702 : Hid (w688 275 88 = w222 275 88) := Hid.mk (e_un q690 (Or.inl (by decide)))
                  have c704 := cSt.wr q224c q690 (Or.inl rfl) (by omega) rfl (fun y => absurd y (by decide))
                  refine e_Ok.nrm (q := 108) (st' := []) rfl rfl ?_
                  refine e_Ok.ps3 (x := (0, 2)) (y := (1, 275)) (z := (1, 275)) (q := 111) 3 rfl ?_
                  refine e_Ok.callV rfl (Nat.le_trans (by decide) hdq) rfl rfl rfl rfl (c_332 c704.1 (N := N) c704.2.2.2.1) (fun r710 w711 h712 => ?_)
                  obtain ⟨z713, rfl, rfl, q714⟩ := h712
                  obtain ⟨rfl, q714, q714b⟩ | ⟨rfl, q714n⟩ := q714
                  · refine e_Ok.nrm (q := 114) (st' := [(0, 1), (1, 275)]) rfl rfl ?_
                    rw [(show Hid (w688 275 84 = w222 275 84) from Hid.mk (e_un q690 (Or.inl (by decide)))).out] at q714
                    rw [(show Hid (w688 275 85 = w222 275 85) from Hid.mk (e_un q690 (Or.inl (by decide)))).out] at q714b
                    refine e_Ok.callV rfl (Nat.le_trans (by decide) hdq) rfl rfl rfl rfl (c_334 (Nat.le_trans (by decide) hdq) c704.1 c704.2.1 c704.2.2.1 hNr c704.2.2.2.1 (by decide)) (fun r715 w716 h717 => ?_)
                    obtain ⟨rfl, q718⟩ := h717
                    obtain ⟨rfl, q718z⟩ | ⟨q718z, q718b, q718, q718s, q718t⟩ | ⟨q718z, q718b, q718, q718T, q718H, q718r⟩ := q718
                    · rw [u702.out] at q718z; exact absurd q718z (by omega)
                    · show e_Ok 20 elay ecode eI (d + 1) 350 (117, [(1, (0, w70 275 78)), (0, (1, 275))], [], w716) _
                      rw [u702.out] at q718z
                      rw [(show Hid (w688 275 87 = w222 275 87) from Hid.mk (e_un q690 (Or.inl (by decide)))).out] at q718t
                      have p719 := tkS.pos c704.2.2.2.1 (by rw [(show Hid (w688 275 84 = w222 275 84) from Hid.mk (e_un q690 (Or.inl (by decide)))).out] <;> omega)
                      rw [(show Hid (w688 275 86 = w222 275 86) from Hid.mk (e_un q690 (Or.inl (by decide)))).out, (show Hid (w688 275 87 = w222 275 87) from Hid.mk (e_un q690 (Or.inl (by decide)))).out] at p719
                      have p720 := tkS.key c704.2.2.2.1 (by rw [(show Hid (w688 275 84 = w222 275 84) from Hid.mk (e_un q690 (Or.inl (by decide)))).out] <;> omega)
                      rw [(show Hid (w688 275 86 = w222 275 86) from Hid.mk (e_un q690 (Or.inl (by decide)))).out, (show Hid (w688 275 87 = w222 275 87) from Hid.mk (e_un q690 (Or.inl (by decide)))).out, (show Hid (w688 275 85 = w222 275 85) from Hid.mk (e_un q690 (Or.inl (by decide)))).out] at p720
                      have c729 := cSt.tk c704 q718 q718s
                      have t730 := tkS.lin c729.2.2.2.1
                      refine e_Ok.run (t' := (119, [(1, (0, w70 275 78)), (0, (1, 275))], [(1, 275), (1, 275)], w716)) 2 rfl ?_
                      refine e_Ok.getf (z := w222 275 83) rfl (el_o rfl) rfl (ef_o rfl) (show Hid (w716 275 83 = w222 275 83) from Hid.mk (Eq.trans (q718 275 83 (mTq_fld (by decide))) (show Hid (w688 275 83 = w222 275 83) from Hid.mk (e_un q690 (Or.inl (by decide)))).out)).out (by omega) ?_
                      refine e_Ok.ps1 (x := (0, 1)) (q := 123) 1 rfl ?_
                      refine e_Ok.sub' (z := w222 275 83 - 1) rfl rfl (by omega) ?_
                      refine e_Ok.putf rfl (el_o rfl) rfl (ef_o rfl) ?_
                      generalize hw737 : e_up w716 275 83 (w222 275 83 - 1) = w737
                      have e739 := up83 hw737
                      replace e739 := (show Hid _ from e739)
                      refine e_Ok.rets rfl rfl ?_
                      exact ⟨rfl, (show e_fr (mStm (w 275 78) (w 275 79) (w 275 80) (w 275 94)) w w737 from e_fr.up (show e_fr (mStm (w 275 78) (w 275 79) (w 275 80) (w 275 94)) w w716 from e_fr.trans f691 (e_fr.mono q718 (fun c k g => mTq_St g))) hw737 (by first | exact Or.inr (Or.inr (Or.inr (Or.inr ⟨rfl, Or.inl ⟨(by decide), (by decide)⟩⟩))) | (unfold mStm; omega))), (cSt.up c729 hw737), (by unfold stL; rw [(show Hid (w737 275 78 = w222 275 78) from Hid.mk (Eq.trans (e739.out.1 275 78 (by decide)) (show Hid (w716 275 78 = w222 275 78) from Hid.mk (Eq.trans (q718 275 78 (mTq_fld (by decide))) (show Hid (w688 275 78 = w222 275 78) from Hid.mk (e_un q690 (Or.inl (by decide)))).out)).out)).out, (show Hid (w737 275 79 = w222 275 79) from Hid.mk (Eq.trans (e739.out.1 275 79 (by decide)) (show Hid (w716 275 79 = w222 275 79) from Hid.mk (Eq.trans (q718 275 79 (mTq_fld (by decide))) (show Hid (w688 275 79 = w222 275 79) from Hid.mk (e_un q690 (Or.inl (by decide)))).out)).out)).out, (show Hid (w737 275 80 = w222 275 80) from Hid.mk (Eq.trans (e739.out.1 275 80 (by decide)) (show Hid (w716 275 80 = w222 275 80) from Hid.mk (Eq.trans (q718 275 80 (mTq_fld (by decide))) (show Hid (w688 275 80 = w222 275 80) from Hid.mk (e_un q690 (Or.inl (by decide)))).out)).out)).out, (show Hid (w737 275 81 = w 275 81) from Hid.mk (Eq.trans (e739.out.1 275 81 (by decide)) (show Hid (w716 275 81 = w 275 81) from Hid.mk (Eq.trans (q718 275 81 (mTq_fld (by decide))) (Hid.upn q690 (Or.inl (by decide)) u226).out)).out)).out, (show Hid (w737 275 82 = w 275 82) from Hid.mk (Eq.trans (e739.out.1 275 82 (by decide)) (show Hid (w716 275 82 = w 275 82) from Hid.mk (Eq.trans (q718 275 82 (mTq_fld (by decide))) (Hid.upn q690 (Or.inl (by decide)) (show Hid (w222 275 82 = w 275 82) from Hid.mk (Eq.trans (q22410.out) (show Hid (w199 275 82 = w 275 82) from Hid.mk (Eq.trans (q201.out.fld (by decide)) (show Hid (w89 275 82 = w 275 82) from Hid.mk (Eq.trans (q91 275 82 (mTq_fld (by decide))) u76.out)).out)).out))).out)).out)).out, (show Hid (w737 275 83 = w222 275 83 - 1) from Hid.mk (e739.out.2)).out, (show Hid (w737 275 86 = w716 275 86) from Hid.mk (e739.out.1 275 86 (by decide))).out, (show Hid (w737 275 88 = w222 275 88) from Hid.mk (Eq.trans (e739.out.1 275 88 (by decide)) (show Hid (w716 275 88 = w222 275 88) from Hid.mk (Eq.trans (q718 275 88 (mTq_fld (by decide))) u702.out)).out)).out, (show Hid (w737 275 94 = w222 275 94) from Hid.mk (Eq.trans (e739.out.1 275 94 (by decide)) (show Hid (w716 275 94 = w222 275 94) from Hid.mk (Eq.trans (q718 275 94 (mTq_fld (by decide))) (show Hid (w688 275 94 = w222 275 94) from Hid.mk (e_un q690 (Or.inl (by decide)))).out)).out)).out]; omega), (fun z => by rw [(show Hid (w737 275 88 = w222 275 88) from Hid.mk (Eq.trans (e739.out.1 275 88 (by decide)) (show Hid (w716 275 88 = w222 275 88) from Hid.mk (Eq.trans (q718 275 88 (mTq_fld (by decide))) u702.out)).out)).out] at z; rw [(show Hid (w737 275 78 = w222 275 78) from Hid.mk (Eq.trans (e739.out.1 275 78 (by decide)) (show Hid (w716 275 78 = w222 275 78) from Hid.mk (Eq.trans (q718 275 78 (mTq_fld (by decide))) (show Hid (w688 275 78 = w222 275 78) from Hid.mk (e_un q690 (Or.inl (by decide)))).out)).out)).out, (show Hid (w737 275 94 = w222 275 94) from Hid.mk (Eq.trans (e739.out.1 275 94 (by decide)) (show Hid (w716 275 94 = w222 275 94) from Hid.mk (Eq.trans (q718 275 94 (mTq_fld (by decide))) (show Hid (w688 275 94 = w222 275 94) from Hid.mk (e_un q690 (Or.inl (by decide)))).out)).out)).out, (show Hid (w737 275 79 = w222 275 79) from Hid.mk (Eq.trans (e739.out.1 275 79 (by decide)) (show Hid (w716 275 79 = w222 275 79) from Hid.mk (Eq.trans (q718 275 79 (mTq_fld (by decide))) (show Hid (w688 275 79 = w222 275 79) from Hid.mk (e_un q690 (Or.inl (by decide)))).out)).out)).out, (show Hid (w737 275 80 = w222 275 80) from Hid.mk (Eq.trans (e739.out.1 275 80 (by decide)) (show Hid (w716 275 80 = w222 275 80) from Hid.mk (Eq.trans (q718 275 80 (mTq_fld (by decide))) (show Hid (w688 275 80 = w222 275 80) from Hid.mk (e_un q690 (Or.inl (by decide)))).out)).out)).out, (show Hid (w737 275 81 = w 275 81) from Hid.mk (Eq.trans (e739.out.1 275 81 (by decide)) (show Hid (w716 275 81 = w 275 81) from Hid.mk (Eq.trans (q718 275 81 (mTq_fld (by decide))) (Hid.upn q690 (Or.inl (by decide)) u226).out)).out)).out]; exact ((show Hid (w222 275 88 = 0 → GB w737 N (w222 275 78) (w222 275 94) (w222 275 79) (w222 275 80) P (w 275 81) OW O) from Hid.mk (fun z => GB.pr ((show Hid (w222 275 88 = 0 → GB w716 N (w222 275 78) (w222 275 94) (w222 275 79) (w222 275 80) P (w 275 81) OW O) from Hid.mk (fun z => GB.pr ((show Hid (w222 275 88 = 0 → GB w688 N (w222 275 78) (w222 275 94) (w222 275 79) (w222 275 80) P (w 275 81) OW O) from Hid.mk (fun z => GB.patch ((show Hid (w222 275 88 = 0 → GB w222 N (w222 275 78) (w222 275 94) (w222 275 79) (w222 275 80) (fun p => P p ∨ p = w70 275 78) (w 275 81) OW O) from Hid.mk (fun z => by have y := q224w.out z; rw [u226.out] at y; exact y)).out (by omega)) q690 (by omega) (Or.inl cf234.out) cf235.out)).out z) (prE.tk q718))).out z) (prE.up hw737))).out (by omega)))⟩
                    · exact absurd q718b (by decide)
                  · refine e_Ok.nrm (q := 114) (st' := [(0, 0), (1, 275)]) rfl rfl ?_
                    clear q714n
                    refine e_Ok.callV rfl (Nat.le_trans (by decide) hdq) rfl rfl rfl rfl (c_334 (Nat.le_trans (by decide) hdq) c704.1 c704.2.1 c704.2.2.1 hNr c704.2.2.2.1 (by decide)) (fun r758 w759 h760 => ?_)
                    obtain ⟨rfl, q761⟩ := h760
                    obtain ⟨rfl, q761z⟩ | ⟨q761z, q761b, q761, q761s, q761t⟩ | ⟨q761z, q761b, q761, q761T, q761H, q761r⟩ := q761
                    · rw [u702.out] at q761z; exact absurd q761z (by omega)
                    · exact absurd q761b (by decide)
                    · refine e_Ok.nrm (q := 117) (st' := []) rfl rfl ?_
                      rw [u702.out] at q761z
                      refine e_Ok.run (t' := (119, [(1, (0, w70 275 78)), (0, (1, 275))], [(1, 275), (1, 275)], w759)) 2 rfl ?_
                      refine e_Ok.getf (z := w222 275 83) rfl (el_o rfl) rfl (ef_o rfl) (show Hid (w759 275 83 = w222 275 83) from Hid.mk (Eq.trans (q761 275 83 (mRf_fld (by decide))) (show Hid (w688 275 83 = w222 275 83) from Hid.mk (e_un q690 (Or.inl (by decide)))).out)).out (by omega) ?_
                      refine e_Ok.ps1 (x := (0, 1)) (q := 123) 1 rfl ?_
                      refine e_Ok.sub' (z := w222 275 83 - 1) rfl rfl (by omega) ?_
                      refine e_Ok.putf rfl (el_o rfl) rfl (ef_o rfl) ?_
                      generalize hw775 : e_up w759 275 83 (w222 275 83 - 1) = w775
                      have e777 := up83 hw775
                      replace e777 := (show Hid _ from e777)
                      refine e_Ok.rets rfl rfl ?_
                      exact ⟨rfl, (show e_fr (mStm (w 275 78) (w 275 79) (w 275 80) (w 275 94)) w w775 from e_fr.up (show e_fr (mStm (w 275 78) (w 275 79) (w 275 80) (w 275 94)) w w759 from e_fr.trans f691 (e_fr.mono q761 (fun c k g => mRf_St g))) hw775 (by first | exact Or.inr (Or.inr (Or.inr (Or.inr ⟨rfl, Or.inl ⟨(by decide), (by decide)⟩⟩))) | (unfold mStm; omega))), (cSt.up (cSt.rf c704 q761 q761T q761H) hw775), (by unfold stL; rw [(show Hid (w775 275 78 = w222 275 78) from Hid.mk (Eq.trans (e777.out.1 275 78 (by decide)) (show Hid (w759 275 78 = w222 275 78) from Hid.mk (Eq.trans (q761 275 78 (mRf_fld (by decide))) (show Hid (w688 275 78 = w222 275 78) from Hid.mk (e_un q690 (Or.inl (by decide)))).out)).out)).out, (show Hid (w775 275 79 = w222 275 79) from Hid.mk (Eq.trans (e777.out.1 275 79 (by decide)) (show Hid (w759 275 79 = w222 275 79) from Hid.mk (Eq.trans (q761 275 79 (mRf_fld (by decide))) (show Hid (w688 275 79 = w222 275 79) from Hid.mk (e_un q690 (Or.inl (by decide)))).out)).out)).out, (show Hid (w775 275 80 = w222 275 80) from Hid.mk (Eq.trans (e777.out.1 275 80 (by decide)) (show Hid (w759 275 80 = w222 275 80) from Hid.mk (Eq.trans (q761 275 80 (mRf_fld (by decide))) (show Hid (w688 275 80 = w222 275 80) from Hid.mk (e_un q690 (Or.inl (by decide)))).out)).out)).out, (show Hid (w775 275 81 = w 275 81) from Hid.mk (Eq.trans (e777.out.1 275 81 (by decide)) (show Hid (w759 275 81 = w 275 81) from Hid.mk (Eq.trans (q761 275 81 (mRf_fld (by decide))) (Hid.upn q690 (Or.inl (by decide)) u226).out)).out)).out, (show Hid (w775 275 82 = w 275 82) from Hid.mk (Eq.trans (e777.out.1 275 82 (by decide)) (show Hid (w759 275 82 = w 275 82) from Hid.mk (Eq.trans (q761 275 82 (mRf_fld (by decide))) (Hid.upn q690 (Or.inl (by decide)) (show Hid (w222 275 82 = w 275 82) from Hid.mk (Eq.trans (q22410.out) (show Hid (w199 275 82 = w 275 82) from Hid.mk (Eq.trans (q201.out.fld (by decide)) (show Hid (w89 275 82 = w 275 82) from Hid.mk (Eq.trans (q91 275 82 (mTq_fld (by decide))) u76.out)).out)).out))).out)).out)).out, (show Hid (w775 275 83 = w222 275 83 - 1) from Hid.mk (e777.out.2)).out, (show Hid (w775 275 86 = w222 275 86) from Hid.mk (Eq.trans (e777.out.1 275 86 (by decide)) (show Hid (w759 275 86 = w222 275 86) from Hid.mk (Eq.trans (q761 275 86 (mRf_fld (by decide))) (show Hid (w688 275 86 = w222 275 86) from Hid.mk (e_un q690 (Or.inl (by decide)))).out)).out)).out, (show Hid (w775 275 88 = w759 275 88) from Hid.mk (e777.out.1 275 88 (by decide))).out, (show Hid (w775 275 94 = w222 275 94) from Hid.mk (Eq.trans (e777.out.1 275 94 (by decide)) (show Hid (w759 275 94 = w222 275 94) from Hid.mk (Eq.trans (q761 275 94 (mRf_fld (by decide))) (show Hid (w688 275 94 = w222 275 94) from Hid.mk (e_un q690 (Or.inl (by decide)))).out)).out)).out]; omega), (fun z => by rw [(show Hid (w775 275 88 = w759 275 88) from Hid.mk (e777.out.1 275 88 (by decide))).out] at z; exact absurd z (by omega))⟩
                · replace h686 : (0 : Int) ≠ 0 := (show ¬ ((0 : Int) = 0) from h686)
                  exfalso; omega
          · exact absurd q91b (by decide)
        · refine e_Ok.nrm (q := 33) (st' := [(0, 0), (1, 275)]) rfl rfl ?_
          clear q87n
          refine e_Ok.callV rfl (Nat.le_trans (by decide) hdq) rfl rfl rfl rfl (c_334 (Nat.le_trans (by decide) hdq) q72c.1 q72c.2.1 q72c.2.2.1 hNr q72c.2.2.2.1 (by decide)) (fun r791 w792 h793 => ?_)
          obtain ⟨rfl, q794⟩ := h793
          obtain ⟨rfl, q794z⟩ | ⟨q794z, q794b, q794, q794s, q794t⟩ | ⟨q794z, q794b, q794, q794T, q794H, q794r⟩ := q794
          · refine e_Ok.nrm (q := 36) (st' := []) rfl rfl ?_
            clear q723
            clear q729
            refine e_Ok.ps3 (x := (0, 0)) (y := (0, 47)) (z := (1, 275)) (q := 40) 3 rfl ?_
            refine e_Ok.callV rfl (Nat.le_trans (by decide) hdq) rfl rfl rfl rfl (c_336 q72c.1 (n := w70 275 78) rfl (by omega) (s := w 275 81) u75.out (by omega)) (fun r795 w796 h797 => ?_)
            obtain ⟨rfl, q798⟩ := h797
            replace q798 := (show Hid (EM w70 w796 (w70 275 78) 47 (0) (w 275 81)) from q798)
            have u799 : Hid (w796 275 78 = w70 275 78 + 1) := Hid.mk (Eq.trans q798.out.2.2.2.2 (by omega))
            have c812 := cSt.em q72c q798.out (by decide) (by omega) (by omega)
            refine e_Ok.nrm (q := 43) (st' := [(0, w70 275 78)]) rfl rfl ?_
            refine e_Ok.run (t' := (45, [(1, (0, w70 275 78)), (0, (1, 275))], [(1, 275)], w796)) 2 rfl ?_
            refine e_Ok.callV rfl (Nat.le_trans (by decide) hdq) rfl rfl rfl rfl (c_348_0 (Nat.le_trans (by decide) hdq) c812 (by rw [(show Hid (w796 275 88 = w70 275 88) from Hid.mk (q798.out.fld (by decide))).out] <;> omega)) (fun r813 w814 h815 => ?_)
            obtain ⟨rfl, rfl⟩ := h815
            refine e_Ok.nrm (q := 48) (st' := []) rfl rfl ?_
            refine e_Ok.ps1 (x := (1, 275)) (q := 49) 1 rfl ?_
            refine e_Ok.getf (z := w70 275 88) rfl (el_o rfl) rfl (ef_o rfl) (show Hid (w796 275 88 = w70 275 88) from Hid.mk (q798.out.fld (by decide))).out (by omega) ?_
            refine e_Ok.if1 rfl (fun h816 => ?_) (fun h816 => ?_)
            · replace h816 : (w70 275 88 : Int) ≠ 0 := h816
              refine e_Ok.ps2 (x := (0, w70 275 78)) (y := (1, 275)) (q := 105) 2 rfl ?_
              refine e_Ok.callV rfl (Nat.le_trans (by decide) hdq) rfl rfl rfl rfl (c_337 c812.1 (n := w70 275 78 + 1) u799.out (by omega) (by omega)) (fun r817 w818 h819 => ?_)
              obtain ⟨rfl, q820⟩ := h819
              have f821 : e_fr (mStm (w 275 78) (w 275 79) (w 275 80) (w 275 94)) w w818 := e_fr.up (show e_fr (mStm (w 275 78) (w 275 79) (w 275 80) (w 275 94)) w w796 from e_fr.trans f79 (q798.out.st (by omega))) q820 (by unfold mStm; omega)
              have u832 : Hid (w818 275 88 = w70 275 88) := Hid.upn q820 (Or.inl (by decide)) (show Hid (w796 275 88 = w70 275 88) from Hid.mk (q798.out.fld (by decide)))
              have c834 := cSt.wr c812 q820 (Or.inl rfl) (by omega) rfl (fun y => absurd y (by decide))
              refine e_Ok.nrm (q := 108) (st' := []) rfl rfl ?_
              refine e_Ok.ps3 (x := (0, 2)) (y := (1, 275)) (z := (1, 275)) (q := 111) 3 rfl ?_
              refine e_Ok.callV rfl (Nat.le_trans (by decide) hdq) rfl rfl rfl rfl (c_332 c834.1 (N := N) c834.2.2.2.1) (fun r835 w836 h837 => ?_)
              obtain ⟨z838, rfl, rfl, q839⟩ := h837
              obtain ⟨rfl, q839, q839b⟩ | ⟨rfl, q839n⟩ := q839
              · refine e_Ok.nrm (q := 114) (st' := [(0, 1), (1, 275)]) rfl rfl ?_
                rw [(Hid.upn q820 (Or.inl (by decide)) (show Hid (w796 275 84 = w70 275 84) from Hid.mk (q798.out.fld (by decide)))).out] at q839
                rw [(Hid.upn q820 (Or.inl (by decide)) (show Hid (w796 275 85 = w70 275 85) from Hid.mk (q798.out.fld (by decide)))).out] at q839b
                refine e_Ok.callV rfl (Nat.le_trans (by decide) hdq) rfl rfl rfl rfl (c_334 (Nat.le_trans (by decide) hdq) c834.1 c834.2.1 c834.2.2.1 hNr c834.2.2.2.1 (by decide)) (fun r840 w841 h842 => ?_)
                obtain ⟨rfl, q843⟩ := h842
                obtain ⟨rfl, q843z⟩ | ⟨q843z, q843b, q843, q843s, q843t⟩ | ⟨q843z, q843b, q843, q843T, q843H, q843r⟩ := q843
                · show e_Ok 20 elay ecode eI (d + 1) 350 (117, [(1, (0, w70 275 78)), (0, (1, 275))], [], w818) _
                  rw [u832.out] at q843z
                  refine e_Ok.run (t' := (119, [(1, (0, w70 275 78)), (0, (1, 275))], [(1, 275), (1, 275)], w818)) 2 rfl ?_
                  refine e_Ok.getf (z := w70 275 83) rfl (el_o rfl) rfl (ef_o rfl) (Hid.upn q820 (Or.inl (by decide)) (show Hid (w796 275 83 = w70 275 83) from Hid.mk (q798.out.fld (by decide)))).out (by omega) ?_
                  refine e_Ok.ps1 (x := (0, 1)) (q := 123) 1 rfl ?_
                  refine e_Ok.sub' (z := w70 275 83 - 1) rfl rfl (by omega) ?_
                  refine e_Ok.putf rfl (el_o rfl) rfl (ef_o rfl) ?_
                  generalize hw844 : e_up w818 275 83 (w70 275 83 - 1) = w844
                  have e846 := up83 hw844
                  replace e846 := (show Hid _ from e846)
                  refine e_Ok.rets rfl rfl ?_
                  exact ⟨rfl, (show e_fr (mStm (w 275 78) (w 275 79) (w 275 80) (w 275 94)) w w844 from e_fr.up f821 hw844 (by first | exact Or.inr (Or.inr (Or.inr (Or.inr ⟨rfl, Or.inl ⟨(by decide), (by decide)⟩⟩))) | (unfold mStm; omega))), (cSt.up c834 hw844), (by unfold stL; rw [(show Hid (w844 275 78 = w70 275 78 + 1) from Hid.mk (Eq.trans (e846.out.1 275 78 (by decide)) (Hid.upn q820 (Or.inl (by decide)) u799).out)).out, (show Hid (w844 275 79 = w 275 79) from Hid.mk (Eq.trans (e846.out.1 275 79 (by decide)) (Hid.upn q820 (Or.inl (by decide)) (show Hid (w796 275 79 = w 275 79) from Hid.mk (Eq.trans (q798.out.fld (by decide)) u73.out))).out)).out, (show Hid (w844 275 80 = w 275 80) from Hid.mk (Eq.trans (e846.out.1 275 80 (by decide)) (Hid.upn q820 (Or.inl (by decide)) (show Hid (w796 275 80 = w 275 80) from Hid.mk (Eq.trans (q798.out.fld (by decide)) u74.out))).out)).out, (show Hid (w844 275 81 = w 275 81) from Hid.mk (Eq.trans (e846.out.1 275 81 (by decide)) (Hid.upn q820 (Or.inl (by decide)) (show Hid (w796 275 81 = w 275 81) from Hid.mk (Eq.trans (q798.out.fld (by decide)) u75.out))).out)).out, (show Hid (w844 275 82 = w 275 82) from Hid.mk (Eq.trans (e846.out.1 275 82 (by decide)) (Hid.upn q820 (Or.inl (by decide)) (show Hid (w796 275 82 = w 275 82) from Hid.mk (Eq.trans (q798.out.fld (by decide)) u76.out))).out)).out, (show Hid (w844 275 83 = w70 275 83 - 1) from Hid.mk (e846.out.2)).out, (show Hid (w844 275 86 = w70 275 86) from Hid.mk (Eq.trans (e846.out.1 275 86 (by decide)) (Hid.upn q820 (Or.inl (by decide)) (show Hid (w796 275 86 = w70 275 86) from Hid.mk (q798.out.fld (by decide)))).out)).out, (show Hid (w844 275 88 = w70 275 88) from Hid.mk (Eq.trans (e846.out.1 275 88 (by decide)) u832.out)).out, (show Hid (w844 275 94 = w70 275 94) from Hid.mk (Eq.trans (e846.out.1 275 94 (by decide)) (Hid.upn q820 (Or.inl (by decide)) (show Hid (w796 275 94 = w70 275 94) from Hid.mk (q798.out.fld (by decide)))).out)).out]; omega), (fun z => by rw [(show Hid (w844 275 88 = w70 275 88) from Hid.mk (Eq.trans (e846.out.1 275 88 (by decide)) u832.out)).out] at z; exact absurd z (by omega))⟩
                · rw [u832.out] at q843z; exact absurd q843z (by omega)
                · rw [u832.out] at q843z; exact absurd q843z (by omega)
              · refine e_Ok.nrm (q := 114) (st' := [(0, 0), (1, 275)]) rfl rfl ?_
                clear q839n
                refine e_Ok.callV rfl (Nat.le_trans (by decide) hdq) rfl rfl rfl rfl (c_334 (Nat.le_trans (by decide) hdq) c834.1 c834.2.1 c834.2.2.1 hNr c834.2.2.2.1 (by decide)) (fun r860 w861 h862 => ?_)
                obtain ⟨rfl, q863⟩ := h862
                obtain ⟨rfl, q863z⟩ | ⟨q863z, q863b, q863, q863s, q863t⟩ | ⟨q863z, q863b, q863, q863T, q863H, q863r⟩ := q863
                · refine e_Ok.nrm (q := 117) (st' := []) rfl rfl ?_
                  rw [u832.out] at q863z
                  refine e_Ok.run (t' := (119, [(1, (0, w70 275 78)), (0, (1, 275))], [(1, 275), (1, 275)], w818)) 2 rfl ?_
                  refine e_Ok.getf (z := w70 275 83) rfl (el_o rfl) rfl (ef_o rfl) (Hid.upn q820 (Or.inl (by decide)) (show Hid (w796 275 83 = w70 275 83) from Hid.mk (q798.out.fld (by decide)))).out (by omega) ?_
                  refine e_Ok.ps1 (x := (0, 1)) (q := 123) 1 rfl ?_
                  refine e_Ok.sub' (z := w70 275 83 - 1) rfl rfl (by omega) ?_
                  refine e_Ok.putf rfl (el_o rfl) rfl (ef_o rfl) ?_
                  generalize hw864 : e_up w818 275 83 (w70 275 83 - 1) = w864
                  have e866 := up83 hw864
                  replace e866 := (show Hid _ from e866)
                  refine e_Ok.rets rfl rfl ?_
                  exact ⟨rfl, (show e_fr (mStm (w 275 78) (w 275 79) (w 275 80) (w 275 94)) w w864 from e_fr.up f821 hw864 (by first | exact Or.inr (Or.inr (Or.inr (Or.inr ⟨rfl, Or.inl ⟨(by decide), (by decide)⟩⟩))) | (unfold mStm; omega))), (cSt.up c834 hw864), (by unfold stL; rw [(show Hid (w864 275 78 = w70 275 78 + 1) from Hid.mk (Eq.trans (e866.out.1 275 78 (by decide)) (Hid.upn q820 (Or.inl (by decide)) u799).out)).out, (show Hid (w864 275 79 = w 275 79) from Hid.mk (Eq.trans (e866.out.1 275 79 (by decide)) (Hid.upn q820 (Or.inl (by decide)) (show Hid (w796 275 79 = w 275 79) from Hid.mk (Eq.trans (q798.out.fld (by decide)) u73.out))).out)).out, (show Hid (w864 275 80 = w 275 80) from Hid.mk (Eq.trans (e866.out.1 275 80 (by decide)) (Hid.upn q820 (Or.inl (by decide)) (show Hid (w796 275 80 = w 275 80) from Hid.mk (Eq.trans (q798.out.fld (by decide)) u74.out))).out)).out, (show Hid (w864 275 81 = w 275 81) from Hid.mk (Eq.trans (e866.out.1 275 81 (by decide)) (Hid.upn q820 (Or.inl (by decide)) (show Hid (w796 275 81 = w 275 81) from Hid.mk (Eq.trans (q798.out.fld (by decide)) u75.out))).out)).out, (show Hid (w864 275 82 = w 275 82) from Hid.mk (Eq.trans (e866.out.1 275 82 (by decide)) (Hid.upn q820 (Or.inl (by decide)) (show Hid (w796 275 82 = w 275 82) from Hid.mk (Eq.trans (q798.out.fld (by decide)) u76.out))).out)).out, (show Hid (w864 275 83 = w70 275 83 - 1) from Hid.mk (e866.out.2)).out, (show Hid (w864 275 86 = w70 275 86) from Hid.mk (Eq.trans (e866.out.1 275 86 (by decide)) (Hid.upn q820 (Or.inl (by decide)) (show Hid (w796 275 86 = w70 275 86) from Hid.mk (q798.out.fld (by decide)))).out)).out, (show Hid (w864 275 88 = w70 275 88) from Hid.mk (Eq.trans (e866.out.1 275 88 (by decide)) u832.out)).out, (show Hid (w864 275 94 = w70 275 94) from Hid.mk (Eq.trans (e866.out.1 275 94 (by decide)) (Hid.upn q820 (Or.inl (by decide)) (show Hid (w796 275 94 = w70 275 94) from Hid.mk (q798.out.fld (by decide)))).out)).out]; omega), (fun z => by rw [(show Hid (w864 275 88 = w70 275 88) from Hid.mk (Eq.trans (e866.out.1 275 88 (by decide)) u832.out)).out] at z; exact absurd z (by omega))⟩
                · rw [u832.out] at q863z; exact absurd q863z (by omega)
                · rw [u832.out] at q863z; exact absurd q863z (by omega)
            · replace h816 : (w70 275 88 : Int) = 0 := Classical.not_not.mp (show ¬ ((w70 275 88 : Int) ≠ 0) from h816)
              exfalso; omega
          · exact absurd q794b (by decide)
          · refine e_Ok.nrm (q := 36) (st' := []) rfl rfl ?_
            replace q723 := q723 (by omega)
            replace q729 := q729 (by omega)
            have c891 := cSt.rf q72c q794 q794T q794H
            refine e_Ok.ps3 (x := (0, 0)) (y := (0, 47)) (z := (1, 275)) (q := 40) 3 rfl ?_
            refine e_Ok.callV rfl (Nat.le_trans (by decide) hdq) rfl rfl rfl rfl (c_336 c891.1 (n := w70 275 78) (show Hid (w792 275 78 = w70 275 78) from Hid.mk (q794 275 78 (mRf_fld (by decide)))).out (by omega) (s := w 275 81) (show Hid (w792 275 81 = w 275 81) from Hid.mk (Eq.trans (q794 275 81 (mRf_fld (by decide))) u75.out)).out (by omega)) (fun r893 w894 h895 => ?_)
            obtain ⟨rfl, q896⟩ := h895
            replace q896 := (show Hid (EM w792 w894 (w70 275 78) 47 (0) (w 275 81)) from q896)
            have u897 : Hid (w894 275 78 = w70 275 78 + 1) := Hid.mk (Eq.trans q896.out.2.2.2.2 (by omega))
            have c910 := cSt.em c891 q896.out (by decide) (by omega) (by omega)
            refine e_Ok.nrm (q := 43) (st' := [(0, w70 275 78)]) rfl rfl ?_
            refine e_Ok.run (t' := (45, [(1, (0, w70 275 78)), (0, (1, 275))], [(1, 275)], w894)) 2 rfl ?_
            refine e_Ok.callV rfl (Nat.le_trans (by decide) hdq) rfl rfl rfl rfl (c_348_0 (Nat.le_trans (by decide) hdq) c910 (by rw [(show Hid (w894 275 88 = w792 275 88) from Hid.mk (q896.out.fld (by decide))).out] <;> omega)) (fun r911 w912 h913 => ?_)
            obtain ⟨rfl, rfl⟩ := h913
            refine e_Ok.nrm (q := 48) (st' := []) rfl rfl ?_
            refine e_Ok.ps1 (x := (1, 275)) (q := 49) 1 rfl ?_
            refine e_Ok.getf (z := w792 275 88) rfl (el_o rfl) rfl (ef_o rfl) (show Hid (w894 275 88 = w792 275 88) from Hid.mk (q896.out.fld (by decide))).out (by omega) ?_
            refine e_Ok.if1 rfl (fun h914 => ?_) (fun h914 => ?_)
            · replace h914 : (w792 275 88 : Int) ≠ 0 := h914
              refine e_Ok.ps2 (x := (0, w70 275 78)) (y := (1, 275)) (q := 105) 2 rfl ?_
              refine e_Ok.callV rfl (Nat.le_trans (by decide) hdq) rfl rfl rfl rfl (c_337 c910.1 (n := w70 275 78 + 1) u897.out (by omega) (by omega)) (fun r915 w916 h917 => ?_)
              obtain ⟨rfl, q918⟩ := h917
              have f919 : e_fr (mStm (w 275 78) (w 275 79) (w 275 80) (w 275 94)) w w916 := e_fr.up (show e_fr (mStm (w 275 78) (w 275 79) (w 275 80) (w 275 94)) w w894 from e_fr.trans (show e_fr (mStm (w 275 78) (w 275 79) (w 275 80) (w 275 94)) w w792 from e_fr.trans f79 (e_fr.mono q794 (fun c k g => mRf_St g))) (q896.out.st (by omega))) q918 (by unfold mStm; omega)
              have u930 : Hid (w916 275 88 = w792 275 88) := Hid.upn q918 (Or.inl (by decide)) (show Hid (w894 275 88 = w792 275 88) from Hid.mk (q896.out.fld (by decide)))
              have c932 := cSt.wr c910 q918 (Or.inl rfl) (by omega) rfl (fun y => absurd y (by decide))
              refine e_Ok.nrm (q := 108) (st' := []) rfl rfl ?_
              refine e_Ok.ps3 (x := (0, 2)) (y := (1, 275)) (z := (1, 275)) (q := 111) 3 rfl ?_
              refine e_Ok.callV rfl (Nat.le_trans (by decide) hdq) rfl rfl rfl rfl (c_332 c932.1 (N := N) c932.2.2.2.1) (fun r933 w934 h935 => ?_)
              obtain ⟨z936, rfl, rfl, q937⟩ := h935
              obtain ⟨rfl, q937, q937b⟩ | ⟨rfl, q937n⟩ := q937
              · refine e_Ok.nrm (q := 114) (st' := [(0, 1), (1, 275)]) rfl rfl ?_
                rw [(Hid.upn q918 (Or.inl (by decide)) (show Hid (w894 275 84 = w70 275 84) from Hid.mk (Eq.trans (q896.out.fld (by decide)) (show Hid (w792 275 84 = w70 275 84) from Hid.mk (q794 275 84 (mRf_fld (by decide)))).out))).out] at q937
                rw [(Hid.upn q918 (Or.inl (by decide)) (show Hid (w894 275 85 = w70 275 85) from Hid.mk (Eq.trans (q896.out.fld (by decide)) (show Hid (w792 275 85 = w70 275 85) from Hid.mk (q794 275 85 (mRf_fld (by decide)))).out))).out] at q937b
                refine e_Ok.callV rfl (Nat.le_trans (by decide) hdq) rfl rfl rfl rfl (c_334 (Nat.le_trans (by decide) hdq) c932.1 c932.2.1 c932.2.2.1 hNr c932.2.2.2.1 (by decide)) (fun r938 w939 h940 => ?_)
                obtain ⟨rfl, q941⟩ := h940
                obtain ⟨rfl, q941z⟩ | ⟨q941z, q941b, q941, q941s, q941t⟩ | ⟨q941z, q941b, q941, q941T, q941H, q941r⟩ := q941
                · show e_Ok 20 elay ecode eI (d + 1) 350 (117, [(1, (0, w70 275 78)), (0, (1, 275))], [], w916) _
                  rw [u930.out] at q941z
                  refine e_Ok.run (t' := (119, [(1, (0, w70 275 78)), (0, (1, 275))], [(1, 275), (1, 275)], w916)) 2 rfl ?_
                  refine e_Ok.getf (z := w70 275 83) rfl (el_o rfl) rfl (ef_o rfl) (Hid.upn q918 (Or.inl (by decide)) (show Hid (w894 275 83 = w70 275 83) from Hid.mk (Eq.trans (q896.out.fld (by decide)) (show Hid (w792 275 83 = w70 275 83) from Hid.mk (q794 275 83 (mRf_fld (by decide)))).out))).out (by omega) ?_
                  refine e_Ok.ps1 (x := (0, 1)) (q := 123) 1 rfl ?_
                  refine e_Ok.sub' (z := w70 275 83 - 1) rfl rfl (by omega) ?_
                  refine e_Ok.putf rfl (el_o rfl) rfl (ef_o rfl) ?_
                  generalize hw942 : e_up w916 275 83 (w70 275 83 - 1) = w942
                  have e944 := up83 hw942
                  replace e944 := (show Hid _ from e944)
                  refine e_Ok.rets rfl rfl ?_
                  exact ⟨rfl, (show e_fr (mStm (w 275 78) (w 275 79) (w 275 80) (w 275 94)) w w942 from e_fr.up f919 hw942 (by first | exact Or.inr (Or.inr (Or.inr (Or.inr ⟨rfl, Or.inl ⟨(by decide), (by decide)⟩⟩))) | (unfold mStm; omega))), (cSt.up c932 hw942), (by unfold stL; rw [(show Hid (w942 275 78 = w70 275 78 + 1) from Hid.mk (Eq.trans (e944.out.1 275 78 (by decide)) (Hid.upn q918 (Or.inl (by decide)) u897).out)).out, (show Hid (w942 275 79 = w 275 79) from Hid.mk (Eq.trans (e944.out.1 275 79 (by decide)) (Hid.upn q918 (Or.inl (by decide)) (show Hid (w894 275 79 = w 275 79) from Hid.mk (Eq.trans (q896.out.fld (by decide)) (show Hid (w792 275 79 = w 275 79) from Hid.mk (Eq.trans (q794 275 79 (mRf_fld (by decide))) u73.out)).out))).out)).out, (show Hid (w942 275 80 = w 275 80) from Hid.mk (Eq.trans (e944.out.1 275 80 (by decide)) (Hid.upn q918 (Or.inl (by decide)) (show Hid (w894 275 80 = w 275 80) from Hid.mk (Eq.trans (q896.out.fld (by decide)) (show Hid (w792 275 80 = w 275 80) from Hid.mk (Eq.trans (q794 275 80 (mRf_fld (by decide))) u74.out)).out))).out)).out, (show Hid (w942 275 81 = w 275 81) from Hid.mk (Eq.trans (e944.out.1 275 81 (by decide)) (Hid.upn q918 (Or.inl (by decide)) (show Hid (w894 275 81 = w 275 81) from Hid.mk (Eq.trans (q896.out.fld (by decide)) (show Hid (w792 275 81 = w 275 81) from Hid.mk (Eq.trans (q794 275 81 (mRf_fld (by decide))) u75.out)).out))).out)).out, (show Hid (w942 275 82 = w 275 82) from Hid.mk (Eq.trans (e944.out.1 275 82 (by decide)) (Hid.upn q918 (Or.inl (by decide)) (show Hid (w894 275 82 = w 275 82) from Hid.mk (Eq.trans (q896.out.fld (by decide)) (show Hid (w792 275 82 = w 275 82) from Hid.mk (Eq.trans (q794 275 82 (mRf_fld (by decide))) u76.out)).out))).out)).out, (show Hid (w942 275 83 = w70 275 83 - 1) from Hid.mk (e944.out.2)).out, (show Hid (w942 275 86 = w70 275 86) from Hid.mk (Eq.trans (e944.out.1 275 86 (by decide)) (Hid.upn q918 (Or.inl (by decide)) (show Hid (w894 275 86 = w70 275 86) from Hid.mk (Eq.trans (q896.out.fld (by decide)) (show Hid (w792 275 86 = w70 275 86) from Hid.mk (q794 275 86 (mRf_fld (by decide)))).out))).out)).out, (show Hid (w942 275 88 = w792 275 88) from Hid.mk (Eq.trans (e944.out.1 275 88 (by decide)) u930.out)).out, (show Hid (w942 275 94 = w70 275 94) from Hid.mk (Eq.trans (e944.out.1 275 94 (by decide)) (Hid.upn q918 (Or.inl (by decide)) (show Hid (w894 275 94 = w70 275 94) from Hid.mk (Eq.trans (q896.out.fld (by decide)) (show Hid (w792 275 94 = w70 275 94) from Hid.mk (q794 275 94 (mRf_fld (by decide)))).out))).out)).out]; omega), (fun z => by rw [(show Hid (w942 275 88 = w792 275 88) from Hid.mk (Eq.trans (e944.out.1 275 88 (by decide)) u930.out)).out] at z; exact absurd z (by omega))⟩
                · rw [u930.out] at q941z; exact absurd q941z (by omega)
                · rw [u930.out] at q941z; exact absurd q941z (by omega)
              · refine e_Ok.nrm (q := 114) (st' := [(0, 0), (1, 275)]) rfl rfl ?_
                clear q937n
                refine e_Ok.callV rfl (Nat.le_trans (by decide) hdq) rfl rfl rfl rfl (c_334 (Nat.le_trans (by decide) hdq) c932.1 c932.2.1 c932.2.2.1 hNr c932.2.2.2.1 (by decide)) (fun r958 w959 h960 => ?_)
                obtain ⟨rfl, q961⟩ := h960
                obtain ⟨rfl, q961z⟩ | ⟨q961z, q961b, q961, q961s, q961t⟩ | ⟨q961z, q961b, q961, q961T, q961H, q961r⟩ := q961
                · refine e_Ok.nrm (q := 117) (st' := []) rfl rfl ?_
                  rw [u930.out] at q961z
                  refine e_Ok.run (t' := (119, [(1, (0, w70 275 78)), (0, (1, 275))], [(1, 275), (1, 275)], w916)) 2 rfl ?_
                  refine e_Ok.getf (z := w70 275 83) rfl (el_o rfl) rfl (ef_o rfl) (Hid.upn q918 (Or.inl (by decide)) (show Hid (w894 275 83 = w70 275 83) from Hid.mk (Eq.trans (q896.out.fld (by decide)) (show Hid (w792 275 83 = w70 275 83) from Hid.mk (q794 275 83 (mRf_fld (by decide)))).out))).out (by omega) ?_
                  refine e_Ok.ps1 (x := (0, 1)) (q := 123) 1 rfl ?_
                  refine e_Ok.sub' (z := w70 275 83 - 1) rfl rfl (by omega) ?_
                  refine e_Ok.putf rfl (el_o rfl) rfl (ef_o rfl) ?_
                  generalize hw962 : e_up w916 275 83 (w70 275 83 - 1) = w962
                  have e964 := up83 hw962
                  replace e964 := (show Hid _ from e964)
                  refine e_Ok.rets rfl rfl ?_
                  exact ⟨rfl, (show e_fr (mStm (w 275 78) (w 275 79) (w 275 80) (w 275 94)) w w962 from e_fr.up f919 hw962 (by first | exact Or.inr (Or.inr (Or.inr (Or.inr ⟨rfl, Or.inl ⟨(by decide), (by decide)⟩⟩))) | (unfold mStm; omega))), (cSt.up c932 hw962), (by unfold stL; rw [(show Hid (w962 275 78 = w70 275 78 + 1) from Hid.mk (Eq.trans (e964.out.1 275 78 (by decide)) (Hid.upn q918 (Or.inl (by decide)) u897).out)).out, (show Hid (w962 275 79 = w 275 79) from Hid.mk (Eq.trans (e964.out.1 275 79 (by decide)) (Hid.upn q918 (Or.inl (by decide)) (show Hid (w894 275 79 = w 275 79) from Hid.mk (Eq.trans (q896.out.fld (by decide)) (show Hid (w792 275 79 = w 275 79) from Hid.mk (Eq.trans (q794 275 79 (mRf_fld (by decide))) u73.out)).out))).out)).out, (show Hid (w962 275 80 = w 275 80) from Hid.mk (Eq.trans (e964.out.1 275 80 (by decide)) (Hid.upn q918 (Or.inl (by decide)) (show Hid (w894 275 80 = w 275 80) from Hid.mk (Eq.trans (q896.out.fld (by decide)) (show Hid (w792 275 80 = w 275 80) from Hid.mk (Eq.trans (q794 275 80 (mRf_fld (by decide))) u74.out)).out))).out)).out, (show Hid (w962 275 81 = w 275 81) from Hid.mk (Eq.trans (e964.out.1 275 81 (by decide)) (Hid.upn q918 (Or.inl (by decide)) (show Hid (w894 275 81 = w 275 81) from Hid.mk (Eq.trans (q896.out.fld (by decide)) (show Hid (w792 275 81 = w 275 81) from Hid.mk (Eq.trans (q794 275 81 (mRf_fld (by decide))) u75.out)).out))).out)).out, (show Hid (w962 275 82 = w 275 82) from Hid.mk (Eq.trans (e964.out.1 275 82 (by decide)) (Hid.upn q918 (Or.inl (by decide)) (show Hid (w894 275 82 = w 275 82) from Hid.mk (Eq.trans (q896.out.fld (by decide)) (show Hid (w792 275 82 = w 275 82) from Hid.mk (Eq.trans (q794 275 82 (mRf_fld (by decide))) u76.out)).out))).out)).out, (show Hid (w962 275 83 = w70 275 83 - 1) from Hid.mk (e964.out.2)).out, (show Hid (w962 275 86 = w70 275 86) from Hid.mk (Eq.trans (e964.out.1 275 86 (by decide)) (Hid.upn q918 (Or.inl (by decide)) (show Hid (w894 275 86 = w70 275 86) from Hid.mk (Eq.trans (q896.out.fld (by decide)) (show Hid (w792 275 86 = w70 275 86) from Hid.mk (q794 275 86 (mRf_fld (by decide)))).out))).out)).out, (show Hid (w962 275 88 = w792 275 88) from Hid.mk (Eq.trans (e964.out.1 275 88 (by decide)) u930.out)).out, (show Hid (w962 275 94 = w70 275 94) from Hid.mk (Eq.trans (e964.out.1 275 94 (by decide)) (Hid.upn q918 (Or.inl (by decide)) (show Hid (w894 275 94 = w70 275 94) from Hid.mk (Eq.trans (q896.out.fld (by decide)) (show Hid (w792 275 94 = w70 275 94) from Hid.mk (q794 275 94 (mRf_fld (by decide)))).out))).out)).out]; omega), (fun z => by rw [(show Hid (w962 275 88 = w792 275 88) from Hid.mk (Eq.trans (e964.out.1 275 88 (by decide)) u930.out)).out] at z; exact absurd z (by omega))⟩
                · rw [u930.out] at q961z; exact absurd q961z (by omega)
                · rw [u930.out] at q961z; exact absurd q961z (by omega)
            · replace h914 : (w792 275 88 : Int) = 0 := Classical.not_not.mp (show ¬ ((w792 275 88 : Int) ≠ 0) from h914)
              exfalso; omega
      · exact absurd q52b (by decide)
    · refine e_Ok.nrm (q := 19) (st' := [(0, 0), (1, 275)]) rfl rfl ?_
      clear q48n
      refine e_Ok.callV rfl (Nat.le_trans (by decide) hdq) rfl rfl rfl rfl (c_334 (Nat.le_trans (by decide) hdq) c40.1 c40.2.1 c40.2.2.1 hNr c40.2.2.2.1 (by decide)) (fun r978 w979 h980 => ?_)
      obtain ⟨rfl, q981⟩ := h980
      obtain ⟨rfl, q981z⟩ | ⟨q981z, q981b, q981, q981s, q981t⟩ | ⟨q981z, q981b, q981, q981T, q981H, q981r⟩ := q981
      · rw [u36.out] at q981z; exact absurd q981z (by omega)
      · exact absurd q981b (by decide)
      · refine e_Ok.nrm (q := 22) (st' := []) rfl rfl ?_
        rw [u36.out] at q981z
        have u985 : Hid (w979 275 81 = w 275 81) := Hid.mk (Eq.trans (q981 275 81 (mRf_fld (by decide))) (show Hid (w23 275 81 = w 275 81) from Hid.mk (Eq.trans (q25.out.fld (by decide)) (show Hid (w2 275 81 = w 275 81) from Hid.mk (e6.out.1 275 81 (by decide))).out)).out)
        have c993 := cSt.rf c40 q981 q981T q981H
        have f994 : e_fr (mStm (w 275 78) (w 275 79) (w 275 80) (w 275 94)) w w979 := e_fr.trans f38 (e_fr.mono q981 (fun c k g => mRf_St g))
        refine e_Ok.run (t' := (23, [(0, (1, 275))], [(1, 275)], w979)) 1 rfl ?_
        refine e_Ok.callV rfl (Nat.le_trans (by decide) hdq) rfl rfl rfl rfl (c_339_0 (Nat.le_trans (by decide) hdq) c993 (by omega)) (fun r995 w996 h997 => ?_)
        obtain ⟨rfl, rfl⟩ := h997
        refine e_Ok.nrm (q := 26) (st' := []) rfl rfl ?_
        refine e_Ok.ps3 (x := (0, 58)) (y := (1, 275)) (z := (1, 275)) (q := 30) 3 rfl ?_
        refine e_Ok.callV rfl (Nat.le_trans (by decide) hdq) rfl rfl rfl rfl (c_331 c993.1 (N := N) c993.2.2.2.1) (fun r998 w999 h1000 => ?_)
        obtain ⟨z1001, rfl, rfl, q1002⟩ := h1000
        obtain ⟨rfl, q1002, q1002b⟩ | ⟨rfl, q1002n⟩ := q1002
        · refine e_Ok.nrm (q := 33) (st' := [(0, 1), (1, 275)]) rfl rfl ?_
          rw [(show Hid (w979 275 84 = w 275 84) from Hid.mk (Eq.trans (q981 275 84 (mRf_fld (by decide))) u32.out)).out] at q1002
          rw [(show Hid (w979 275 85 = w 275 85) from Hid.mk (Eq.trans (q981 275 85 (mRf_fld (by decide))) (show Hid (w23 275 85 = w 275 85) from Hid.mk (Eq.trans (q25.out.fld (by decide)) (show Hid (w2 275 85 = w 275 85) from Hid.mk (e6.out.1 275 85 (by decide))).out)).out)).out] at q1002b
          refine e_Ok.callV rfl (Nat.le_trans (by decide) hdq) rfl rfl rfl rfl (c_334 (Nat.le_trans (by decide) hdq) c993.1 c993.2.1 c993.2.2.1 hNr c993.2.2.2.1 (by decide)) (fun r1003 w1004 h1005 => ?_)
          obtain ⟨rfl, q1006⟩ := h1005
          obtain ⟨rfl, q1006z⟩ | ⟨q1006z, q1006b, q1006, q1006s, q1006t⟩ | ⟨q1006z, q1006b, q1006, q1006T, q1006H, q1006r⟩ := q1006
          · show e_Ok 20 elay ecode eI (d + 1) 350 (36, [(0, (1, 275))], [], w979) _
            refine e_Ok.ps3 (x := (0, 0)) (y := (0, 47)) (z := (1, 275)) (q := 40) 3 rfl ?_
            refine e_Ok.callV rfl (Nat.le_trans (by decide) hdq) rfl rfl rfl rfl (c_336 c993.1 (n := w 275 78 + 1) (show Hid (w979 275 78 = w 275 78 + 1) from Hid.mk (Eq.trans (q981 275 78 (mRf_fld (by decide))) u26.out)).out (by omega) (s := w 275 81) u985.out (by omega)) (fun r1007 w1008 h1009 => ?_)
            obtain ⟨rfl, q1010⟩ := h1009
            replace q1010 := (show Hid (EM w979 w1008 (w 275 78 + 1) 47 (0) (w 275 81)) from q1010)
            have u1011 : Hid (w1008 275 78 = w 275 78 + 2) := Hid.mk (Eq.trans q1010.out.2.2.2.2 (by omega))
            have c1024 := cSt.em c993 q1010.out (by decide) (by omega) (by omega)
            refine e_Ok.nrm (q := 43) (st' := [(0, w 275 78 + 1)]) rfl rfl ?_
            refine e_Ok.run (t' := (45, [(1, (0, w 275 78 + 1)), (0, (1, 275))], [(1, 275)], w1008)) 2 rfl ?_
            refine e_Ok.callV rfl (Nat.le_trans (by decide) hdq) rfl rfl rfl rfl (c_348_0 (Nat.le_trans (by decide) hdq) c1024 (by rw [(show Hid (w1008 275 88 = w979 275 88) from Hid.mk (q1010.out.fld (by decide))).out] <;> omega)) (fun r1025 w1026 h1027 => ?_)
            obtain ⟨rfl, rfl⟩ := h1027
            refine e_Ok.nrm (q := 48) (st' := []) rfl rfl ?_
            refine e_Ok.ps1 (x := (1, 275)) (q := 49) 1 rfl ?_
            refine e_Ok.getf (z := w979 275 88) rfl (el_o rfl) rfl (ef_o rfl) (show Hid (w1008 275 88 = w979 275 88) from Hid.mk (q1010.out.fld (by decide))).out (by omega) ?_
            refine e_Ok.if1 rfl (fun h1028 => ?_) (fun h1028 => ?_)
            · replace h1028 : (w979 275 88 : Int) ≠ 0 := h1028
              refine e_Ok.ps2 (x := (0, w 275 78 + 1)) (y := (1, 275)) (q := 105) 2 rfl ?_
              refine e_Ok.callV rfl (Nat.le_trans (by decide) hdq) rfl rfl rfl rfl (c_337 c1024.1 (n := w 275 78 + 2) u1011.out (by omega) (by omega)) (fun r1029 w1030 h1031 => ?_)
              obtain ⟨rfl, q1032⟩ := h1031
              have f1033 : e_fr (mStm (w 275 78) (w 275 79) (w 275 80) (w 275 94)) w w1030 := e_fr.up (show e_fr (mStm (w 275 78) (w 275 79) (w 275 80) (w 275 94)) w w1008 from e_fr.trans f994 (q1010.out.st (by omega))) q1032 (by unfold mStm; omega)
              have u1044 : Hid (w1030 275 88 = w979 275 88) := Hid.upn q1032 (Or.inl (by decide)) (show Hid (w1008 275 88 = w979 275 88) from Hid.mk (q1010.out.fld (by decide)))
              have c1046 := cSt.wr c1024 q1032 (Or.inl rfl) (by omega) rfl (fun y => absurd y (by decide))
              refine e_Ok.nrm (q := 108) (st' := []) rfl rfl ?_
              refine e_Ok.ps3 (x := (0, 2)) (y := (1, 275)) (z := (1, 275)) (q := 111) 3 rfl ?_
              refine e_Ok.callV rfl (Nat.le_trans (by decide) hdq) rfl rfl rfl rfl (c_332 c1046.1 (N := N) c1046.2.2.2.1) (fun r1047 w1048 h1049 => ?_)
              obtain ⟨z1050, rfl, rfl, q1051⟩ := h1049
              obtain ⟨rfl, q1051, q1051b⟩ | ⟨rfl, q1051n⟩ := q1051
              · refine e_Ok.nrm (q := 114) (st' := [(0, 1), (1, 275)]) rfl rfl ?_
                rw [(Hid.upn q1032 (Or.inl (by decide)) (show Hid (w1008 275 84 = w 275 84) from Hid.mk (Eq.trans (q1010.out.fld (by decide)) (show Hid (w979 275 84 = w 275 84) from Hid.mk (Eq.trans (q981 275 84 (mRf_fld (by decide))) u32.out)).out))).out] at q1051
                rw [(Hid.upn q1032 (Or.inl (by decide)) (show Hid (w1008 275 85 = w 275 85) from Hid.mk (Eq.trans (q1010.out.fld (by decide)) (show Hid (w979 275 85 = w 275 85) from Hid.mk (Eq.trans (q981 275 85 (mRf_fld (by decide))) (show Hid (w23 275 85 = w 275 85) from Hid.mk (Eq.trans (q25.out.fld (by decide)) (show Hid (w2 275 85 = w 275 85) from Hid.mk (e6.out.1 275 85 (by decide))).out)).out)).out))).out] at q1051b
                refine e_Ok.callV rfl (Nat.le_trans (by decide) hdq) rfl rfl rfl rfl (c_334 (Nat.le_trans (by decide) hdq) c1046.1 c1046.2.1 c1046.2.2.1 hNr c1046.2.2.2.1 (by decide)) (fun r1052 w1053 h1054 => ?_)
                obtain ⟨rfl, q1055⟩ := h1054
                obtain ⟨rfl, q1055z⟩ | ⟨q1055z, q1055b, q1055, q1055s, q1055t⟩ | ⟨q1055z, q1055b, q1055, q1055T, q1055H, q1055r⟩ := q1055
                · show e_Ok 20 elay ecode eI (d + 1) 350 (117, [(1, (0, w 275 78 + 1)), (0, (1, 275))], [], w1030) _
                  rw [u1044.out] at q1055z
                  refine e_Ok.run (t' := (119, [(1, (0, w 275 78 + 1)), (0, (1, 275))], [(1, 275), (1, 275)], w1030)) 2 rfl ?_
                  refine e_Ok.getf (z := w 275 83 + 1) rfl (el_o rfl) rfl (ef_o rfl) (Hid.upn q1032 (Or.inl (by decide)) (show Hid (w1008 275 83 = w 275 83 + 1) from Hid.mk (Eq.trans (q1010.out.fld (by decide)) (show Hid (w979 275 83 = w 275 83 + 1) from Hid.mk (Eq.trans (q981 275 83 (mRf_fld (by decide))) (show Hid (w23 275 83 = w 275 83 + 1) from Hid.mk (Eq.trans (q25.out.fld (by decide)) (show Hid (w2 275 83 = w 275 83 + 1) from Hid.mk (e6.out.2)).out)).out)).out))).out (by omega) ?_
                  refine e_Ok.ps1 (x := (0, 1)) (q := 123) 1 rfl ?_
                  refine e_Ok.sub' (z := w 275 83) rfl (by omega) (by omega) ?_
                  refine e_Ok.putf rfl (el_o rfl) rfl (ef_o rfl) ?_
                  generalize hw1056 : e_up w1030 275 83 (w 275 83) = w1056
                  have e1058 := up83 hw1056
                  replace e1058 := (show Hid _ from e1058)
                  refine e_Ok.rets rfl rfl ?_
                  exact ⟨rfl, (show e_fr (mStm (w 275 78) (w 275 79) (w 275 80) (w 275 94)) w w1056 from e_fr.up f1033 hw1056 (by first | exact Or.inr (Or.inr (Or.inr (Or.inr ⟨rfl, Or.inl ⟨(by decide), (by decide)⟩⟩))) | (unfold mStm; omega))), (cSt.up c1046 hw1056), (by unfold stL; rw [(show Hid (w1056 275 78 = w 275 78 + 2) from Hid.mk (Eq.trans (e1058.out.1 275 78 (by decide)) (Hid.upn q1032 (Or.inl (by decide)) u1011).out)).out, (show Hid (w1056 275 79 = w 275 79) from Hid.mk (Eq.trans (e1058.out.1 275 79 (by decide)) (Hid.upn q1032 (Or.inl (by decide)) (show Hid (w1008 275 79 = w 275 79) from Hid.mk (Eq.trans (q1010.out.fld (by decide)) (show Hid (w979 275 79 = w 275 79) from Hid.mk (Eq.trans (q981 275 79 (mRf_fld (by decide))) (show Hid (w23 275 79 = w 275 79) from Hid.mk (Eq.trans (q25.out.fld (by decide)) (show Hid (w2 275 79 = w 275 79) from Hid.mk (e6.out.1 275 79 (by decide))).out)).out)).out))).out)).out, (show Hid (w1056 275 80 = w 275 80) from Hid.mk (Eq.trans (e1058.out.1 275 80 (by decide)) (Hid.upn q1032 (Or.inl (by decide)) (show Hid (w1008 275 80 = w 275 80) from Hid.mk (Eq.trans (q1010.out.fld (by decide)) (show Hid (w979 275 80 = w 275 80) from Hid.mk (Eq.trans (q981 275 80 (mRf_fld (by decide))) (show Hid (w23 275 80 = w 275 80) from Hid.mk (Eq.trans (q25.out.fld (by decide)) (show Hid (w2 275 80 = w 275 80) from Hid.mk (e6.out.1 275 80 (by decide))).out)).out)).out))).out)).out, (show Hid (w1056 275 81 = w 275 81) from Hid.mk (Eq.trans (e1058.out.1 275 81 (by decide)) (Hid.upn q1032 (Or.inl (by decide)) (show Hid (w1008 275 81 = w 275 81) from Hid.mk (Eq.trans (q1010.out.fld (by decide)) u985.out))).out)).out, (show Hid (w1056 275 82 = w 275 82) from Hid.mk (Eq.trans (e1058.out.1 275 82 (by decide)) (Hid.upn q1032 (Or.inl (by decide)) (show Hid (w1008 275 82 = w 275 82) from Hid.mk (Eq.trans (q1010.out.fld (by decide)) (show Hid (w979 275 82 = w 275 82) from Hid.mk (Eq.trans (q981 275 82 (mRf_fld (by decide))) (show Hid (w23 275 82 = w 275 82) from Hid.mk (Eq.trans (q25.out.fld (by decide)) (show Hid (w2 275 82 = w 275 82) from Hid.mk (e6.out.1 275 82 (by decide))).out)).out)).out))).out)).out, (show Hid (w1056 275 83 = w 275 83) from Hid.mk (e1058.out.2)).out, (show Hid (w1056 275 86 = w 275 86) from Hid.mk (Eq.trans (e1058.out.1 275 86 (by decide)) (Hid.upn q1032 (Or.inl (by decide)) (show Hid (w1008 275 86 = w 275 86) from Hid.mk (Eq.trans (q1010.out.fld (by decide)) (show Hid (w979 275 86 = w 275 86) from Hid.mk (Eq.trans (q981 275 86 (mRf_fld (by decide))) (show Hid (w23 275 86 = w 275 86) from Hid.mk (Eq.trans (q25.out.fld (by decide)) (show Hid (w2 275 86 = w 275 86) from Hid.mk (e6.out.1 275 86 (by decide))).out)).out)).out))).out)).out, (show Hid (w1056 275 88 = w979 275 88) from Hid.mk (Eq.trans (e1058.out.1 275 88 (by decide)) u1044.out)).out, (show Hid (w1056 275 94 = w 275 94) from Hid.mk (Eq.trans (e1058.out.1 275 94 (by decide)) (Hid.upn q1032 (Or.inl (by decide)) (show Hid (w1008 275 94 = w 275 94) from Hid.mk (Eq.trans (q1010.out.fld (by decide)) (show Hid (w979 275 94 = w 275 94) from Hid.mk (Eq.trans (q981 275 94 (mRf_fld (by decide))) (show Hid (w23 275 94 = w 275 94) from Hid.mk (Eq.trans (q25.out.fld (by decide)) (show Hid (w2 275 94 = w 275 94) from Hid.mk (e6.out.1 275 94 (by decide))).out)).out)).out))).out)).out]; omega), (fun z => by rw [(show Hid (w1056 275 88 = w979 275 88) from Hid.mk (Eq.trans (e1058.out.1 275 88 (by decide)) u1044.out)).out] at z; exact absurd z (by omega))⟩
                · rw [u1044.out] at q1055z; exact absurd q1055z (by omega)
                · rw [u1044.out] at q1055z; exact absurd q1055z (by omega)
              · refine e_Ok.nrm (q := 114) (st' := [(0, 0), (1, 275)]) rfl rfl ?_
                clear q1051n
                refine e_Ok.callV rfl (Nat.le_trans (by decide) hdq) rfl rfl rfl rfl (c_334 (Nat.le_trans (by decide) hdq) c1046.1 c1046.2.1 c1046.2.2.1 hNr c1046.2.2.2.1 (by decide)) (fun r1072 w1073 h1074 => ?_)
                obtain ⟨rfl, q1075⟩ := h1074
                obtain ⟨rfl, q1075z⟩ | ⟨q1075z, q1075b, q1075, q1075s, q1075t⟩ | ⟨q1075z, q1075b, q1075, q1075T, q1075H, q1075r⟩ := q1075
                · refine e_Ok.nrm (q := 117) (st' := []) rfl rfl ?_
                  rw [u1044.out] at q1075z
                  refine e_Ok.run (t' := (119, [(1, (0, w 275 78 + 1)), (0, (1, 275))], [(1, 275), (1, 275)], w1030)) 2 rfl ?_
                  refine e_Ok.getf (z := w 275 83 + 1) rfl (el_o rfl) rfl (ef_o rfl) (Hid.upn q1032 (Or.inl (by decide)) (show Hid (w1008 275 83 = w 275 83 + 1) from Hid.mk (Eq.trans (q1010.out.fld (by decide)) (show Hid (w979 275 83 = w 275 83 + 1) from Hid.mk (Eq.trans (q981 275 83 (mRf_fld (by decide))) (show Hid (w23 275 83 = w 275 83 + 1) from Hid.mk (Eq.trans (q25.out.fld (by decide)) (show Hid (w2 275 83 = w 275 83 + 1) from Hid.mk (e6.out.2)).out)).out)).out))).out (by omega) ?_
                  refine e_Ok.ps1 (x := (0, 1)) (q := 123) 1 rfl ?_
                  refine e_Ok.sub' (z := w 275 83) rfl (by omega) (by omega) ?_
                  refine e_Ok.putf rfl (el_o rfl) rfl (ef_o rfl) ?_
                  generalize hw1076 : e_up w1030 275 83 (w 275 83) = w1076
                  have e1078 := up83 hw1076
                  replace e1078 := (show Hid _ from e1078)
                  refine e_Ok.rets rfl rfl ?_
                  exact ⟨rfl, (show e_fr (mStm (w 275 78) (w 275 79) (w 275 80) (w 275 94)) w w1076 from e_fr.up f1033 hw1076 (by first | exact Or.inr (Or.inr (Or.inr (Or.inr ⟨rfl, Or.inl ⟨(by decide), (by decide)⟩⟩))) | (unfold mStm; omega))), (cSt.up c1046 hw1076), (by unfold stL; rw [(show Hid (w1076 275 78 = w 275 78 + 2) from Hid.mk (Eq.trans (e1078.out.1 275 78 (by decide)) (Hid.upn q1032 (Or.inl (by decide)) u1011).out)).out, (show Hid (w1076 275 79 = w 275 79) from Hid.mk (Eq.trans (e1078.out.1 275 79 (by decide)) (Hid.upn q1032 (Or.inl (by decide)) (show Hid (w1008 275 79 = w 275 79) from Hid.mk (Eq.trans (q1010.out.fld (by decide)) (show Hid (w979 275 79 = w 275 79) from Hid.mk (Eq.trans (q981 275 79 (mRf_fld (by decide))) (show Hid (w23 275 79 = w 275 79) from Hid.mk (Eq.trans (q25.out.fld (by decide)) (show Hid (w2 275 79 = w 275 79) from Hid.mk (e6.out.1 275 79 (by decide))).out)).out)).out))).out)).out, (show Hid (w1076 275 80 = w 275 80) from Hid.mk (Eq.trans (e1078.out.1 275 80 (by decide)) (Hid.upn q1032 (Or.inl (by decide)) (show Hid (w1008 275 80 = w 275 80) from Hid.mk (Eq.trans (q1010.out.fld (by decide)) (show Hid (w979 275 80 = w 275 80) from Hid.mk (Eq.trans (q981 275 80 (mRf_fld (by decide))) (show Hid (w23 275 80 = w 275 80) from Hid.mk (Eq.trans (q25.out.fld (by decide)) (show Hid (w2 275 80 = w 275 80) from Hid.mk (e6.out.1 275 80 (by decide))).out)).out)).out))).out)).out, (show Hid (w1076 275 81 = w 275 81) from Hid.mk (Eq.trans (e1078.out.1 275 81 (by decide)) (Hid.upn q1032 (Or.inl (by decide)) (show Hid (w1008 275 81 = w 275 81) from Hid.mk (Eq.trans (q1010.out.fld (by decide)) u985.out))).out)).out, (show Hid (w1076 275 82 = w 275 82) from Hid.mk (Eq.trans (e1078.out.1 275 82 (by decide)) (Hid.upn q1032 (Or.inl (by decide)) (show Hid (w1008 275 82 = w 275 82) from Hid.mk (Eq.trans (q1010.out.fld (by decide)) (show Hid (w979 275 82 = w 275 82) from Hid.mk (Eq.trans (q981 275 82 (mRf_fld (by decide))) (show Hid (w23 275 82 = w 275 82) from Hid.mk (Eq.trans (q25.out.fld (by decide)) (show Hid (w2 275 82 = w 275 82) from Hid.mk (e6.out.1 275 82 (by decide))).out)).out)).out))).out)).out, (show Hid (w1076 275 83 = w 275 83) from Hid.mk (e1078.out.2)).out, (show Hid (w1076 275 86 = w 275 86) from Hid.mk (Eq.trans (e1078.out.1 275 86 (by decide)) (Hid.upn q1032 (Or.inl (by decide)) (show Hid (w1008 275 86 = w 275 86) from Hid.mk (Eq.trans (q1010.out.fld (by decide)) (show Hid (w979 275 86 = w 275 86) from Hid.mk (Eq.trans (q981 275 86 (mRf_fld (by decide))) (show Hid (w23 275 86 = w 275 86) from Hid.mk (Eq.trans (q25.out.fld (by decide)) (show Hid (w2 275 86 = w 275 86) from Hid.mk (e6.out.1 275 86 (by decide))).out)).out)).out))).out)).out, (show Hid (w1076 275 88 = w979 275 88) from Hid.mk (Eq.trans (e1078.out.1 275 88 (by decide)) u1044.out)).out, (show Hid (w1076 275 94 = w 275 94) from Hid.mk (Eq.trans (e1078.out.1 275 94 (by decide)) (Hid.upn q1032 (Or.inl (by decide)) (show Hid (w1008 275 94 = w 275 94) from Hid.mk (Eq.trans (q1010.out.fld (by decide)) (show Hid (w979 275 94 = w 275 94) from Hid.mk (Eq.trans (q981 275 94 (mRf_fld (by decide))) (show Hid (w23 275 94 = w 275 94) from Hid.mk (Eq.trans (q25.out.fld (by decide)) (show Hid (w2 275 94 = w 275 94) from Hid.mk (e6.out.1 275 94 (by decide))).out)).out)).out))).out)).out]; omega), (fun z => by rw [(show Hid (w1076 275 88 = w979 275 88) from Hid.mk (Eq.trans (e1078.out.1 275 88 (by decide)) u1044.out)).out] at z; exact absurd z (by omega))⟩
                · rw [u1044.out] at q1075z; exact absurd q1075z (by omega)
                · rw [u1044.out] at q1075z; exact absurd q1075z (by omega)
            · replace h1028 : (w979 275 88 : Int) = 0 := Classical.not_not.mp (show ¬ ((w979 275 88 : Int) ≠ 0) from h1028)
              exfalso; omega
          · exact absurd q1006z (by omega)
          · exact absurd q1006z (by omega)
        · refine e_Ok.nrm (q := 33) (st' := [(0, 0), (1, 275)]) rfl rfl ?_
          clear q1002n
          refine e_Ok.callV rfl (Nat.le_trans (by decide) hdq) rfl rfl rfl rfl (c_334 (Nat.le_trans (by decide) hdq) c993.1 c993.2.1 c993.2.2.1 hNr c993.2.2.2.1 (by decide)) (fun r1092 w1093 h1094 => ?_)
          obtain ⟨rfl, q1095⟩ := h1094
          obtain ⟨rfl, q1095z⟩ | ⟨q1095z, q1095b, q1095, q1095s, q1095t⟩ | ⟨q1095z, q1095b, q1095, q1095T, q1095H, q1095r⟩ := q1095
          · refine e_Ok.nrm (q := 36) (st' := []) rfl rfl ?_
            refine e_Ok.ps3 (x := (0, 0)) (y := (0, 47)) (z := (1, 275)) (q := 40) 3 rfl ?_
            refine e_Ok.callV rfl (Nat.le_trans (by decide) hdq) rfl rfl rfl rfl (c_336 c993.1 (n := w 275 78 + 1) (show Hid (w979 275 78 = w 275 78 + 1) from Hid.mk (Eq.trans (q981 275 78 (mRf_fld (by decide))) u26.out)).out (by omega) (s := w 275 81) u985.out (by omega)) (fun r1096 w1097 h1098 => ?_)
            obtain ⟨rfl, q1099⟩ := h1098
            replace q1099 := (show Hid (EM w979 w1097 (w 275 78 + 1) 47 (0) (w 275 81)) from q1099)
            have u1100 : Hid (w1097 275 78 = w 275 78 + 2) := Hid.mk (Eq.trans q1099.out.2.2.2.2 (by omega))
            have c1113 := cSt.em c993 q1099.out (by decide) (by omega) (by omega)
            refine e_Ok.nrm (q := 43) (st' := [(0, w 275 78 + 1)]) rfl rfl ?_
            refine e_Ok.run (t' := (45, [(1, (0, w 275 78 + 1)), (0, (1, 275))], [(1, 275)], w1097)) 2 rfl ?_
            refine e_Ok.callV rfl (Nat.le_trans (by decide) hdq) rfl rfl rfl rfl (c_348_0 (Nat.le_trans (by decide) hdq) c1113 (by rw [(show Hid (w1097 275 88 = w979 275 88) from Hid.mk (q1099.out.fld (by decide))).out] <;> omega)) (fun r1114 w1115 h1116 => ?_)
            obtain ⟨rfl, rfl⟩ := h1116
            refine e_Ok.nrm (q := 48) (st' := []) rfl rfl ?_
            refine e_Ok.ps1 (x := (1, 275)) (q := 49) 1 rfl ?_
            refine e_Ok.getf (z := w979 275 88) rfl (el_o rfl) rfl (ef_o rfl) (show Hid (w1097 275 88 = w979 275 88) from Hid.mk (q1099.out.fld (by decide))).out (by omega) ?_
            refine e_Ok.if1 rfl (fun h1117 => ?_) (fun h1117 => ?_)
            · replace h1117 : (w979 275 88 : Int) ≠ 0 := h1117
              refine e_Ok.ps2 (x := (0, w 275 78 + 1)) (y := (1, 275)) (q := 105) 2 rfl ?_
              refine e_Ok.callV rfl (Nat.le_trans (by decide) hdq) rfl rfl rfl rfl (c_337 c1113.1 (n := w 275 78 + 2) u1100.out (by omega) (by omega)) (fun r1118 w1119 h1120 => ?_)
              obtain ⟨rfl, q1121⟩ := h1120
              have f1122 : e_fr (mStm (w 275 78) (w 275 79) (w 275 80) (w 275 94)) w w1119 := e_fr.up (show e_fr (mStm (w 275 78) (w 275 79) (w 275 80) (w 275 94)) w w1097 from e_fr.trans f994 (q1099.out.st (by omega))) q1121 (by unfold mStm; omega)
              have u1133 : Hid (w1119 275 88 = w979 275 88) := Hid.upn q1121 (Or.inl (by decide)) (show Hid (w1097 275 88 = w979 275 88) from Hid.mk (q1099.out.fld (by decide)))
              have c1135 := cSt.wr c1113 q1121 (Or.inl rfl) (by omega) rfl (fun y => absurd y (by decide))
              refine e_Ok.nrm (q := 108) (st' := []) rfl rfl ?_
              refine e_Ok.ps3 (x := (0, 2)) (y := (1, 275)) (z := (1, 275)) (q := 111) 3 rfl ?_
              refine e_Ok.callV rfl (Nat.le_trans (by decide) hdq) rfl rfl rfl rfl (c_332 c1135.1 (N := N) c1135.2.2.2.1) (fun r1136 w1137 h1138 => ?_)
              obtain ⟨z1139, rfl, rfl, q1140⟩ := h1138
              obtain ⟨rfl, q1140, q1140b⟩ | ⟨rfl, q1140n⟩ := q1140
              · refine e_Ok.nrm (q := 114) (st' := [(0, 1), (1, 275)]) rfl rfl ?_
                rw [(Hid.upn q1121 (Or.inl (by decide)) (show Hid (w1097 275 84 = w 275 84) from Hid.mk (Eq.trans (q1099.out.fld (by decide)) (show Hid (w979 275 84 = w 275 84) from Hid.mk (Eq.trans (q981 275 84 (mRf_fld (by decide))) u32.out)).out))).out] at q1140
                rw [(Hid.upn q1121 (Or.inl (by decide)) (show Hid (w1097 275 85 = w 275 85) from Hid.mk (Eq.trans (q1099.out.fld (by decide)) (show Hid (w979 275 85 = w 275 85) from Hid.mk (Eq.trans (q981 275 85 (mRf_fld (by decide))) (show Hid (w23 275 85 = w 275 85) from Hid.mk (Eq.trans (q25.out.fld (by decide)) (show Hid (w2 275 85 = w 275 85) from Hid.mk (e6.out.1 275 85 (by decide))).out)).out)).out))).out] at q1140b
                refine e_Ok.callV rfl (Nat.le_trans (by decide) hdq) rfl rfl rfl rfl (c_334 (Nat.le_trans (by decide) hdq) c1135.1 c1135.2.1 c1135.2.2.1 hNr c1135.2.2.2.1 (by decide)) (fun r1141 w1142 h1143 => ?_)
                obtain ⟨rfl, q1144⟩ := h1143
                obtain ⟨rfl, q1144z⟩ | ⟨q1144z, q1144b, q1144, q1144s, q1144t⟩ | ⟨q1144z, q1144b, q1144, q1144T, q1144H, q1144r⟩ := q1144
                · show e_Ok 20 elay ecode eI (d + 1) 350 (117, [(1, (0, w 275 78 + 1)), (0, (1, 275))], [], w1119) _
                  rw [u1133.out] at q1144z
                  refine e_Ok.run (t' := (119, [(1, (0, w 275 78 + 1)), (0, (1, 275))], [(1, 275), (1, 275)], w1119)) 2 rfl ?_
                  refine e_Ok.getf (z := w 275 83 + 1) rfl (el_o rfl) rfl (ef_o rfl) (Hid.upn q1121 (Or.inl (by decide)) (show Hid (w1097 275 83 = w 275 83 + 1) from Hid.mk (Eq.trans (q1099.out.fld (by decide)) (show Hid (w979 275 83 = w 275 83 + 1) from Hid.mk (Eq.trans (q981 275 83 (mRf_fld (by decide))) (show Hid (w23 275 83 = w 275 83 + 1) from Hid.mk (Eq.trans (q25.out.fld (by decide)) (show Hid (w2 275 83 = w 275 83 + 1) from Hid.mk (e6.out.2)).out)).out)).out))).out (by omega) ?_
                  refine e_Ok.ps1 (x := (0, 1)) (q := 123) 1 rfl ?_
                  refine e_Ok.sub' (z := w 275 83) rfl (by omega) (by omega) ?_
                  refine e_Ok.putf rfl (el_o rfl) rfl (ef_o rfl) ?_
                  generalize hw1145 : e_up w1119 275 83 (w 275 83) = w1145
                  have e1147 := up83 hw1145
                  replace e1147 := (show Hid _ from e1147)
                  refine e_Ok.rets rfl rfl ?_
                  exact ⟨rfl, (show e_fr (mStm (w 275 78) (w 275 79) (w 275 80) (w 275 94)) w w1145 from e_fr.up f1122 hw1145 (by first | exact Or.inr (Or.inr (Or.inr (Or.inr ⟨rfl, Or.inl ⟨(by decide), (by decide)⟩⟩))) | (unfold mStm; omega))), (cSt.up c1135 hw1145), (by unfold stL; rw [(show Hid (w1145 275 78 = w 275 78 + 2) from Hid.mk (Eq.trans (e1147.out.1 275 78 (by decide)) (Hid.upn q1121 (Or.inl (by decide)) u1100).out)).out, (show Hid (w1145 275 79 = w 275 79) from Hid.mk (Eq.trans (e1147.out.1 275 79 (by decide)) (Hid.upn q1121 (Or.inl (by decide)) (show Hid (w1097 275 79 = w 275 79) from Hid.mk (Eq.trans (q1099.out.fld (by decide)) (show Hid (w979 275 79 = w 275 79) from Hid.mk (Eq.trans (q981 275 79 (mRf_fld (by decide))) (show Hid (w23 275 79 = w 275 79) from Hid.mk (Eq.trans (q25.out.fld (by decide)) (show Hid (w2 275 79 = w 275 79) from Hid.mk (e6.out.1 275 79 (by decide))).out)).out)).out))).out)).out, (show Hid (w1145 275 80 = w 275 80) from Hid.mk (Eq.trans (e1147.out.1 275 80 (by decide)) (Hid.upn q1121 (Or.inl (by decide)) (show Hid (w1097 275 80 = w 275 80) from Hid.mk (Eq.trans (q1099.out.fld (by decide)) (show Hid (w979 275 80 = w 275 80) from Hid.mk (Eq.trans (q981 275 80 (mRf_fld (by decide))) (show Hid (w23 275 80 = w 275 80) from Hid.mk (Eq.trans (q25.out.fld (by decide)) (show Hid (w2 275 80 = w 275 80) from Hid.mk (e6.out.1 275 80 (by decide))).out)).out)).out))).out)).out, (show Hid (w1145 275 81 = w 275 81) from Hid.mk (Eq.trans (e1147.out.1 275 81 (by decide)) (Hid.upn q1121 (Or.inl (by decide)) (show Hid (w1097 275 81 = w 275 81) from Hid.mk (Eq.trans (q1099.out.fld (by decide)) u985.out))).out)).out, (show Hid (w1145 275 82 = w 275 82) from Hid.mk (Eq.trans (e1147.out.1 275 82 (by decide)) (Hid.upn q1121 (Or.inl (by decide)) (show Hid (w1097 275 82 = w 275 82) from Hid.mk (Eq.trans (q1099.out.fld (by decide)) (show Hid (w979 275 82 = w 275 82) from Hid.mk (Eq.trans (q981 275 82 (mRf_fld (by decide))) (show Hid (w23 275 82 = w 275 82) from Hid.mk (Eq.trans (q25.out.fld (by decide)) (show Hid (w2 275 82 = w 275 82) from Hid.mk (e6.out.1 275 82 (by decide))).out)).out)).out))).out)).out, (show Hid (w1145 275 83 = w 275 83) from Hid.mk (e1147.out.2)).out, (show Hid (w1145 275 86 = w 275 86) from Hid.mk (Eq.trans (e1147.out.1 275 86 (by decide)) (Hid.upn q1121 (Or.inl (by decide)) (show Hid (w1097 275 86 = w 275 86) from Hid.mk (Eq.trans (q1099.out.fld (by decide)) (show Hid (w979 275 86 = w 275 86) from Hid.mk (Eq.trans (q981 275 86 (mRf_fld (by decide))) (show Hid (w23 275 86 = w 275 86) from Hid.mk (Eq.trans (q25.out.fld (by decide)) (show Hid (w2 275 86 = w 275 86) from Hid.mk (e6.out.1 275 86 (by decide))).out)).out)).out))).out)).out, (show Hid (w1145 275 88 = w979 275 88) from Hid.mk (Eq.trans (e1147.out.1 275 88 (by decide)) u1133.out)).out, (show Hid (w1145 275 94 = w 275 94) from Hid.mk (Eq.trans (e1147.out.1 275 94 (by decide)) (Hid.upn q1121 (Or.inl (by decide)) (show Hid (w1097 275 94 = w 275 94) from Hid.mk (Eq.trans (q1099.out.fld (by decide)) (show Hid (w979 275 94 = w 275 94) from Hid.mk (Eq.trans (q981 275 94 (mRf_fld (by decide))) (show Hid (w23 275 94 = w 275 94) from Hid.mk (Eq.trans (q25.out.fld (by decide)) (show Hid (w2 275 94 = w 275 94) from Hid.mk (e6.out.1 275 94 (by decide))).out)).out)).out))).out)).out]; omega), (fun z => by rw [(show Hid (w1145 275 88 = w979 275 88) from Hid.mk (Eq.trans (e1147.out.1 275 88 (by decide)) u1133.out)).out] at z; exact absurd z (by omega))⟩
                · rw [u1133.out] at q1144z; exact absurd q1144z (by omega)
                · rw [u1133.out] at q1144z; exact absurd q1144z (by omega)
              · refine e_Ok.nrm (q := 114) (st' := [(0, 0), (1, 275)]) rfl rfl ?_
                clear q1140n
                refine e_Ok.callV rfl (Nat.le_trans (by decide) hdq) rfl rfl rfl rfl (c_334 (Nat.le_trans (by decide) hdq) c1135.1 c1135.2.1 c1135.2.2.1 hNr c1135.2.2.2.1 (by decide)) (fun r1161 w1162 h1163 => ?_)
                obtain ⟨rfl, q1164⟩ := h1163
                obtain ⟨rfl, q1164z⟩ | ⟨q1164z, q1164b, q1164, q1164s, q1164t⟩ | ⟨q1164z, q1164b, q1164, q1164T, q1164H, q1164r⟩ := q1164
                · refine e_Ok.nrm (q := 117) (st' := []) rfl rfl ?_
                  rw [u1133.out] at q1164z
                  refine e_Ok.run (t' := (119, [(1, (0, w 275 78 + 1)), (0, (1, 275))], [(1, 275), (1, 275)], w1119)) 2 rfl ?_
                  refine e_Ok.getf (z := w 275 83 + 1) rfl (el_o rfl) rfl (ef_o rfl) (Hid.upn q1121 (Or.inl (by decide)) (show Hid (w1097 275 83 = w 275 83 + 1) from Hid.mk (Eq.trans (q1099.out.fld (by decide)) (show Hid (w979 275 83 = w 275 83 + 1) from Hid.mk (Eq.trans (q981 275 83 (mRf_fld (by decide))) (show Hid (w23 275 83 = w 275 83 + 1) from Hid.mk (Eq.trans (q25.out.fld (by decide)) (show Hid (w2 275 83 = w 275 83 + 1) from Hid.mk (e6.out.2)).out)).out)).out))).out (by omega) ?_
                  refine e_Ok.ps1 (x := (0, 1)) (q := 123) 1 rfl ?_
                  refine e_Ok.sub' (z := w 275 83) rfl (by omega) (by omega) ?_
                  refine e_Ok.putf rfl (el_o rfl) rfl (ef_o rfl) ?_
                  generalize hw1165 : e_up w1119 275 83 (w 275 83) = w1165
                  have e1167 := up83 hw1165
                  replace e1167 := (show Hid _ from e1167)
                  refine e_Ok.rets rfl rfl ?_
                  exact ⟨rfl, (show e_fr (mStm (w 275 78) (w 275 79) (w 275 80) (w 275 94)) w w1165 from e_fr.up f1122 hw1165 (by first | exact Or.inr (Or.inr (Or.inr (Or.inr ⟨rfl, Or.inl ⟨(by decide), (by decide)⟩⟩))) | (unfold mStm; omega))), (cSt.up c1135 hw1165), (by unfold stL; rw [(show Hid (w1165 275 78 = w 275 78 + 2) from Hid.mk (Eq.trans (e1167.out.1 275 78 (by decide)) (Hid.upn q1121 (Or.inl (by decide)) u1100).out)).out, (show Hid (w1165 275 79 = w 275 79) from Hid.mk (Eq.trans (e1167.out.1 275 79 (by decide)) (Hid.upn q1121 (Or.inl (by decide)) (show Hid (w1097 275 79 = w 275 79) from Hid.mk (Eq.trans (q1099.out.fld (by decide)) (show Hid (w979 275 79 = w 275 79) from Hid.mk (Eq.trans (q981 275 79 (mRf_fld (by decide))) (show Hid (w23 275 79 = w 275 79) from Hid.mk (Eq.trans (q25.out.fld (by decide)) (show Hid (w2 275 79 = w 275 79) from Hid.mk (e6.out.1 275 79 (by decide))).out)).out)).out))).out)).out, (show Hid (w1165 275 80 = w 275 80) from Hid.mk (Eq.trans (e1167.out.1 275 80 (by decide)) (Hid.upn q1121 (Or.inl (by decide)) (show Hid (w1097 275 80 = w 275 80) from Hid.mk (Eq.trans (q1099.out.fld (by decide)) (show Hid (w979 275 80 = w 275 80) from Hid.mk (Eq.trans (q981 275 80 (mRf_fld (by decide))) (show Hid (w23 275 80 = w 275 80) from Hid.mk (Eq.trans (q25.out.fld (by decide)) (show Hid (w2 275 80 = w 275 80) from Hid.mk (e6.out.1 275 80 (by decide))).out)).out)).out))).out)).out, (show Hid (w1165 275 81 = w 275 81) from Hid.mk (Eq.trans (e1167.out.1 275 81 (by decide)) (Hid.upn q1121 (Or.inl (by decide)) (show Hid (w1097 275 81 = w 275 81) from Hid.mk (Eq.trans (q1099.out.fld (by decide)) u985.out))).out)).out, (show Hid (w1165 275 82 = w 275 82) from Hid.mk (Eq.trans (e1167.out.1 275 82 (by decide)) (Hid.upn q1121 (Or.inl (by decide)) (show Hid (w1097 275 82 = w 275 82) from Hid.mk (Eq.trans (q1099.out.fld (by decide)) (show Hid (w979 275 82 = w 275 82) from Hid.mk (Eq.trans (q981 275 82 (mRf_fld (by decide))) (show Hid (w23 275 82 = w 275 82) from Hid.mk (Eq.trans (q25.out.fld (by decide)) (show Hid (w2 275 82 = w 275 82) from Hid.mk (e6.out.1 275 82 (by decide))).out)).out)).out))).out)).out, (show Hid (w1165 275 83 = w 275 83) from Hid.mk (e1167.out.2)).out, (show Hid (w1165 275 86 = w 275 86) from Hid.mk (Eq.trans (e1167.out.1 275 86 (by decide)) (Hid.upn q1121 (Or.inl (by decide)) (show Hid (w1097 275 86 = w 275 86) from Hid.mk (Eq.trans (q1099.out.fld (by decide)) (show Hid (w979 275 86 = w 275 86) from Hid.mk (Eq.trans (q981 275 86 (mRf_fld (by decide))) (show Hid (w23 275 86 = w 275 86) from Hid.mk (Eq.trans (q25.out.fld (by decide)) (show Hid (w2 275 86 = w 275 86) from Hid.mk (e6.out.1 275 86 (by decide))).out)).out)).out))).out)).out, (show Hid (w1165 275 88 = w979 275 88) from Hid.mk (Eq.trans (e1167.out.1 275 88 (by decide)) u1133.out)).out, (show Hid (w1165 275 94 = w 275 94) from Hid.mk (Eq.trans (e1167.out.1 275 94 (by decide)) (Hid.upn q1121 (Or.inl (by decide)) (show Hid (w1097 275 94 = w 275 94) from Hid.mk (Eq.trans (q1099.out.fld (by decide)) (show Hid (w979 275 94 = w 275 94) from Hid.mk (Eq.trans (q981 275 94 (mRf_fld (by decide))) (show Hid (w23 275 94 = w 275 94) from Hid.mk (Eq.trans (q25.out.fld (by decide)) (show Hid (w2 275 94 = w 275 94) from Hid.mk (e6.out.1 275 94 (by decide))).out)).out)).out))).out)).out]; omega), (fun z => by rw [(show Hid (w1165 275 88 = w979 275 88) from Hid.mk (Eq.trans (e1167.out.1 275 88 (by decide)) u1133.out)).out] at z; exact absurd z (by omega))⟩
                · rw [u1133.out] at q1164z; exact absurd q1164z (by omega)
                · rw [u1133.out] at q1164z; exact absurd q1164z (by omega)
            · replace h1117 : (w979 275 88 : Int) = 0 := Classical.not_not.mp (show ¬ ((w979 275 88 : Int) ≠ 0) from h1117)
              exfalso; omega
          · exact absurd q1095z (by omega)
          · exact absurd q1095z (by omega)
  · refine e_Ok.nrm (q := 4) (st' := []) rfl rfl ?_
    have e1194 := up83 q4u
    replace e1194 := (show Hid _ from e1194)
    have c1207 := cSt.up (cSt.rf hc q4 q4T q4H) q4u
    refine e_Ok.ps3 (x := (0, 0)) (y := (0, 30)) (z := (1, 275)) (q := 8) 3 rfl ?_
    refine e_Ok.callV rfl (Nat.le_trans (by decide) hdq) rfl rfl rfl rfl (c_336 c1207.1 (n := w 275 78) (show Hid (w2 275 78 = w 275 78) from Hid.mk (Eq.trans (e1194.out.1 275 78 (by decide)) (show Hid (w5 275 78 = w 275 78) from Hid.mk (q4 275 78 (mRf_fld (by decide)))).out)).out (by omega) (s := w 275 81) (show Hid (w2 275 81 = w 275 81) from Hid.mk (Eq.trans (e1194.out.1 275 81 (by decide)) (show Hid (w5 275 81 = w 275 81) from Hid.mk (q4 275 81 (mRf_fld (by decide)))).out)).out (by omega)) (fun r1209 w1210 h1211 => ?_)
    obtain ⟨rfl, q1212⟩ := h1211
    replace q1212 := (show Hid (EM w2 w1210 (w 275 78) 30 (0) (w 275 81)) from q1212)
    have u1213 : Hid (w1210 275 78 = w 275 78 + 1) := Hid.mk (Eq.trans q1212.out.2.2.2.2 (by omega))
    have u1214 : Hid (w1210 275 79 = w 275 79) := Hid.mk (Eq.trans (q1212.out.fld (by decide)) (show Hid (w2 275 79 = w 275 79) from Hid.mk (Eq.trans (e1194.out.1 275 79 (by decide)) (show Hid (w5 275 79 = w 275 79) from Hid.mk (q4 275 79 (mRf_fld (by decide)))).out)).out)
    have u1215 : Hid (w1210 275 80 = w 275 80) := Hid.mk (Eq.trans (q1212.out.fld (by decide)) (show Hid (w2 275 80 = w 275 80) from Hid.mk (Eq.trans (e1194.out.1 275 80 (by decide)) (show Hid (w5 275 80 = w 275 80) from Hid.mk (q4 275 80 (mRf_fld (by decide)))).out)).out)
    have u1216 : Hid (w1210 275 81 = w 275 81) := Hid.mk (Eq.trans (q1212.out.fld (by decide)) (show Hid (w2 275 81 = w 275 81) from Hid.mk (Eq.trans (e1194.out.1 275 81 (by decide)) (show Hid (w5 275 81 = w 275 81) from Hid.mk (q4 275 81 (mRf_fld (by decide)))).out)).out)
    have u1217 : Hid (w1210 275 82 = w 275 82) := Hid.mk (Eq.trans (q1212.out.fld (by decide)) (show Hid (w2 275 82 = w 275 82) from Hid.mk (Eq.trans (e1194.out.1 275 82 (by decide)) (show Hid (w5 275 82 = w 275 82) from Hid.mk (q4 275 82 (mRf_fld (by decide)))).out)).out)
    have u1218 : Hid (w1210 275 83 = w 275 83 + 1) := Hid.mk (Eq.trans (q1212.out.fld (by decide)) (show Hid (w2 275 83 = w 275 83 + 1) from Hid.mk (e1194.out.2)).out)
    have u1219 : Hid (w1210 275 84 = w 275 84) := Hid.mk (Eq.trans (q1212.out.fld (by decide)) (show Hid (w2 275 84 = w 275 84) from Hid.mk (Eq.trans (e1194.out.1 275 84 (by decide)) (show Hid (w5 275 84 = w 275 84) from Hid.mk (q4 275 84 (mRf_fld (by decide)))).out)).out)
    have u1220 : Hid (w1210 275 85 = w 275 85) := Hid.mk (Eq.trans (q1212.out.fld (by decide)) (show Hid (w2 275 85 = w 275 85) from Hid.mk (Eq.trans (e1194.out.1 275 85 (by decide)) (show Hid (w5 275 85 = w 275 85) from Hid.mk (q4 275 85 (mRf_fld (by decide)))).out)).out)
    have u1221 : Hid (w1210 275 86 = w 275 86) := Hid.mk (Eq.trans (q1212.out.fld (by decide)) (show Hid (w2 275 86 = w 275 86) from Hid.mk (Eq.trans (e1194.out.1 275 86 (by decide)) (show Hid (w5 275 86 = w 275 86) from Hid.mk (q4 275 86 (mRf_fld (by decide)))).out)).out)
    have u1223 : Hid (w1210 275 88 = w5 275 88) := Hid.mk (Eq.trans (q1212.out.fld (by decide)) (show Hid (w2 275 88 = w5 275 88) from Hid.mk (e1194.out.1 275 88 (by decide))).out)
    have u1224 : Hid (w1210 275 94 = w 275 94) := Hid.mk (Eq.trans (q1212.out.fld (by decide)) (show Hid (w2 275 94 = w 275 94) from Hid.mk (Eq.trans (e1194.out.1 275 94 (by decide)) (show Hid (w5 275 94 = w 275 94) from Hid.mk (q4 275 94 (mRf_fld (by decide)))).out)).out)
    have f1225 : e_fr (mStm (w 275 78) (w 275 79) (w 275 80) (w 275 94)) w w1210 := e_fr.trans (show e_fr (mStm (w 275 78) (w 275 79) (w 275 80) (w 275 94)) w w2 from e_fr.trans (show e_fr (mStm (w 275 78) (w 275 79) (w 275 80) (w 275 94)) w w5 from e_fr.trans (e_fr.refl w) (e_fr.mono q4 (fun c k g => mRf_St g))) (fun c k g => e1194.out.1 c k (fun g2 => g (mU_St g2)))) (q1212.out.st (by omega))
    have c1226 := cSt.em c1207 q1212.out (by decide) (by omega) (by omega)
    refine e_Ok.nrm (q := 11) (st' := [(0, w 275 78)]) rfl rfl ?_
    refine e_Ok.run (t' := (16, [(0, (1, 275))], [(0, 18), (1, 275), (1, 275)], w1210)) 4 rfl ?_
    refine e_Ok.callV rfl (Nat.le_trans (by decide) hdq) rfl rfl rfl rfl (c_332 c1226.1 (N := N) c1226.2.2.2.1) (fun r1227 w1228 h1229 => ?_)
    obtain ⟨z1230, rfl, rfl, q1231⟩ := h1229
    obtain ⟨rfl, q1231, q1231b⟩ | ⟨rfl, q1231n⟩ := q1231
    · refine e_Ok.nrm (q := 19) (st' := [(0, 1), (1, 275)]) rfl rfl ?_
      rw [u1219.out] at q1231
      rw [u1220.out] at q1231b
      refine e_Ok.callV rfl (Nat.le_trans (by decide) hdq) rfl rfl rfl rfl (c_334 (Nat.le_trans (by decide) hdq) c1226.1 c1226.2.1 c1226.2.2.1 hNr c1226.2.2.2.1 (by decide)) (fun r1232 w1233 h1234 => ?_)
      obtain ⟨rfl, q1235⟩ := h1234
      obtain ⟨rfl, q1235z⟩ | ⟨q1235z, q1235b, q1235, q1235s, q1235t⟩ | ⟨q1235z, q1235b, q1235, q1235T, q1235H, q1235r⟩ := q1235
      · show e_Ok 20 elay ecode eI (d + 1) 350 (22, [(0, (1, 275))], [], w1210) _
        rw [u1223.out] at q1235z
        refine e_Ok.run (t' := (23, [(0, (1, 275))], [(1, 275)], w1210)) 1 rfl ?_
        refine e_Ok.callV rfl (Nat.le_trans (by decide) hdq) rfl rfl rfl rfl (c_339_0 (Nat.le_trans (by decide) hdq) c1226 (by rw [u1223.out] <;> omega)) (fun r1236 w1237 h1238 => ?_)
        obtain ⟨rfl, rfl⟩ := h1238
        refine e_Ok.nrm (q := 26) (st' := []) rfl rfl ?_
        refine e_Ok.ps3 (x := (0, 58)) (y := (1, 275)) (z := (1, 275)) (q := 30) 3 rfl ?_
        refine e_Ok.callV rfl (Nat.le_trans (by decide) hdq) rfl rfl rfl rfl (c_331 c1226.1 (N := N) c1226.2.2.2.1) (fun r1239 w1240 h1241 => ?_)
        obtain ⟨z1242, rfl, rfl, q1243⟩ := h1241
        obtain ⟨rfl, q1243, q1243b⟩ | ⟨rfl, q1243n⟩ := q1243
        · refine e_Ok.nrm (q := 33) (st' := [(0, 1), (1, 275)]) rfl rfl ?_
          rw [u1219.out] at q1243
          rw [u1220.out] at q1243b
          refine e_Ok.callV rfl (Nat.le_trans (by decide) hdq) rfl rfl rfl rfl (c_334 (Nat.le_trans (by decide) hdq) c1226.1 c1226.2.1 c1226.2.2.1 hNr c1226.2.2.2.1 (by decide)) (fun r1244 w1245 h1246 => ?_)
          obtain ⟨rfl, q1247⟩ := h1246
          obtain ⟨rfl, q1247z⟩ | ⟨q1247z, q1247b, q1247, q1247s, q1247t⟩ | ⟨q1247z, q1247b, q1247, q1247T, q1247H, q1247r⟩ := q1247
          · show e_Ok 20 elay ecode eI (d + 1) 350 (36, [(0, (1, 275))], [], w1210) _
            rw [u1223.out] at q1247z
            refine e_Ok.run (t' := (40, [(0, (1, 275))], [(0, 0), (0, 47), (1, 275)], w1210)) 3 rfl ?_
            refine e_Ok.callV rfl (Nat.le_trans (by decide) hdq) rfl rfl rfl rfl (c_336 c1226.1 (n := w 275 78 + 1) u1213.out (by omega) (s := w 275 81) u1216.out (by omega)) (fun r1248 w1249 h1250 => ?_)
            obtain ⟨rfl, q1251⟩ := h1250
            replace q1251 := (show Hid (EM w1210 w1249 (w 275 78 + 1) 47 (0) (w 275 81)) from q1251)
            have u1252 : Hid (w1249 275 78 = w 275 78 + 2) := Hid.mk (Eq.trans q1251.out.2.2.2.2 (by omega))
            have c1265 := cSt.em c1226 q1251.out (by decide) (by omega) (by omega)
            refine e_Ok.nrm (q := 43) (st' := [(0, w 275 78 + 1)]) rfl rfl ?_
            refine e_Ok.run (t' := (45, [(1, (0, w 275 78 + 1)), (0, (1, 275))], [(1, 275)], w1249)) 2 rfl ?_
            refine e_Ok.callV rfl (Nat.le_trans (by decide) hdq) rfl rfl rfl rfl (c_348_0 (Nat.le_trans (by decide) hdq) c1265 (by rw [(show Hid (w1249 275 88 = w5 275 88) from Hid.mk (Eq.trans (q1251.out.fld (by decide)) u1223.out)).out] <;> omega)) (fun r1266 w1267 h1268 => ?_)
            obtain ⟨rfl, rfl⟩ := h1268
            refine e_Ok.nrm (q := 48) (st' := []) rfl rfl ?_
            refine e_Ok.ps1 (x := (1, 275)) (q := 49) 1 rfl ?_
            refine e_Ok.getf (z := w5 275 88) rfl (el_o rfl) rfl (ef_o rfl) (show Hid (w1249 275 88 = w5 275 88) from Hid.mk (Eq.trans (q1251.out.fld (by decide)) u1223.out)).out (by omega) ?_
            refine e_Ok.if1 rfl (fun h1269 => ?_) (fun h1269 => ?_)
            · replace h1269 : (w5 275 88 : Int) ≠ 0 := h1269
              refine e_Ok.ps2 (x := (0, w 275 78 + 1)) (y := (1, 275)) (q := 105) 2 rfl ?_
              refine e_Ok.callV rfl (Nat.le_trans (by decide) hdq) rfl rfl rfl rfl (c_337 c1265.1 (n := w 275 78 + 2) u1252.out (by omega) (by omega)) (fun r1270 w1271 h1272 => ?_)
              obtain ⟨rfl, q1273⟩ := h1272
              have f1274 : e_fr (mStm (w 275 78) (w 275 79) (w 275 80) (w 275 94)) w w1271 := e_fr.up (show e_fr (mStm (w 275 78) (w 275 79) (w 275 80) (w 275 94)) w w1249 from e_fr.trans f1225 (q1251.out.st (by omega))) q1273 (by unfold mStm; omega)
              have u1285 : Hid (w1271 275 88 = w5 275 88) := Hid.upn q1273 (Or.inl (by decide)) (show Hid (w1249 275 88 = w5 275 88) from Hid.mk (Eq.trans (q1251.out.fld (by decide)) u1223.out))
              have c1287 := cSt.wr c1265 q1273 (Or.inl rfl) (by omega) rfl (fun y => absurd y (by decide))
              refine e_Ok.nrm (q := 108) (st' := []) rfl rfl ?_
              refine e_Ok.ps3 (x := (0, 2)) (y := (1, 275)) (z := (1, 275)) (q := 111) 3 rfl ?_
              refine e_Ok.callV rfl (Nat.le_trans (by decide) hdq) rfl rfl rfl rfl (c_332 c1287.1 (N := N) c1287.2.2.2.1) (fun r1288 w1289 h1290 => ?_)
              obtain ⟨z1291, rfl, rfl, q1292⟩ := h1290
              obtain ⟨rfl, q1292, q1292b⟩ | ⟨rfl, q1292n⟩ := q1292
              · refine e_Ok.nrm (q := 114) (st' := [(0, 1), (1, 275)]) rfl rfl ?_
                rw [(Hid.upn q1273 (Or.inl (by decide)) (show Hid (w1249 275 84 = w 275 84) from Hid.mk (Eq.trans (q1251.out.fld (by decide)) u1219.out))).out] at q1292
                rw [(Hid.upn q1273 (Or.inl (by decide)) (show Hid (w1249 275 85 = w 275 85) from Hid.mk (Eq.trans (q1251.out.fld (by decide)) u1220.out))).out] at q1292b
                refine e_Ok.callV rfl (Nat.le_trans (by decide) hdq) rfl rfl rfl rfl (c_334 (Nat.le_trans (by decide) hdq) c1287.1 c1287.2.1 c1287.2.2.1 hNr c1287.2.2.2.1 (by decide)) (fun r1293 w1294 h1295 => ?_)
                obtain ⟨rfl, q1296⟩ := h1295
                obtain ⟨rfl, q1296z⟩ | ⟨q1296z, q1296b, q1296, q1296s, q1296t⟩ | ⟨q1296z, q1296b, q1296, q1296T, q1296H, q1296r⟩ := q1296
                · show e_Ok 20 elay ecode eI (d + 1) 350 (117, [(1, (0, w 275 78 + 1)), (0, (1, 275))], [], w1271) _
                  rw [u1285.out] at q1296z
                  refine e_Ok.run (t' := (119, [(1, (0, w 275 78 + 1)), (0, (1, 275))], [(1, 275), (1, 275)], w1271)) 2 rfl ?_
                  refine e_Ok.getf (z := w 275 83 + 1) rfl (el_o rfl) rfl (ef_o rfl) (Hid.upn q1273 (Or.inl (by decide)) (show Hid (w1249 275 83 = w 275 83 + 1) from Hid.mk (Eq.trans (q1251.out.fld (by decide)) u1218.out))).out (by omega) ?_
                  refine e_Ok.ps1 (x := (0, 1)) (q := 123) 1 rfl ?_
                  refine e_Ok.sub' (z := w 275 83) rfl (by omega) (by omega) ?_
                  refine e_Ok.putf rfl (el_o rfl) rfl (ef_o rfl) ?_
                  generalize hw1297 : e_up w1271 275 83 (w 275 83) = w1297
                  have e1299 := up83 hw1297
                  replace e1299 := (show Hid _ from e1299)
                  refine e_Ok.rets rfl rfl ?_
                  exact ⟨rfl, (show e_fr (mStm (w 275 78) (w 275 79) (w 275 80) (w 275 94)) w w1297 from e_fr.up f1274 hw1297 (by first | exact Or.inr (Or.inr (Or.inr (Or.inr ⟨rfl, Or.inl ⟨(by decide), (by decide)⟩⟩))) | (unfold mStm; omega))), (cSt.up c1287 hw1297), (by unfold stL; rw [(show Hid (w1297 275 78 = w 275 78 + 2) from Hid.mk (Eq.trans (e1299.out.1 275 78 (by decide)) (Hid.upn q1273 (Or.inl (by decide)) u1252).out)).out, (show Hid (w1297 275 79 = w 275 79) from Hid.mk (Eq.trans (e1299.out.1 275 79 (by decide)) (Hid.upn q1273 (Or.inl (by decide)) (show Hid (w1249 275 79 = w 275 79) from Hid.mk (Eq.trans (q1251.out.fld (by decide)) u1214.out))).out)).out, (show Hid (w1297 275 80 = w 275 80) from Hid.mk (Eq.trans (e1299.out.1 275 80 (by decide)) (Hid.upn q1273 (Or.inl (by decide)) (show Hid (w1249 275 80 = w 275 80) from Hid.mk (Eq.trans (q1251.out.fld (by decide)) u1215.out))).out)).out, (show Hid (w1297 275 81 = w 275 81) from Hid.mk (Eq.trans (e1299.out.1 275 81 (by decide)) (Hid.upn q1273 (Or.inl (by decide)) (show Hid (w1249 275 81 = w 275 81) from Hid.mk (Eq.trans (q1251.out.fld (by decide)) u1216.out))).out)).out, (show Hid (w1297 275 82 = w 275 82) from Hid.mk (Eq.trans (e1299.out.1 275 82 (by decide)) (Hid.upn q1273 (Or.inl (by decide)) (show Hid (w1249 275 82 = w 275 82) from Hid.mk (Eq.trans (q1251.out.fld (by decide)) u1217.out))).out)).out, (show Hid (w1297 275 83 = w 275 83) from Hid.mk (e1299.out.2)).out, (show Hid (w1297 275 86 = w 275 86) from Hid.mk (Eq.trans (e1299.out.1 275 86 (by decide)) (Hid.upn q1273 (Or.inl (by decide)) (show Hid (w1249 275 86 = w 275 86) from Hid.mk (Eq.trans (q1251.out.fld (by decide)) u1221.out))).out)).out, (show Hid (w1297 275 88 = w5 275 88) from Hid.mk (Eq.trans (e1299.out.1 275 88 (by decide)) u1285.out)).out, (show Hid (w1297 275 94 = w 275 94) from Hid.mk (Eq.trans (e1299.out.1 275 94 (by decide)) (Hid.upn q1273 (Or.inl (by decide)) (show Hid (w1249 275 94 = w 275 94) from Hid.mk (Eq.trans (q1251.out.fld (by decide)) u1224.out))).out)).out]; omega), (fun z => by rw [(show Hid (w1297 275 88 = w5 275 88) from Hid.mk (Eq.trans (e1299.out.1 275 88 (by decide)) u1285.out)).out] at z; exact absurd z (by omega))⟩
                · rw [u1285.out] at q1296z; exact absurd q1296z (by omega)
                · rw [u1285.out] at q1296z; exact absurd q1296z (by omega)
              · refine e_Ok.nrm (q := 114) (st' := [(0, 0), (1, 275)]) rfl rfl ?_
                clear q1292n
                refine e_Ok.callV rfl (Nat.le_trans (by decide) hdq) rfl rfl rfl rfl (c_334 (Nat.le_trans (by decide) hdq) c1287.1 c1287.2.1 c1287.2.2.1 hNr c1287.2.2.2.1 (by decide)) (fun r1313 w1314 h1315 => ?_)
                obtain ⟨rfl, q1316⟩ := h1315
                obtain ⟨rfl, q1316z⟩ | ⟨q1316z, q1316b, q1316, q1316s, q1316t⟩ | ⟨q1316z, q1316b, q1316, q1316T, q1316H, q1316r⟩ := q1316
                · refine e_Ok.nrm (q := 117) (st' := []) rfl rfl ?_
                  rw [u1285.out] at q1316z
                  refine e_Ok.run (t' := (119, [(1, (0, w 275 78 + 1)), (0, (1, 275))], [(1, 275), (1, 275)], w1271)) 2 rfl ?_
                  refine e_Ok.getf (z := w 275 83 + 1) rfl (el_o rfl) rfl (ef_o rfl) (Hid.upn q1273 (Or.inl (by decide)) (show Hid (w1249 275 83 = w 275 83 + 1) from Hid.mk (Eq.trans (q1251.out.fld (by decide)) u1218.out))).out (by omega) ?_
                  refine e_Ok.ps1 (x := (0, 1)) (q := 123) 1 rfl ?_
                  refine e_Ok.sub' (z := w 275 83) rfl (by omega) (by omega) ?_
                  refine e_Ok.putf rfl (el_o rfl) rfl (ef_o rfl) ?_
                  generalize hw1317 : e_up w1271 275 83 (w 275 83) = w1317
                  have e1319 := up83 hw1317
                  replace e1319 := (show Hid _ from e1319)
                  refine e_Ok.rets rfl rfl ?_
                  exact ⟨rfl, (show e_fr (mStm (w 275 78) (w 275 79) (w 275 80) (w 275 94)) w w1317 from e_fr.up f1274 hw1317 (by first | exact Or.inr (Or.inr (Or.inr (Or.inr ⟨rfl, Or.inl ⟨(by decide), (by decide)⟩⟩))) | (unfold mStm; omega))), (cSt.up c1287 hw1317), (by unfold stL; rw [(show Hid (w1317 275 78 = w 275 78 + 2) from Hid.mk (Eq.trans (e1319.out.1 275 78 (by decide)) (Hid.upn q1273 (Or.inl (by decide)) u1252).out)).out, (show Hid (w1317 275 79 = w 275 79) from Hid.mk (Eq.trans (e1319.out.1 275 79 (by decide)) (Hid.upn q1273 (Or.inl (by decide)) (show Hid (w1249 275 79 = w 275 79) from Hid.mk (Eq.trans (q1251.out.fld (by decide)) u1214.out))).out)).out, (show Hid (w1317 275 80 = w 275 80) from Hid.mk (Eq.trans (e1319.out.1 275 80 (by decide)) (Hid.upn q1273 (Or.inl (by decide)) (show Hid (w1249 275 80 = w 275 80) from Hid.mk (Eq.trans (q1251.out.fld (by decide)) u1215.out))).out)).out, (show Hid (w1317 275 81 = w 275 81) from Hid.mk (Eq.trans (e1319.out.1 275 81 (by decide)) (Hid.upn q1273 (Or.inl (by decide)) (show Hid (w1249 275 81 = w 275 81) from Hid.mk (Eq.trans (q1251.out.fld (by decide)) u1216.out))).out)).out, (show Hid (w1317 275 82 = w 275 82) from Hid.mk (Eq.trans (e1319.out.1 275 82 (by decide)) (Hid.upn q1273 (Or.inl (by decide)) (show Hid (w1249 275 82 = w 275 82) from Hid.mk (Eq.trans (q1251.out.fld (by decide)) u1217.out))).out)).out, (show Hid (w1317 275 83 = w 275 83) from Hid.mk (e1319.out.2)).out, (show Hid (w1317 275 86 = w 275 86) from Hid.mk (Eq.trans (e1319.out.1 275 86 (by decide)) (Hid.upn q1273 (Or.inl (by decide)) (show Hid (w1249 275 86 = w 275 86) from Hid.mk (Eq.trans (q1251.out.fld (by decide)) u1221.out))).out)).out, (show Hid (w1317 275 88 = w5 275 88) from Hid.mk (Eq.trans (e1319.out.1 275 88 (by decide)) u1285.out)).out, (show Hid (w1317 275 94 = w 275 94) from Hid.mk (Eq.trans (e1319.out.1 275 94 (by decide)) (Hid.upn q1273 (Or.inl (by decide)) (show Hid (w1249 275 94 = w 275 94) from Hid.mk (Eq.trans (q1251.out.fld (by decide)) u1224.out))).out)).out]; omega), (fun z => by rw [(show Hid (w1317 275 88 = w5 275 88) from Hid.mk (Eq.trans (e1319.out.1 275 88 (by decide)) u1285.out)).out] at z; exact absurd z (by omega))⟩
                · rw [u1285.out] at q1316z; exact absurd q1316z (by omega)
                · rw [u1285.out] at q1316z; exact absurd q1316z (by omega)
            · replace h1269 : (w5 275 88 : Int) = 0 := Classical.not_not.mp (show ¬ ((w5 275 88 : Int) ≠ 0) from h1269)
              exfalso; omega
          · rw [u1223.out] at q1247z; exact absurd q1247z (by omega)
          · rw [u1223.out] at q1247z; exact absurd q1247z (by omega)
        · refine e_Ok.nrm (q := 33) (st' := [(0, 0), (1, 275)]) rfl rfl ?_
          clear q1243n
          refine e_Ok.callV rfl (Nat.le_trans (by decide) hdq) rfl rfl rfl rfl (c_334 (Nat.le_trans (by decide) hdq) c1226.1 c1226.2.1 c1226.2.2.1 hNr c1226.2.2.2.1 (by decide)) (fun r1333 w1334 h1335 => ?_)
          obtain ⟨rfl, q1336⟩ := h1335
          obtain ⟨rfl, q1336z⟩ | ⟨q1336z, q1336b, q1336, q1336s, q1336t⟩ | ⟨q1336z, q1336b, q1336, q1336T, q1336H, q1336r⟩ := q1336
          · refine e_Ok.nrm (q := 36) (st' := []) rfl rfl ?_
            rw [u1223.out] at q1336z
            refine e_Ok.run (t' := (40, [(0, (1, 275))], [(0, 0), (0, 47), (1, 275)], w1210)) 3 rfl ?_
            refine e_Ok.callV rfl (Nat.le_trans (by decide) hdq) rfl rfl rfl rfl (c_336 c1226.1 (n := w 275 78 + 1) u1213.out (by omega) (s := w 275 81) u1216.out (by omega)) (fun r1337 w1338 h1339 => ?_)
            obtain ⟨rfl, q1340⟩ := h1339
            replace q1340 := (show Hid (EM w1210 w1338 (w 275 78 + 1) 47 (0) (w 275 81)) from q1340)
            have u1341 : Hid (w1338 275 78 = w 275 78 + 2) := Hid.mk (Eq.trans q1340.out.2.2.2.2 (by omega))
            have c1354 := cSt.em c1226 q1340.out (by decide) (by omega) (by omega)
            refine e_Ok.nrm (q := 43) (st' := [(0, w 275 78 + 1)]) rfl rfl ?_
            refine e_Ok.run (t' := (45, [(1, (0, w 275 78 + 1)), (0, (1, 275))], [(1, 275)], w1338)) 2 rfl ?_
            refine e_Ok.callV rfl (Nat.le_trans (by decide) hdq) rfl rfl rfl rfl (c_348_0 (Nat.le_trans (by decide) hdq) c1354 (by rw [(show Hid (w1338 275 88 = w5 275 88) from Hid.mk (Eq.trans (q1340.out.fld (by decide)) u1223.out)).out] <;> omega)) (fun r1355 w1356 h1357 => ?_)
            obtain ⟨rfl, rfl⟩ := h1357
            refine e_Ok.nrm (q := 48) (st' := []) rfl rfl ?_
            refine e_Ok.ps1 (x := (1, 275)) (q := 49) 1 rfl ?_
            refine e_Ok.getf (z := w5 275 88) rfl (el_o rfl) rfl (ef_o rfl) (show Hid (w1338 275 88 = w5 275 88) from Hid.mk (Eq.trans (q1340.out.fld (by decide)) u1223.out)).out (by omega) ?_
            refine e_Ok.if1 rfl (fun h1358 => ?_) (fun h1358 => ?_)
            · replace h1358 : (w5 275 88 : Int) ≠ 0 := h1358
              refine e_Ok.ps2 (x := (0, w 275 78 + 1)) (y := (1, 275)) (q := 105) 2 rfl ?_
              refine e_Ok.callV rfl (Nat.le_trans (by decide) hdq) rfl rfl rfl rfl (c_337 c1354.1 (n := w 275 78 + 2) u1341.out (by omega) (by omega)) (fun r1359 w1360 h1361 => ?_)
              obtain ⟨rfl, q1362⟩ := h1361
              have f1363 : e_fr (mStm (w 275 78) (w 275 79) (w 275 80) (w 275 94)) w w1360 := e_fr.up (show e_fr (mStm (w 275 78) (w 275 79) (w 275 80) (w 275 94)) w w1338 from e_fr.trans f1225 (q1340.out.st (by omega))) q1362 (by unfold mStm; omega)
              have u1374 : Hid (w1360 275 88 = w5 275 88) := Hid.upn q1362 (Or.inl (by decide)) (show Hid (w1338 275 88 = w5 275 88) from Hid.mk (Eq.trans (q1340.out.fld (by decide)) u1223.out))
              have c1376 := cSt.wr c1354 q1362 (Or.inl rfl) (by omega) rfl (fun y => absurd y (by decide))
              refine e_Ok.nrm (q := 108) (st' := []) rfl rfl ?_
              refine e_Ok.ps3 (x := (0, 2)) (y := (1, 275)) (z := (1, 275)) (q := 111) 3 rfl ?_
              refine e_Ok.callV rfl (Nat.le_trans (by decide) hdq) rfl rfl rfl rfl (c_332 c1376.1 (N := N) c1376.2.2.2.1) (fun r1377 w1378 h1379 => ?_)
              obtain ⟨z1380, rfl, rfl, q1381⟩ := h1379
              obtain ⟨rfl, q1381, q1381b⟩ | ⟨rfl, q1381n⟩ := q1381
              · refine e_Ok.nrm (q := 114) (st' := [(0, 1), (1, 275)]) rfl rfl ?_
                rw [(Hid.upn q1362 (Or.inl (by decide)) (show Hid (w1338 275 84 = w 275 84) from Hid.mk (Eq.trans (q1340.out.fld (by decide)) u1219.out))).out] at q1381
                rw [(Hid.upn q1362 (Or.inl (by decide)) (show Hid (w1338 275 85 = w 275 85) from Hid.mk (Eq.trans (q1340.out.fld (by decide)) u1220.out))).out] at q1381b
                refine e_Ok.callV rfl (Nat.le_trans (by decide) hdq) rfl rfl rfl rfl (c_334 (Nat.le_trans (by decide) hdq) c1376.1 c1376.2.1 c1376.2.2.1 hNr c1376.2.2.2.1 (by decide)) (fun r1382 w1383 h1384 => ?_)
                obtain ⟨rfl, q1385⟩ := h1384
                obtain ⟨rfl, q1385z⟩ | ⟨q1385z, q1385b, q1385, q1385s, q1385t⟩ | ⟨q1385z, q1385b, q1385, q1385T, q1385H, q1385r⟩ := q1385
                · show e_Ok 20 elay ecode eI (d + 1) 350 (117, [(1, (0, w 275 78 + 1)), (0, (1, 275))], [], w1360) _
                  rw [u1374.out] at q1385z
                  refine e_Ok.run (t' := (119, [(1, (0, w 275 78 + 1)), (0, (1, 275))], [(1, 275), (1, 275)], w1360)) 2 rfl ?_
                  refine e_Ok.getf (z := w 275 83 + 1) rfl (el_o rfl) rfl (ef_o rfl) (Hid.upn q1362 (Or.inl (by decide)) (show Hid (w1338 275 83 = w 275 83 + 1) from Hid.mk (Eq.trans (q1340.out.fld (by decide)) u1218.out))).out (by omega) ?_
                  refine e_Ok.ps1 (x := (0, 1)) (q := 123) 1 rfl ?_
                  refine e_Ok.sub' (z := w 275 83) rfl (by omega) (by omega) ?_
                  refine e_Ok.putf rfl (el_o rfl) rfl (ef_o rfl) ?_
                  generalize hw1386 : e_up w1360 275 83 (w 275 83) = w1386
                  have e1388 := up83 hw1386
                  replace e1388 := (show Hid _ from e1388)
                  refine e_Ok.rets rfl rfl ?_
                  exact ⟨rfl, (show e_fr (mStm (w 275 78) (w 275 79) (w 275 80) (w 275 94)) w w1386 from e_fr.up f1363 hw1386 (by first | exact Or.inr (Or.inr (Or.inr (Or.inr ⟨rfl, Or.inl ⟨(by decide), (by decide)⟩⟩))) | (unfold mStm; omega))), (cSt.up c1376 hw1386), (by unfold stL; rw [(show Hid (w1386 275 78 = w 275 78 + 2) from Hid.mk (Eq.trans (e1388.out.1 275 78 (by decide)) (Hid.upn q1362 (Or.inl (by decide)) u1341).out)).out, (show Hid (w1386 275 79 = w 275 79) from Hid.mk (Eq.trans (e1388.out.1 275 79 (by decide)) (Hid.upn q1362 (Or.inl (by decide)) (show Hid (w1338 275 79 = w 275 79) from Hid.mk (Eq.trans (q1340.out.fld (by decide)) u1214.out))).out)).out, (show Hid (w1386 275 80 = w 275 80) from Hid.mk (Eq.trans (e1388.out.1 275 80 (by decide)) (Hid.upn q1362 (Or.inl (by decide)) (show Hid (w1338 275 80 = w 275 80) from Hid.mk (Eq.trans (q1340.out.fld (by decide)) u1215.out))).out)).out, (show Hid (w1386 275 81 = w 275 81) from Hid.mk (Eq.trans (e1388.out.1 275 81 (by decide)) (Hid.upn q1362 (Or.inl (by decide)) (show Hid (w1338 275 81 = w 275 81) from Hid.mk (Eq.trans (q1340.out.fld (by decide)) u1216.out))).out)).out, (show Hid (w1386 275 82 = w 275 82) from Hid.mk (Eq.trans (e1388.out.1 275 82 (by decide)) (Hid.upn q1362 (Or.inl (by decide)) (show Hid (w1338 275 82 = w 275 82) from Hid.mk (Eq.trans (q1340.out.fld (by decide)) u1217.out))).out)).out, (show Hid (w1386 275 83 = w 275 83) from Hid.mk (e1388.out.2)).out, (show Hid (w1386 275 86 = w 275 86) from Hid.mk (Eq.trans (e1388.out.1 275 86 (by decide)) (Hid.upn q1362 (Or.inl (by decide)) (show Hid (w1338 275 86 = w 275 86) from Hid.mk (Eq.trans (q1340.out.fld (by decide)) u1221.out))).out)).out, (show Hid (w1386 275 88 = w5 275 88) from Hid.mk (Eq.trans (e1388.out.1 275 88 (by decide)) u1374.out)).out, (show Hid (w1386 275 94 = w 275 94) from Hid.mk (Eq.trans (e1388.out.1 275 94 (by decide)) (Hid.upn q1362 (Or.inl (by decide)) (show Hid (w1338 275 94 = w 275 94) from Hid.mk (Eq.trans (q1340.out.fld (by decide)) u1224.out))).out)).out]; omega), (fun z => by rw [(show Hid (w1386 275 88 = w5 275 88) from Hid.mk (Eq.trans (e1388.out.1 275 88 (by decide)) u1374.out)).out] at z; exact absurd z (by omega))⟩
                · rw [u1374.out] at q1385z; exact absurd q1385z (by omega)
                · rw [u1374.out] at q1385z; exact absurd q1385z (by omega)
              · refine e_Ok.nrm (q := 114) (st' := [(0, 0), (1, 275)]) rfl rfl ?_
                clear q1381n
                refine e_Ok.callV rfl (Nat.le_trans (by decide) hdq) rfl rfl rfl rfl (c_334 (Nat.le_trans (by decide) hdq) c1376.1 c1376.2.1 c1376.2.2.1 hNr c1376.2.2.2.1 (by decide)) (fun r1402 w1403 h1404 => ?_)
                obtain ⟨rfl, q1405⟩ := h1404
                obtain ⟨rfl, q1405z⟩ | ⟨q1405z, q1405b, q1405, q1405s, q1405t⟩ | ⟨q1405z, q1405b, q1405, q1405T, q1405H, q1405r⟩ := q1405
                · refine e_Ok.nrm (q := 117) (st' := []) rfl rfl ?_
                  rw [u1374.out] at q1405z
                  refine e_Ok.run (t' := (119, [(1, (0, w 275 78 + 1)), (0, (1, 275))], [(1, 275), (1, 275)], w1360)) 2 rfl ?_
                  refine e_Ok.getf (z := w 275 83 + 1) rfl (el_o rfl) rfl (ef_o rfl) (Hid.upn q1362 (Or.inl (by decide)) (show Hid (w1338 275 83 = w 275 83 + 1) from Hid.mk (Eq.trans (q1340.out.fld (by decide)) u1218.out))).out (by omega) ?_
                  refine e_Ok.ps1 (x := (0, 1)) (q := 123) 1 rfl ?_
                  refine e_Ok.sub' (z := w 275 83) rfl (by omega) (by omega) ?_
                  refine e_Ok.putf rfl (el_o rfl) rfl (ef_o rfl) ?_
                  generalize hw1406 : e_up w1360 275 83 (w 275 83) = w1406
                  have e1408 := up83 hw1406
                  replace e1408 := (show Hid _ from e1408)
                  refine e_Ok.rets rfl rfl ?_
                  exact ⟨rfl, (show e_fr (mStm (w 275 78) (w 275 79) (w 275 80) (w 275 94)) w w1406 from e_fr.up f1363 hw1406 (by first | exact Or.inr (Or.inr (Or.inr (Or.inr ⟨rfl, Or.inl ⟨(by decide), (by decide)⟩⟩))) | (unfold mStm; omega))), (cSt.up c1376 hw1406), (by unfold stL; rw [(show Hid (w1406 275 78 = w 275 78 + 2) from Hid.mk (Eq.trans (e1408.out.1 275 78 (by decide)) (Hid.upn q1362 (Or.inl (by decide)) u1341).out)).out, (show Hid (w1406 275 79 = w 275 79) from Hid.mk (Eq.trans (e1408.out.1 275 79 (by decide)) (Hid.upn q1362 (Or.inl (by decide)) (show Hid (w1338 275 79 = w 275 79) from Hid.mk (Eq.trans (q1340.out.fld (by decide)) u1214.out))).out)).out, (show Hid (w1406 275 80 = w 275 80) from Hid.mk (Eq.trans (e1408.out.1 275 80 (by decide)) (Hid.upn q1362 (Or.inl (by decide)) (show Hid (w1338 275 80 = w 275 80) from Hid.mk (Eq.trans (q1340.out.fld (by decide)) u1215.out))).out)).out, (show Hid (w1406 275 81 = w 275 81) from Hid.mk (Eq.trans (e1408.out.1 275 81 (by decide)) (Hid.upn q1362 (Or.inl (by decide)) (show Hid (w1338 275 81 = w 275 81) from Hid.mk (Eq.trans (q1340.out.fld (by decide)) u1216.out))).out)).out, (show Hid (w1406 275 82 = w 275 82) from Hid.mk (Eq.trans (e1408.out.1 275 82 (by decide)) (Hid.upn q1362 (Or.inl (by decide)) (show Hid (w1338 275 82 = w 275 82) from Hid.mk (Eq.trans (q1340.out.fld (by decide)) u1217.out))).out)).out, (show Hid (w1406 275 83 = w 275 83) from Hid.mk (e1408.out.2)).out, (show Hid (w1406 275 86 = w 275 86) from Hid.mk (Eq.trans (e1408.out.1 275 86 (by decide)) (Hid.upn q1362 (Or.inl (by decide)) (show Hid (w1338 275 86 = w 275 86) from Hid.mk (Eq.trans (q1340.out.fld (by decide)) u1221.out))).out)).out, (show Hid (w1406 275 88 = w5 275 88) from Hid.mk (Eq.trans (e1408.out.1 275 88 (by decide)) u1374.out)).out, (show Hid (w1406 275 94 = w 275 94) from Hid.mk (Eq.trans (e1408.out.1 275 94 (by decide)) (Hid.upn q1362 (Or.inl (by decide)) (show Hid (w1338 275 94 = w 275 94) from Hid.mk (Eq.trans (q1340.out.fld (by decide)) u1224.out))).out)).out]; omega), (fun z => by rw [(show Hid (w1406 275 88 = w5 275 88) from Hid.mk (Eq.trans (e1408.out.1 275 88 (by decide)) u1374.out)).out] at z; exact absurd z (by omega))⟩
                · rw [u1374.out] at q1405z; exact absurd q1405z (by omega)
                · rw [u1374.out] at q1405z; exact absurd q1405z (by omega)
            · replace h1358 : (w5 275 88 : Int) = 0 := Classical.not_not.mp (show ¬ ((w5 275 88 : Int) ≠ 0) from h1358)
              exfalso; omega
          · rw [u1223.out] at q1336z; exact absurd q1336z (by omega)
          · rw [u1223.out] at q1336z; exact absurd q1336z (by omega)
      · rw [u1223.out] at q1235z; exact absurd q1235z (by omega)
      · rw [u1223.out] at q1235z; exact absurd q1235z (by omega)
    · refine e_Ok.nrm (q := 19) (st' := [(0, 0), (1, 275)]) rfl rfl ?_
      clear q1231n
      refine e_Ok.callV rfl (Nat.le_trans (by decide) hdq) rfl rfl rfl rfl (c_334 (Nat.le_trans (by decide) hdq) c1226.1 c1226.2.1 c1226.2.2.1 hNr c1226.2.2.2.1 (by decide)) (fun r1422 w1423 h1424 => ?_)
      obtain ⟨rfl, q1425⟩ := h1424
      obtain ⟨rfl, q1425z⟩ | ⟨q1425z, q1425b, q1425, q1425s, q1425t⟩ | ⟨q1425z, q1425b, q1425, q1425T, q1425H, q1425r⟩ := q1425
      · refine e_Ok.nrm (q := 22) (st' := []) rfl rfl ?_
        rw [u1223.out] at q1425z
        refine e_Ok.run (t' := (23, [(0, (1, 275))], [(1, 275)], w1210)) 1 rfl ?_
        refine e_Ok.callV rfl (Nat.le_trans (by decide) hdq) rfl rfl rfl rfl (c_339_0 (Nat.le_trans (by decide) hdq) c1226 (by rw [u1223.out] <;> omega)) (fun r1426 w1427 h1428 => ?_)
        obtain ⟨rfl, rfl⟩ := h1428
        refine e_Ok.nrm (q := 26) (st' := []) rfl rfl ?_
        refine e_Ok.ps3 (x := (0, 58)) (y := (1, 275)) (z := (1, 275)) (q := 30) 3 rfl ?_
        refine e_Ok.callV rfl (Nat.le_trans (by decide) hdq) rfl rfl rfl rfl (c_331 c1226.1 (N := N) c1226.2.2.2.1) (fun r1429 w1430 h1431 => ?_)
        obtain ⟨z1432, rfl, rfl, q1433⟩ := h1431
        obtain ⟨rfl, q1433, q1433b⟩ | ⟨rfl, q1433n⟩ := q1433
        · refine e_Ok.nrm (q := 33) (st' := [(0, 1), (1, 275)]) rfl rfl ?_
          rw [u1219.out] at q1433
          rw [u1220.out] at q1433b
          refine e_Ok.callV rfl (Nat.le_trans (by decide) hdq) rfl rfl rfl rfl (c_334 (Nat.le_trans (by decide) hdq) c1226.1 c1226.2.1 c1226.2.2.1 hNr c1226.2.2.2.1 (by decide)) (fun r1434 w1435 h1436 => ?_)
          obtain ⟨rfl, q1437⟩ := h1436
          obtain ⟨rfl, q1437z⟩ | ⟨q1437z, q1437b, q1437, q1437s, q1437t⟩ | ⟨q1437z, q1437b, q1437, q1437T, q1437H, q1437r⟩ := q1437
          · show e_Ok 20 elay ecode eI (d + 1) 350 (36, [(0, (1, 275))], [], w1210) _
            rw [u1223.out] at q1437z
            refine e_Ok.run (t' := (40, [(0, (1, 275))], [(0, 0), (0, 47), (1, 275)], w1210)) 3 rfl ?_
            refine e_Ok.callV rfl (Nat.le_trans (by decide) hdq) rfl rfl rfl rfl (c_336 c1226.1 (n := w 275 78 + 1) u1213.out (by omega) (s := w 275 81) u1216.out (by omega)) (fun r1438 w1439 h1440 => ?_)
            obtain ⟨rfl, q1441⟩ := h1440
            replace q1441 := (show Hid (EM w1210 w1439 (w 275 78 + 1) 47 (0) (w 275 81)) from q1441)
            have u1442 : Hid (w1439 275 78 = w 275 78 + 2) := Hid.mk (Eq.trans q1441.out.2.2.2.2 (by omega))
            have c1455 := cSt.em c1226 q1441.out (by decide) (by omega) (by omega)
            refine e_Ok.nrm (q := 43) (st' := [(0, w 275 78 + 1)]) rfl rfl ?_
            refine e_Ok.run (t' := (45, [(1, (0, w 275 78 + 1)), (0, (1, 275))], [(1, 275)], w1439)) 2 rfl ?_
            refine e_Ok.callV rfl (Nat.le_trans (by decide) hdq) rfl rfl rfl rfl (c_348_0 (Nat.le_trans (by decide) hdq) c1455 (by rw [(show Hid (w1439 275 88 = w5 275 88) from Hid.mk (Eq.trans (q1441.out.fld (by decide)) u1223.out)).out] <;> omega)) (fun r1456 w1457 h1458 => ?_)
            obtain ⟨rfl, rfl⟩ := h1458
            refine e_Ok.nrm (q := 48) (st' := []) rfl rfl ?_
            refine e_Ok.ps1 (x := (1, 275)) (q := 49) 1 rfl ?_
            refine e_Ok.getf (z := w5 275 88) rfl (el_o rfl) rfl (ef_o rfl) (show Hid (w1439 275 88 = w5 275 88) from Hid.mk (Eq.trans (q1441.out.fld (by decide)) u1223.out)).out (by omega) ?_
            refine e_Ok.if1 rfl (fun h1459 => ?_) (fun h1459 => ?_)
            · replace h1459 : (w5 275 88 : Int) ≠ 0 := h1459
              refine e_Ok.ps2 (x := (0, w 275 78 + 1)) (y := (1, 275)) (q := 105) 2 rfl ?_
              refine e_Ok.callV rfl (Nat.le_trans (by decide) hdq) rfl rfl rfl rfl (c_337 c1455.1 (n := w 275 78 + 2) u1442.out (by omega) (by omega)) (fun r1460 w1461 h1462 => ?_)
              obtain ⟨rfl, q1463⟩ := h1462
              have f1464 : e_fr (mStm (w 275 78) (w 275 79) (w 275 80) (w 275 94)) w w1461 := e_fr.up (show e_fr (mStm (w 275 78) (w 275 79) (w 275 80) (w 275 94)) w w1439 from e_fr.trans f1225 (q1441.out.st (by omega))) q1463 (by unfold mStm; omega)
              have u1475 : Hid (w1461 275 88 = w5 275 88) := Hid.upn q1463 (Or.inl (by decide)) (show Hid (w1439 275 88 = w5 275 88) from Hid.mk (Eq.trans (q1441.out.fld (by decide)) u1223.out))
              have c1477 := cSt.wr c1455 q1463 (Or.inl rfl) (by omega) rfl (fun y => absurd y (by decide))
              refine e_Ok.nrm (q := 108) (st' := []) rfl rfl ?_
              refine e_Ok.ps3 (x := (0, 2)) (y := (1, 275)) (z := (1, 275)) (q := 111) 3 rfl ?_
              refine e_Ok.callV rfl (Nat.le_trans (by decide) hdq) rfl rfl rfl rfl (c_332 c1477.1 (N := N) c1477.2.2.2.1) (fun r1478 w1479 h1480 => ?_)
              obtain ⟨z1481, rfl, rfl, q1482⟩ := h1480
              obtain ⟨rfl, q1482, q1482b⟩ | ⟨rfl, q1482n⟩ := q1482
              · refine e_Ok.nrm (q := 114) (st' := [(0, 1), (1, 275)]) rfl rfl ?_
                rw [(Hid.upn q1463 (Or.inl (by decide)) (show Hid (w1439 275 84 = w 275 84) from Hid.mk (Eq.trans (q1441.out.fld (by decide)) u1219.out))).out] at q1482
                rw [(Hid.upn q1463 (Or.inl (by decide)) (show Hid (w1439 275 85 = w 275 85) from Hid.mk (Eq.trans (q1441.out.fld (by decide)) u1220.out))).out] at q1482b
                refine e_Ok.callV rfl (Nat.le_trans (by decide) hdq) rfl rfl rfl rfl (c_334 (Nat.le_trans (by decide) hdq) c1477.1 c1477.2.1 c1477.2.2.1 hNr c1477.2.2.2.1 (by decide)) (fun r1483 w1484 h1485 => ?_)
                obtain ⟨rfl, q1486⟩ := h1485
                obtain ⟨rfl, q1486z⟩ | ⟨q1486z, q1486b, q1486, q1486s, q1486t⟩ | ⟨q1486z, q1486b, q1486, q1486T, q1486H, q1486r⟩ := q1486
                · show e_Ok 20 elay ecode eI (d + 1) 350 (117, [(1, (0, w 275 78 + 1)), (0, (1, 275))], [], w1461) _
                  rw [u1475.out] at q1486z
                  refine e_Ok.run (t' := (119, [(1, (0, w 275 78 + 1)), (0, (1, 275))], [(1, 275), (1, 275)], w1461)) 2 rfl ?_
                  refine e_Ok.getf (z := w 275 83 + 1) rfl (el_o rfl) rfl (ef_o rfl) (Hid.upn q1463 (Or.inl (by decide)) (show Hid (w1439 275 83 = w 275 83 + 1) from Hid.mk (Eq.trans (q1441.out.fld (by decide)) u1218.out))).out (by omega) ?_
                  refine e_Ok.ps1 (x := (0, 1)) (q := 123) 1 rfl ?_
                  refine e_Ok.sub' (z := w 275 83) rfl (by omega) (by omega) ?_
                  refine e_Ok.putf rfl (el_o rfl) rfl (ef_o rfl) ?_
                  generalize hw1487 : e_up w1461 275 83 (w 275 83) = w1487
                  have e1489 := up83 hw1487
                  replace e1489 := (show Hid _ from e1489)
                  refine e_Ok.rets rfl rfl ?_
                  exact ⟨rfl, (show e_fr (mStm (w 275 78) (w 275 79) (w 275 80) (w 275 94)) w w1487 from e_fr.up f1464 hw1487 (by first | exact Or.inr (Or.inr (Or.inr (Or.inr ⟨rfl, Or.inl ⟨(by decide), (by decide)⟩⟩))) | (unfold mStm; omega))), (cSt.up c1477 hw1487), (by unfold stL; rw [(show Hid (w1487 275 78 = w 275 78 + 2) from Hid.mk (Eq.trans (e1489.out.1 275 78 (by decide)) (Hid.upn q1463 (Or.inl (by decide)) u1442).out)).out, (show Hid (w1487 275 79 = w 275 79) from Hid.mk (Eq.trans (e1489.out.1 275 79 (by decide)) (Hid.upn q1463 (Or.inl (by decide)) (show Hid (w1439 275 79 = w 275 79) from Hid.mk (Eq.trans (q1441.out.fld (by decide)) u1214.out))).out)).out, (show Hid (w1487 275 80 = w 275 80) from Hid.mk (Eq.trans (e1489.out.1 275 80 (by decide)) (Hid.upn q1463 (Or.inl (by decide)) (show Hid (w1439 275 80 = w 275 80) from Hid.mk (Eq.trans (q1441.out.fld (by decide)) u1215.out))).out)).out, (show Hid (w1487 275 81 = w 275 81) from Hid.mk (Eq.trans (e1489.out.1 275 81 (by decide)) (Hid.upn q1463 (Or.inl (by decide)) (show Hid (w1439 275 81 = w 275 81) from Hid.mk (Eq.trans (q1441.out.fld (by decide)) u1216.out))).out)).out, (show Hid (w1487 275 82 = w 275 82) from Hid.mk (Eq.trans (e1489.out.1 275 82 (by decide)) (Hid.upn q1463 (Or.inl (by decide)) (show Hid (w1439 275 82 = w 275 82) from Hid.mk (Eq.trans (q1441.out.fld (by decide)) u1217.out))).out)).out, (show Hid (w1487 275 83 = w 275 83) from Hid.mk (e1489.out.2)).out, (show Hid (w1487 275 86 = w 275 86) from Hid.mk (Eq.trans (e1489.out.1 275 86 (by decide)) (Hid.upn q1463 (Or.inl (by decide)) (show Hid (w1439 275 86 = w 275 86) from Hid.mk (Eq.trans (q1441.out.fld (by decide)) u1221.out))).out)).out, (show Hid (w1487 275 88 = w5 275 88) from Hid.mk (Eq.trans (e1489.out.1 275 88 (by decide)) u1475.out)).out, (show Hid (w1487 275 94 = w 275 94) from Hid.mk (Eq.trans (e1489.out.1 275 94 (by decide)) (Hid.upn q1463 (Or.inl (by decide)) (show Hid (w1439 275 94 = w 275 94) from Hid.mk (Eq.trans (q1441.out.fld (by decide)) u1224.out))).out)).out]; omega), (fun z => by rw [(show Hid (w1487 275 88 = w5 275 88) from Hid.mk (Eq.trans (e1489.out.1 275 88 (by decide)) u1475.out)).out] at z; exact absurd z (by omega))⟩
                · rw [u1475.out] at q1486z; exact absurd q1486z (by omega)
                · rw [u1475.out] at q1486z; exact absurd q1486z (by omega)
              · refine e_Ok.nrm (q := 114) (st' := [(0, 0), (1, 275)]) rfl rfl ?_
                clear q1482n
                refine e_Ok.callV rfl (Nat.le_trans (by decide) hdq) rfl rfl rfl rfl (c_334 (Nat.le_trans (by decide) hdq) c1477.1 c1477.2.1 c1477.2.2.1 hNr c1477.2.2.2.1 (by decide)) (fun r1503 w1504 h1505 => ?_)
                obtain ⟨rfl, q1506⟩ := h1505
                obtain ⟨rfl, q1506z⟩ | ⟨q1506z, q1506b, q1506, q1506s, q1506t⟩ | ⟨q1506z, q1506b, q1506, q1506T, q1506H, q1506r⟩ := q1506
                · refine e_Ok.nrm (q := 117) (st' := []) rfl rfl ?_
                  rw [u1475.out] at q1506z
                  refine e_Ok.run (t' := (119, [(1, (0, w 275 78 + 1)), (0, (1, 275))], [(1, 275), (1, 275)], w1461)) 2 rfl ?_
                  refine e_Ok.getf (z := w 275 83 + 1) rfl (el_o rfl) rfl (ef_o rfl) (Hid.upn q1463 (Or.inl (by decide)) (show Hid (w1439 275 83 = w 275 83 + 1) from Hid.mk (Eq.trans (q1441.out.fld (by decide)) u1218.out))).out (by omega) ?_
                  refine e_Ok.ps1 (x := (0, 1)) (q := 123) 1 rfl ?_
                  refine e_Ok.sub' (z := w 275 83) rfl (by omega) (by omega) ?_
                  refine e_Ok.putf rfl (el_o rfl) rfl (ef_o rfl) ?_
                  generalize hw1507 : e_up w1461 275 83 (w 275 83) = w1507
                  have e1509 := up83 hw1507
                  replace e1509 := (show Hid _ from e1509)
                  refine e_Ok.rets rfl rfl ?_
                  exact ⟨rfl, (show e_fr (mStm (w 275 78) (w 275 79) (w 275 80) (w 275 94)) w w1507 from e_fr.up f1464 hw1507 (by first | exact Or.inr (Or.inr (Or.inr (Or.inr ⟨rfl, Or.inl ⟨(by decide), (by decide)⟩⟩))) | (unfold mStm; omega))), (cSt.up c1477 hw1507), (by unfold stL; rw [(show Hid (w1507 275 78 = w 275 78 + 2) from Hid.mk (Eq.trans (e1509.out.1 275 78 (by decide)) (Hid.upn q1463 (Or.inl (by decide)) u1442).out)).out, (show Hid (w1507 275 79 = w 275 79) from Hid.mk (Eq.trans (e1509.out.1 275 79 (by decide)) (Hid.upn q1463 (Or.inl (by decide)) (show Hid (w1439 275 79 = w 275 79) from Hid.mk (Eq.trans (q1441.out.fld (by decide)) u1214.out))).out)).out, (show Hid (w1507 275 80 = w 275 80) from Hid.mk (Eq.trans (e1509.out.1 275 80 (by decide)) (Hid.upn q1463 (Or.inl (by decide)) (show Hid (w1439 275 80 = w 275 80) from Hid.mk (Eq.trans (q1441.out.fld (by decide)) u1215.out))).out)).out, (show Hid (w1507 275 81 = w 275 81) from Hid.mk (Eq.trans (e1509.out.1 275 81 (by decide)) (Hid.upn q1463 (Or.inl (by decide)) (show Hid (w1439 275 81 = w 275 81) from Hid.mk (Eq.trans (q1441.out.fld (by decide)) u1216.out))).out)).out, (show Hid (w1507 275 82 = w 275 82) from Hid.mk (Eq.trans (e1509.out.1 275 82 (by decide)) (Hid.upn q1463 (Or.inl (by decide)) (show Hid (w1439 275 82 = w 275 82) from Hid.mk (Eq.trans (q1441.out.fld (by decide)) u1217.out))).out)).out, (show Hid (w1507 275 83 = w 275 83) from Hid.mk (e1509.out.2)).out, (show Hid (w1507 275 86 = w 275 86) from Hid.mk (Eq.trans (e1509.out.1 275 86 (by decide)) (Hid.upn q1463 (Or.inl (by decide)) (show Hid (w1439 275 86 = w 275 86) from Hid.mk (Eq.trans (q1441.out.fld (by decide)) u1221.out))).out)).out, (show Hid (w1507 275 88 = w5 275 88) from Hid.mk (Eq.trans (e1509.out.1 275 88 (by decide)) u1475.out)).out, (show Hid (w1507 275 94 = w 275 94) from Hid.mk (Eq.trans (e1509.out.1 275 94 (by decide)) (Hid.upn q1463 (Or.inl (by decide)) (show Hid (w1439 275 94 = w 275 94) from Hid.mk (Eq.trans (q1441.out.fld (by decide)) u1224.out))).out)).out]; omega), (fun z => by rw [(show Hid (w1507 275 88 = w5 275 88) from Hid.mk (Eq.trans (e1509.out.1 275 88 (by decide)) u1475.out)).out] at z; exact absurd z (by omega))⟩
                · rw [u1475.out] at q1506z; exact absurd q1506z (by omega)
                · rw [u1475.out] at q1506z; exact absurd q1506z (by omega)
            · replace h1459 : (w5 275 88 : Int) = 0 := Classical.not_not.mp (show ¬ ((w5 275 88 : Int) ≠ 0) from h1459)
              exfalso; omega
          · rw [u1223.out] at q1437z; exact absurd q1437z (by omega)
          · rw [u1223.out] at q1437z; exact absurd q1437z (by omega)
        · refine e_Ok.nrm (q := 33) (st' := [(0, 0), (1, 275)]) rfl rfl ?_
          clear q1433n
          refine e_Ok.callV rfl (Nat.le_trans (by decide) hdq) rfl rfl rfl rfl (c_334 (Nat.le_trans (by decide) hdq) c1226.1 c1226.2.1 c1226.2.2.1 hNr c1226.2.2.2.1 (by decide)) (fun r1523 w1524 h1525 => ?_)
          obtain ⟨rfl, q1526⟩ := h1525
          obtain ⟨rfl, q1526z⟩ | ⟨q1526z, q1526b, q1526, q1526s, q1526t⟩ | ⟨q1526z, q1526b, q1526, q1526T, q1526H, q1526r⟩ := q1526
          · refine e_Ok.nrm (q := 36) (st' := []) rfl rfl ?_
            rw [u1223.out] at q1526z
            refine e_Ok.run (t' := (40, [(0, (1, 275))], [(0, 0), (0, 47), (1, 275)], w1210)) 3 rfl ?_
            refine e_Ok.callV rfl (Nat.le_trans (by decide) hdq) rfl rfl rfl rfl (c_336 c1226.1 (n := w 275 78 + 1) u1213.out (by omega) (s := w 275 81) u1216.out (by omega)) (fun r1527 w1528 h1529 => ?_)
            obtain ⟨rfl, q1530⟩ := h1529
            replace q1530 := (show Hid (EM w1210 w1528 (w 275 78 + 1) 47 (0) (w 275 81)) from q1530)
            have u1531 : Hid (w1528 275 78 = w 275 78 + 2) := Hid.mk (Eq.trans q1530.out.2.2.2.2 (by omega))
            have c1544 := cSt.em c1226 q1530.out (by decide) (by omega) (by omega)
            refine e_Ok.nrm (q := 43) (st' := [(0, w 275 78 + 1)]) rfl rfl ?_
            refine e_Ok.run (t' := (45, [(1, (0, w 275 78 + 1)), (0, (1, 275))], [(1, 275)], w1528)) 2 rfl ?_
            refine e_Ok.callV rfl (Nat.le_trans (by decide) hdq) rfl rfl rfl rfl (c_348_0 (Nat.le_trans (by decide) hdq) c1544 (by rw [(show Hid (w1528 275 88 = w5 275 88) from Hid.mk (Eq.trans (q1530.out.fld (by decide)) u1223.out)).out] <;> omega)) (fun r1545 w1546 h1547 => ?_)
            obtain ⟨rfl, rfl⟩ := h1547
            refine e_Ok.nrm (q := 48) (st' := []) rfl rfl ?_
            refine e_Ok.ps1 (x := (1, 275)) (q := 49) 1 rfl ?_
            refine e_Ok.getf (z := w5 275 88) rfl (el_o rfl) rfl (ef_o rfl) (show Hid (w1528 275 88 = w5 275 88) from Hid.mk (Eq.trans (q1530.out.fld (by decide)) u1223.out)).out (by omega) ?_
            refine e_Ok.if1 rfl (fun h1548 => ?_) (fun h1548 => ?_)
            · replace h1548 : (w5 275 88 : Int) ≠ 0 := h1548
              refine e_Ok.ps2 (x := (0, w 275 78 + 1)) (y := (1, 275)) (q := 105) 2 rfl ?_
              refine e_Ok.callV rfl (Nat.le_trans (by decide) hdq) rfl rfl rfl rfl (c_337 c1544.1 (n := w 275 78 + 2) u1531.out (by omega) (by omega)) (fun r1549 w1550 h1551 => ?_)
              obtain ⟨rfl, q1552⟩ := h1551
              have f1553 : e_fr (mStm (w 275 78) (w 275 79) (w 275 80) (w 275 94)) w w1550 := e_fr.up (show e_fr (mStm (w 275 78) (w 275 79) (w 275 80) (w 275 94)) w w1528 from e_fr.trans f1225 (q1530.out.st (by omega))) q1552 (by unfold mStm; omega)
              have u1564 : Hid (w1550 275 88 = w5 275 88) := Hid.upn q1552 (Or.inl (by decide)) (show Hid (w1528 275 88 = w5 275 88) from Hid.mk (Eq.trans (q1530.out.fld (by decide)) u1223.out))
              have c1566 := cSt.wr c1544 q1552 (Or.inl rfl) (by omega) rfl (fun y => absurd y (by decide))
              refine e_Ok.nrm (q := 108) (st' := []) rfl rfl ?_
              refine e_Ok.ps3 (x := (0, 2)) (y := (1, 275)) (z := (1, 275)) (q := 111) 3 rfl ?_
              refine e_Ok.callV rfl (Nat.le_trans (by decide) hdq) rfl rfl rfl rfl (c_332 c1566.1 (N := N) c1566.2.2.2.1) (fun r1567 w1568 h1569 => ?_)
              obtain ⟨z1570, rfl, rfl, q1571⟩ := h1569
              obtain ⟨rfl, q1571, q1571b⟩ | ⟨rfl, q1571n⟩ := q1571
              · refine e_Ok.nrm (q := 114) (st' := [(0, 1), (1, 275)]) rfl rfl ?_
                rw [(Hid.upn q1552 (Or.inl (by decide)) (show Hid (w1528 275 84 = w 275 84) from Hid.mk (Eq.trans (q1530.out.fld (by decide)) u1219.out))).out] at q1571
                rw [(Hid.upn q1552 (Or.inl (by decide)) (show Hid (w1528 275 85 = w 275 85) from Hid.mk (Eq.trans (q1530.out.fld (by decide)) u1220.out))).out] at q1571b
                refine e_Ok.callV rfl (Nat.le_trans (by decide) hdq) rfl rfl rfl rfl (c_334 (Nat.le_trans (by decide) hdq) c1566.1 c1566.2.1 c1566.2.2.1 hNr c1566.2.2.2.1 (by decide)) (fun r1572 w1573 h1574 => ?_)
                obtain ⟨rfl, q1575⟩ := h1574
                obtain ⟨rfl, q1575z⟩ | ⟨q1575z, q1575b, q1575, q1575s, q1575t⟩ | ⟨q1575z, q1575b, q1575, q1575T, q1575H, q1575r⟩ := q1575
                · show e_Ok 20 elay ecode eI (d + 1) 350 (117, [(1, (0, w 275 78 + 1)), (0, (1, 275))], [], w1550) _
                  rw [u1564.out] at q1575z
                  refine e_Ok.run (t' := (119, [(1, (0, w 275 78 + 1)), (0, (1, 275))], [(1, 275), (1, 275)], w1550)) 2 rfl ?_
                  refine e_Ok.getf (z := w 275 83 + 1) rfl (el_o rfl) rfl (ef_o rfl) (Hid.upn q1552 (Or.inl (by decide)) (show Hid (w1528 275 83 = w 275 83 + 1) from Hid.mk (Eq.trans (q1530.out.fld (by decide)) u1218.out))).out (by omega) ?_
                  refine e_Ok.ps1 (x := (0, 1)) (q := 123) 1 rfl ?_
                  refine e_Ok.sub' (z := w 275 83) rfl (by omega) (by omega) ?_
                  refine e_Ok.putf rfl (el_o rfl) rfl (ef_o rfl) ?_
                  generalize hw1576 : e_up w1550 275 83 (w 275 83) = w1576
                  have e1578 := up83 hw1576
                  replace e1578 := (show Hid _ from e1578)
                  refine e_Ok.rets rfl rfl ?_
                  exact ⟨rfl, (show e_fr (mStm (w 275 78) (w 275 79) (w 275 80) (w 275 94)) w w1576 from e_fr.up f1553 hw1576 (by first | exact Or.inr (Or.inr (Or.inr (Or.inr ⟨rfl, Or.inl ⟨(by decide), (by decide)⟩⟩))) | (unfold mStm; omega))), (cSt.up c1566 hw1576), (by unfold stL; rw [(show Hid (w1576 275 78 = w 275 78 + 2) from Hid.mk (Eq.trans (e1578.out.1 275 78 (by decide)) (Hid.upn q1552 (Or.inl (by decide)) u1531).out)).out, (show Hid (w1576 275 79 = w 275 79) from Hid.mk (Eq.trans (e1578.out.1 275 79 (by decide)) (Hid.upn q1552 (Or.inl (by decide)) (show Hid (w1528 275 79 = w 275 79) from Hid.mk (Eq.trans (q1530.out.fld (by decide)) u1214.out))).out)).out, (show Hid (w1576 275 80 = w 275 80) from Hid.mk (Eq.trans (e1578.out.1 275 80 (by decide)) (Hid.upn q1552 (Or.inl (by decide)) (show Hid (w1528 275 80 = w 275 80) from Hid.mk (Eq.trans (q1530.out.fld (by decide)) u1215.out))).out)).out, (show Hid (w1576 275 81 = w 275 81) from Hid.mk (Eq.trans (e1578.out.1 275 81 (by decide)) (Hid.upn q1552 (Or.inl (by decide)) (show Hid (w1528 275 81 = w 275 81) from Hid.mk (Eq.trans (q1530.out.fld (by decide)) u1216.out))).out)).out, (show Hid (w1576 275 82 = w 275 82) from Hid.mk (Eq.trans (e1578.out.1 275 82 (by decide)) (Hid.upn q1552 (Or.inl (by decide)) (show Hid (w1528 275 82 = w 275 82) from Hid.mk (Eq.trans (q1530.out.fld (by decide)) u1217.out))).out)).out, (show Hid (w1576 275 83 = w 275 83) from Hid.mk (e1578.out.2)).out, (show Hid (w1576 275 86 = w 275 86) from Hid.mk (Eq.trans (e1578.out.1 275 86 (by decide)) (Hid.upn q1552 (Or.inl (by decide)) (show Hid (w1528 275 86 = w 275 86) from Hid.mk (Eq.trans (q1530.out.fld (by decide)) u1221.out))).out)).out, (show Hid (w1576 275 88 = w5 275 88) from Hid.mk (Eq.trans (e1578.out.1 275 88 (by decide)) u1564.out)).out, (show Hid (w1576 275 94 = w 275 94) from Hid.mk (Eq.trans (e1578.out.1 275 94 (by decide)) (Hid.upn q1552 (Or.inl (by decide)) (show Hid (w1528 275 94 = w 275 94) from Hid.mk (Eq.trans (q1530.out.fld (by decide)) u1224.out))).out)).out]; omega), (fun z => by rw [(show Hid (w1576 275 88 = w5 275 88) from Hid.mk (Eq.trans (e1578.out.1 275 88 (by decide)) u1564.out)).out] at z; exact absurd z (by omega))⟩
                · rw [u1564.out] at q1575z; exact absurd q1575z (by omega)
                · rw [u1564.out] at q1575z; exact absurd q1575z (by omega)
              · refine e_Ok.nrm (q := 114) (st' := [(0, 0), (1, 275)]) rfl rfl ?_
                clear q1571n
                refine e_Ok.callV rfl (Nat.le_trans (by decide) hdq) rfl rfl rfl rfl (c_334 (Nat.le_trans (by decide) hdq) c1566.1 c1566.2.1 c1566.2.2.1 hNr c1566.2.2.2.1 (by decide)) (fun r1592 w1593 h1594 => ?_)
                obtain ⟨rfl, q1595⟩ := h1594
                obtain ⟨rfl, q1595z⟩ | ⟨q1595z, q1595b, q1595, q1595s, q1595t⟩ | ⟨q1595z, q1595b, q1595, q1595T, q1595H, q1595r⟩ := q1595
                · refine e_Ok.nrm (q := 117) (st' := []) rfl rfl ?_
                  rw [u1564.out] at q1595z
                  refine e_Ok.run (t' := (119, [(1, (0, w 275 78 + 1)), (0, (1, 275))], [(1, 275), (1, 275)], w1550)) 2 rfl ?_
                  refine e_Ok.getf (z := w 275 83 + 1) rfl (el_o rfl) rfl (ef_o rfl) (Hid.upn q1552 (Or.inl (by decide)) (show Hid (w1528 275 83 = w 275 83 + 1) from Hid.mk (Eq.trans (q1530.out.fld (by decide)) u1218.out))).out (by omega) ?_
                  refine e_Ok.ps1 (x := (0, 1)) (q := 123) 1 rfl ?_
                  refine e_Ok.sub' (z := w 275 83) rfl (by omega) (by omega) ?_
                  refine e_Ok.putf rfl (el_o rfl) rfl (ef_o rfl) ?_
                  generalize hw1596 : e_up w1550 275 83 (w 275 83) = w1596
                  have e1598 := up83 hw1596
                  replace e1598 := (show Hid _ from e1598)
                  refine e_Ok.rets rfl rfl ?_
                  exact ⟨rfl, (show e_fr (mStm (w 275 78) (w 275 79) (w 275 80) (w 275 94)) w w1596 from e_fr.up f1553 hw1596 (by first | exact Or.inr (Or.inr (Or.inr (Or.inr ⟨rfl, Or.inl ⟨(by decide), (by decide)⟩⟩))) | (unfold mStm; omega))), (cSt.up c1566 hw1596), (by unfold stL; rw [(show Hid (w1596 275 78 = w 275 78 + 2) from Hid.mk (Eq.trans (e1598.out.1 275 78 (by decide)) (Hid.upn q1552 (Or.inl (by decide)) u1531).out)).out, (show Hid (w1596 275 79 = w 275 79) from Hid.mk (Eq.trans (e1598.out.1 275 79 (by decide)) (Hid.upn q1552 (Or.inl (by decide)) (show Hid (w1528 275 79 = w 275 79) from Hid.mk (Eq.trans (q1530.out.fld (by decide)) u1214.out))).out)).out, (show Hid (w1596 275 80 = w 275 80) from Hid.mk (Eq.trans (e1598.out.1 275 80 (by decide)) (Hid.upn q1552 (Or.inl (by decide)) (show Hid (w1528 275 80 = w 275 80) from Hid.mk (Eq.trans (q1530.out.fld (by decide)) u1215.out))).out)).out, (show Hid (w1596 275 81 = w 275 81) from Hid.mk (Eq.trans (e1598.out.1 275 81 (by decide)) (Hid.upn q1552 (Or.inl (by decide)) (show Hid (w1528 275 81 = w 275 81) from Hid.mk (Eq.trans (q1530.out.fld (by decide)) u1216.out))).out)).out, (show Hid (w1596 275 82 = w 275 82) from Hid.mk (Eq.trans (e1598.out.1 275 82 (by decide)) (Hid.upn q1552 (Or.inl (by decide)) (show Hid (w1528 275 82 = w 275 82) from Hid.mk (Eq.trans (q1530.out.fld (by decide)) u1217.out))).out)).out, (show Hid (w1596 275 83 = w 275 83) from Hid.mk (e1598.out.2)).out, (show Hid (w1596 275 86 = w 275 86) from Hid.mk (Eq.trans (e1598.out.1 275 86 (by decide)) (Hid.upn q1552 (Or.inl (by decide)) (show Hid (w1528 275 86 = w 275 86) from Hid.mk (Eq.trans (q1530.out.fld (by decide)) u1221.out))).out)).out, (show Hid (w1596 275 88 = w5 275 88) from Hid.mk (Eq.trans (e1598.out.1 275 88 (by decide)) u1564.out)).out, (show Hid (w1596 275 94 = w 275 94) from Hid.mk (Eq.trans (e1598.out.1 275 94 (by decide)) (Hid.upn q1552 (Or.inl (by decide)) (show Hid (w1528 275 94 = w 275 94) from Hid.mk (Eq.trans (q1530.out.fld (by decide)) u1224.out))).out)).out]; omega), (fun z => by rw [(show Hid (w1596 275 88 = w5 275 88) from Hid.mk (Eq.trans (e1598.out.1 275 88 (by decide)) u1564.out)).out] at z; exact absurd z (by omega))⟩
                · rw [u1564.out] at q1595z; exact absurd q1595z (by omega)
                · rw [u1564.out] at q1595z; exact absurd q1595z (by omega)
            · replace h1548 : (w5 275 88 : Int) = 0 := Classical.not_not.mp (show ¬ ((w5 275 88 : Int) ≠ 0) from h1548)
              exfalso; omega
          · rw [u1223.out] at q1526z; exact absurd q1526z (by omega)
          · rw [u1223.out] at q1526z; exact absurd q1526z (by omega)
      · rw [u1223.out] at q1425z; exact absurd q1425z (by omega)
      · rw [u1223.out] at q1425z; exact absurd q1425z (by omega)
end
