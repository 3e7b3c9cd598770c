noncomputable section
set_option maxHeartbeats 4000000 in
theorem c_352 {d : Nat} (hd : 309 ≤ d) {w : eW} {N o O F : Int} {P OW : Int → Prop} (hc : cSt w N) (hNr : 0 ≤ N ∧ N ≤ 4000) (h0 : w 275 88 = 0) (ho : w 275 83 = o) (hv : w 275 82 = -1 ∨ OW (w 275 82)) (hb : stB w N o) (hO : O ≤ o) (hG : GB w N (w 275 78) (w 275 94) (w 275 79) (w 275 80) P (w 275 81) OW O) (hor : 0 ≤ o ∧ o ≤ 30) (hF : 300 ≤ F ∧ F ≤ 700) (hS : o < 30 → ∀ k, d = k + 1 → stC 348 0 (o + 1) F k) : e_Ok 20 elay ecode eI d 352 (0, [(0, (1, 275))], [], w) (fun r w' => r = [] ∧ stQ w w' N P OW O 1 (F + 10)) := by
  obtain ⟨d, rfl⟩ : ∃ e, d = e + 1 := ⟨d - 1, by omega⟩
  have hdq : 308 ≤ d := by omega
  have hct := tkS.lin hc.2.2.2.1
  have hcf := e_Has.get hc.2.1 (c := 275) (k := 88) (lo := 0) (hi := 7) rfl (by decide)
  have hsb := hc.2.2.2.2
  unfold stB at hb
  have hvr : -1 ≤ w 275 82 ∧ w 275 82 ≤ 900 := by rcases hv with g | g; omega; have := hG.1.2.2.2.2.2.2.2.1 _ g; omega
  replace hv := (show Hid _ from hv)
  have hgH : Hid (w 275 88 = 0 → GB w N (w 275 78) (w 275 94) (w 275 79) (w 275 80) P (w 275 81) OW O) := Hid.mk (fun _ => hG)
  refine e_Ok.run (t' := (1, [(0, (1, 275))], [(1, 275)], w)) 1 rfl ?_
  refine e_Ok.callV rfl (Nat.le_trans (by decide) hdq) rfl rfl rfl rfl (c_335 (Nat.le_trans (by decide) hdq) hc.1 hc.2.1 hc.2.2.1 hNr hc.2.2.2.1 (o := w 275 83) rfl (by omega)) (fun r1 w2 h3 => ?_)
  obtain ⟨rfl, -, q4⟩ := h3
  obtain ⟨q4, q4n⟩ | ⟨q4z, q4n, w5, q4u, q4, q4T, q4H, q4r⟩ := q4
  · show e_Ok 20 elay ecode eI (d + 1) 352 (4, [(0, (1, 275))], [], w2) _
    have e6 := up83 q4
    replace e6 := (show Hid _ from e6)
    have u7 : Hid (w2 275 78 = w 275 78) := Hid.mk (e6.out.1 275 78 (by decide))
    have u8 : Hid (w2 275 79 = w 275 79) := Hid.mk (e6.out.1 275 79 (by decide))
    have u9 : Hid (w2 275 80 = w 275 80) := Hid.mk (e6.out.1 275 80 (by decide))
    have u10 : Hid (w2 275 81 = w 275 81) := Hid.mk (e6.out.1 275 81 (by decide))
    have u11 : Hid (w2 275 82 = w 275 82) := Hid.mk (e6.out.1 275 82 (by decide))
    have u12 : Hid (w2 275 83 = w 275 83 + 1) := Hid.mk (e6.out.2)
    have u13 : Hid (w2 275 84 = w 275 84) := Hid.mk (e6.out.1 275 84 (by decide))
    have u14 : Hid (w2 275 85 = w 275 85) := Hid.mk (e6.out.1 275 85 (by decide))
    have u15 : Hid (w2 275 86 = w 275 86) := Hid.mk (e6.out.1 275 86 (by decide))
    have u16 : Hid (w2 275 87 = w 275 87) := Hid.mk (e6.out.1 275 87 (by decide))
    have u17 : Hid (w2 275 88 = w 275 88) := Hid.mk (e6.out.1 275 88 (by decide))
    have u18 : Hid (w2 275 94 = w 275 94) := Hid.mk (e6.out.1 275 94 (by decide))
    have c19 := cSt.up hc q4
    have f20 : e_fr (mStm (w 275 78) (w 275 79) (w 275 80) (w 275 94)) w w2 := e_fr.trans (e_fr.refl w) (fun c k g => e6.out.1 c k (fun g2 => g (mU_St g2)))
    have g21 : Hid (w 275 88 = 0 → GB w2 N (w 275 78) (w 275 94) (w 275 79) (w 275 80) P (w 275 81) OW O) := Hid.mk (fun z => GB.pr (hgH.out z) (prE.up q4))
    refine e_Ok.run (t' := (8, [(0, (1, 275))], [(0, 0), (0, 30), (1, 275)], w2)) 3 rfl ?_
    refine e_Ok.callV rfl (Nat.le_trans (by decide) hdq) rfl rfl rfl rfl (c_336 c19.1 (n := w 275 78) u7.out (by omega) (s := w 275 81) u10.out (by omega)) (fun r22 w23 h24 => ?_)
    obtain ⟨rfl, q25⟩ := h24
    replace q25 := (show Hid (EM w2 w23 (w 275 78) 30 (0) (w 275 81)) from q25)
    have u26 : Hid (w23 275 78 = w 275 78 + 1) := Hid.mk (Eq.trans q25.out.2.2.2.2 (by omega))
    have u27 : Hid (w23 275 79 = w 275 79) := Hid.mk (Eq.trans (q25.out.fld (by decide)) u8.out)
    have u28 : Hid (w23 275 80 = w 275 80) := Hid.mk (Eq.trans (q25.out.fld (by decide)) u9.out)
    have u29 : Hid (w23 275 81 = w 275 81) := Hid.mk (Eq.trans (q25.out.fld (by decide)) u10.out)
    have u30 : Hid (w23 275 82 = w 275 82) := Hid.mk (Eq.trans (q25.out.fld (by decide)) u11.out)
    have u31 : Hid (w23 275 83 = w 275 83 + 1) := Hid.mk (Eq.trans (q25.out.fld (by decide)) u12.out)
    have u32 : Hid (w23 275 84 = w 275 84) := Hid.mk (Eq.trans (q25.out.fld (by decide)) u13.out)
    have u33 : Hid (w23 275 85 = w 275 85) := Hid.mk (Eq.trans (q25.out.fld (by decide)) u14.out)
    have u34 : Hid (w23 275 86 = w 275 86) := Hid.mk (Eq.trans (q25.out.fld (by decide)) u15.out)
    have u35 : Hid (w23 275 87 = w 275 87) := Hid.mk (Eq.trans (q25.out.fld (by decide)) u16.out)
    have u36 : Hid (w23 275 88 = w 275 88) := Hid.mk (Eq.trans (q25.out.fld (by decide)) u17.out)
    have u37 : Hid (w23 275 94 = w 275 94) := Hid.mk (Eq.trans (q25.out.fld (by decide)) u18.out)
    have f38 : e_fr (mStm (w 275 78) (w 275 79) (w 275 80) (w 275 94)) w w23 := e_fr.trans f20 (q25.out.st (by omega))
    have c40 := cSt.em c19 q25.out (by decide) (by omega) (by omega)
    have g41 : Hid (w 275 88 = 0 → GA w23 N (w 275 78 + 1) (w 275 94) (w 275 79) (w 275 80) P (w 275 81) OW O) := Hid.mk (fun z => (GB.beg (g21.out (by omega)) q25.out))
    have cf42 : Hid (w23 328 (w 275 78 + 40000) = 30) := Hid.mk (q25.out.2.1)
    have cf43 : Hid (w23 330 (w 275 78 + 40000) = w 275 81) := Hid.mk (q25.out.2.2.2.1)
    show e_Ok 20 elay ecode eI (d + 1) 352 (11, [(0, (1, 275))], [(0, w 275 78)], w23) _
    refine e_Ok.run (t' := (13, [(0, (1, 275))], [(1, 275)], w23)) 2 rfl ?_
    refine e_Ok.getf (z := w 275 81) rfl (el_o rfl) rfl rfl u29.out (by omega) ?_
    refine e_Ok.run (t' := (18, [(1, (0, w 275 81)), (0, (1, 275))], [(1, 275)], w23)) 2 rfl ?_
    refine e_Ok.getf (z := w 275 79) rfl (el_o rfl) rfl rfl u27.out (by omega) ?_
    refine e_Ok.run (t' := (24, [(2, (0, w 275 79)), (1, (0, w 275 81)), (0, (1, 275))], [(1, 275), (1, 275)], w23)) 3 rfl ?_
    refine e_Ok.getf (z := w 275 79) rfl (el_o rfl) rfl rfl u27.out (by omega) ?_
    refine e_Ok.run (t' := (28, [(2, (0, w 275 79)), (1, (0, w 275 81)), (0, (1, 275))], [(0, 1), (0, w 275 79), (1, 275)], w23)) 1 rfl ?_
    refine e_Ok.add (z := w 275 79 + 1) rfl (by omega) (by omega) ?_
    refine e_Ok.putf rfl (el_o rfl) rfl rfl ?_
    generalize hw44 : e_up w23 275 79 (w 275 79 + 1) = w44
    have f45 : e_fr (mStm (w 275 78) (w 275 79) (w 275 80) (w 275 94)) w w44 := e_fr.up f38 hw44 (by unfold mStm; omega)
    have u46 : Hid (w44 275 78 = w 275 78 + 1) := Hid.mk (Eq.trans (by rw [← hw44]; exact e_up_ne _ _ (Or.inr (by decide))) u26.out)
    have u47 : Hid (w44 275 79 = w 275 79 + 1) := Hid.mk (by rw [← hw44]; exact e_up_eq _ _ _ _)
    have u48 : Hid (w44 275 80 = w 275 80) := Hid.mk (Eq.trans (by rw [← hw44]; exact e_up_ne _ _ (Or.inr (by decide))) u28.out)
    have u50 : Hid (w44 275 82 = w 275 82) := Hid.mk (Eq.trans (by rw [← hw44]; exact e_up_ne _ _ (Or.inr (by decide))) u30.out)
    have u51 : Hid (w44 275 83 = w 275 83 + 1) := Hid.mk (Eq.trans (by rw [← hw44]; exact e_up_ne _ _ (Or.inr (by decide))) u31.out)
    have u52 : Hid (w44 275 84 = w 275 84) := Hid.mk (Eq.trans (by rw [← hw44]; exact e_up_ne _ _ (Or.inr (by decide))) u32.out)
    have u53 : Hid (w44 275 85 = w 275 85) := Hid.mk (Eq.trans (by rw [← hw44]; exact e_up_ne _ _ (Or.inr (by decide))) u33.out)
    have u54 : Hid (w44 275 86 = w 275 86) := Hid.mk (Eq.trans (by rw [← hw44]; exact e_up_ne _ _ (Or.inr (by decide))) u34.out)
    have u55 : Hid (w44 275 87 = w 275 87) := Hid.mk (Eq.trans (by rw [← hw44]; exact e_up_ne _ _ (Or.inr (by decide))) u35.out)
    have u56 : Hid (w44 275 88 = w 275 88) := Hid.mk (Eq.trans (by rw [← hw44]; exact e_up_ne _ _ (Or.inr (by decide))) u36.out)
    have u57 : Hid (w44 275 94 = w 275 94) := Hid.mk (Eq.trans (by rw [← hw44]; exact e_up_ne _ _ (Or.inr (by decide))) u37.out)
    have c58 := cSt.wr c40 hw44 (Or.inr rfl) (by omega) rfl (fun _ => ⟨⟨by decide, by decide⟩, fun y => absurd y (by decide)⟩)
    have cf59 : Hid (w44 328 (w 275 78 + 40000) = 30) := Hid.mk (Eq.trans (by rw [← hw44]; exact e_up_ne _ _ (Or.inl (by decide))) cf42.out)
    have cf60 : Hid (w44 330 (w 275 78 + 40000) = w 275 81) := Hid.mk (Eq.trans (by rw [← hw44]; exact e_up_ne _ _ (Or.inl (by decide))) cf43.out)
    have g61 : Hid (w 275 88 = 0 → GA w44 N (w 275 78 + 1) (w 275 94) (w 275 79) (w 275 80) P (w 275 81) OW O) := Hid.mk (fun z => GA.pr (g41.out z) (fun c k q => by rw [← hw44]; exact e_up_ne _ _ (by omega)))
    refine e_Ok.run (t' := (36, [(2, (0, w 275 79)), (1, (0, w 275 81)), (0, (1, 275))], [(0, w 275 79), (0, 3600)], w44)) 2 rfl ?_
    refine e_Ok.add (z := w 275 79 + 3600) rfl (by omega) (by omega) ?_
    refine e_Ok.run (t' := (39, [(3, (0, w 275 79 + 3600)), (2, (0, w 275 79)), (1, (0, w 275 81)), (0, (1, 275))], [(1, 275)], w44)) 2 rfl ?_
    refine e_Ok.getr (z := 331) rfl (el_o rfl) rfl rfl ((f45 275 68 (by unfold mStm; omega)).trans (e_Has.eq hc.1 rfl)) (by omega) ?_
    refine e_Ok.run (t' := (44, [(3, (0, w 275 79 + 3600)), (2, (0, w 275 79)), (1, (0, w 275 81)), (0, (1, 275))], [(0, w 275 81), (0, w 275 79 + 3600), (1, 331)], w44)) 2 rfl ?_
    refine e_Ok.ast rfl (el_o rfl) rfl rfl (by omega) ?_
    generalize hw62 : e_up w44 331 (w 275 79 + 3600) (w 275 81) = w62
    have f63 : e_fr (mStm (w 275 78) (w 275 79) (w 275 80) (w 275 94)) w w62 := e_fr.up f45 hw62 (by unfold mStm; omega)
    have u64 : Hid (w62 275 78 = w 275 78 + 1) := Hid.mk (Eq.trans (by rw [← hw62]; exact e_up_ne _ _ (Or.inl (by decide))) u46.out)
    have u65 : Hid (w62 275 79 = w 275 79 + 1) := Hid.mk (Eq.trans (by rw [← hw62]; exact e_up_ne _ _ (Or.inl (by decide))) u47.out)
    have u66 : Hid (w62 275 80 = w 275 80) := Hid.mk (Eq.trans (by rw [← hw62]; exact e_up_ne _ _ (Or.inl (by decide))) u48.out)
    have u68 : Hid (w62 275 82 = w 275 82) := Hid.mk (Eq.trans (by rw [← hw62]; exact e_up_ne _ _ (Or.inl (by decide))) u50.out)
    have u69 : Hid (w62 275 83 = w 275 83 + 1) := Hid.mk (Eq.trans (by rw [← hw62]; exact e_up_ne _ _ (Or.inl (by decide))) u51.out)
    have u70 : Hid (w62 275 84 = w 275 84) := Hid.mk (Eq.trans (by rw [← hw62]; exact e_up_ne _ _ (Or.inl (by decide))) u52.out)
    have u71 : Hid (w62 275 85 = w 275 85) := Hid.mk (Eq.trans (by rw [← hw62]; exact e_up_ne _ _ (Or.inl (by decide))) u53.out)
    have u72 : Hid (w62 275 86 = w 275 86) := Hid.mk (Eq.trans (by rw [← hw62]; exact e_up_ne _ _ (Or.inl (by decide))) u54.out)
    have u73 : Hid (w62 275 87 = w 275 87) := Hid.mk (Eq.trans (by rw [← hw62]; exact e_up_ne _ _ (Or.inl (by decide))) u55.out)
    have u74 : Hid (w62 275 88 = w 275 88) := Hid.mk (Eq.trans (by rw [← hw62]; exact e_up_ne _ _ (Or.inl (by decide))) u56.out)
    have u75 : Hid (w62 275 94 = w 275 94) := Hid.mk (Eq.trans (by rw [← hw62]; exact e_up_ne _ _ (Or.inl (by decide))) u57.out)
    have c76 := cSt.wr c58 hw62 (Or.inl rfl) (by omega) rfl (fun y => absurd y (by decide))
    have ev79 : Hid (w62 331 (w 275 79 + 3600) = w 275 81) := Hid.mk (by rw [← hw62]; exact e_up_eq _ _ _ _)
    have cf80 : Hid (w62 331 (w 275 79 + 3600) = w 275 81) := Hid.mk (ev79.out)
    refine e_Ok.run (t' := (46, [(3, (0, w 275 79 + 3600)), (2, (0, w 275 79)), (1, (0, w 275 81)), (0, (1, 275))], [(1, 275)], w62)) 1 rfl ?_
    refine e_Ok.getr (z := 332) rfl (el_o rfl) rfl rfl ((f63 275 69 (by unfold mStm; omega)).trans (e_Has.eq hc.1 rfl)) (by omega) ?_
    refine e_Ok.run (t' := (51, [(3, (0, w 275 79 + 3600)), (2, (0, w 275 79)), (1, (0, w 275 81)), (0, (1, 275))], [(0, (-1)), (0, w 275 79 + 3600), (1, 332)], w62)) 2 rfl ?_
    refine e_Ok.ast rfl (el_o rfl) rfl rfl (by omega) ?_
    generalize hw81 : e_up w62 332 (w 275 79 + 3600) (-1) = w81
    have f82 : e_fr (mStm (w 275 78) (w 275 79) (w 275 80) (w 275 94)) w w81 := e_fr.up f63 hw81 (by unfold mStm; omega)
    have u83 : Hid (w81 275 78 = w 275 78 + 1) := Hid.mk (Eq.trans (by rw [← hw81]; exact e_up_ne _ _ (Or.inl (by decide))) u64.out)
    have u84 : Hid (w81 275 79 = w 275 79 + 1) := Hid.mk (Eq.trans (by rw [← hw81]; exact e_up_ne _ _ (Or.inl (by decide))) u65.out)
    have u85 : Hid (w81 275 80 = w 275 80) := Hid.mk (Eq.trans (by rw [← hw81]; exact e_up_ne _ _ (Or.inl (by decide))) u66.out)
    have u87 : Hid (w81 275 82 = w 275 82) := Hid.mk (Eq.trans (by rw [← hw81]; exact e_up_ne _ _ (Or.inl (by decide))) u68.out)
    have u88 : Hid (w81 275 83 = w 275 83 + 1) := Hid.mk (Eq.trans (by rw [← hw81]; exact e_up_ne _ _ (Or.inl (by decide))) u69.out)
    have u89 : Hid (w81 275 84 = w 275 84) := Hid.mk (Eq.trans (by rw [← hw81]; exact e_up_ne _ _ (Or.inl (by decide))) u70.out)
    have u90 : Hid (w81 275 85 = w 275 85) := Hid.mk (Eq.trans (by rw [← hw81]; exact e_up_ne _ _ (Or.inl (by decide))) u71.out)
    have u91 : Hid (w81 275 86 = w 275 86) := Hid.mk (Eq.trans (by rw [← hw81]; exact e_up_ne _ _ (Or.inl (by decide))) u72.out)
    have u92 : Hid (w81 275 87 = w 275 87) := Hid.mk (Eq.trans (by rw [← hw81]; exact e_up_ne _ _ (Or.inl (by decide))) u73.out)
    have u93 : Hid (w81 275 88 = w 275 88) := Hid.mk (Eq.trans (by rw [← hw81]; exact e_up_ne _ _ (Or.inl (by decide))) u74.out)
    have u94 : Hid (w81 275 94 = w 275 94) := Hid.mk (Eq.trans (by rw [← hw81]; exact e_up_ne _ _ (Or.inl (by decide))) u75.out)
    have c95 := cSt.wr c76 hw81 (Or.inl rfl) (by omega) rfl (fun y => absurd y (by decide))
    have cf104 : Hid (w81 331 (w 275 79 + 3600) = w 275 81) := Hid.mk (Eq.trans (by rw [← hw81]; exact e_up_ne _ _ (Or.inl (by decide))) cf80.out)
    have ev105 : Hid (w81 332 (w 275 79 + 3600) = (-1)) := Hid.mk (by rw [← hw81]; exact e_up_eq _ _ _ _)
    have cf106 : Hid (w81 332 (w 275 79 + 3600) = (-1)) := Hid.mk (ev105.out)
    refine e_Ok.run (t' := (53, [(3, (0, w 275 79 + 3600)), (2, (0, w 275 79)), (1, (0, w 275 81)), (0, (1, 275))], [(1, 275)], w81)) 1 rfl ?_
    refine e_Ok.getr (z := 333) rfl (el_o rfl) rfl rfl ((f82 275 70 (by unfold mStm; omega)).trans (e_Has.eq hc.1 rfl)) (by omega) ?_
    refine e_Ok.run (t' := (58, [(3, (0, w 275 79 + 3600)), (2, (0, w 275 79)), (1, (0, w 275 81)), (0, (1, 275))], [(0, (-1)), (0, w 275 79 + 3600), (1, 333)], w81)) 2 rfl ?_
    refine e_Ok.ast rfl (el_o rfl) rfl rfl (by omega) ?_
    generalize hw107 : e_up w81 333 (w 275 79 + 3600) (-1) = w107
    have f108 : e_fr (mStm (w 275 78) (w 275 79) (w 275 80) (w 275 94)) w w107 := e_fr.up f82 hw107 (by unfold mStm; omega)
    have u109 : Hid (w107 275 78 = w 275 78 + 1) := Hid.mk (Eq.trans (by rw [← hw107]; exact e_up_ne _ _ (Or.inl (by decide))) u83.out)
    have u110 : Hid (w107 275 79 = w 275 79 + 1) := Hid.mk (Eq.trans (by rw [← hw107]; exact e_up_ne _ _ (Or.inl (by decide))) u84.out)
    have u111 : Hid (w107 275 80 = w 275 80) := Hid.mk (Eq.trans (by rw [← hw107]; exact e_up_ne _ _ (Or.inl (by decide))) u85.out)
    have u113 : Hid (w107 275 82 = w 275 82) := Hid.mk (Eq.trans (by rw [← hw107]; exact e_up_ne _ _ (Or.inl (by decide))) u87.out)
    have u114 : Hid (w107 275 83 = w 275 83 + 1) := Hid.mk (Eq.trans (by rw [← hw107]; exact e_up_ne _ _ (Or.inl (by decide))) u88.out)
    have u115 : Hid (w107 275 84 = w 275 84) := Hid.mk (Eq.trans (by rw [← hw107]; exact e_up_ne _ _ (Or.inl (by decide))) u89.out)
    have u116 : Hid (w107 275 85 = w 275 85) := Hid.mk (Eq.trans (by rw [← hw107]; exact e_up_ne _ _ (Or.inl (by decide))) u90.out)
    have u117 : Hid (w107 275 86 = w 275 86) := Hid.mk (Eq.trans (by rw [← hw107]; exact e_up_ne _ _ (Or.inl (by decide))) u91.out)
    have u118 : Hid (w107 275 87 = w 275 87) := Hid.mk (Eq.trans (by rw [← hw107]; exact e_up_ne _ _ (Or.inl (by decide))) u92.out)
    have u119 : Hid (w107 275 88 = w 275 88) := Hid.mk (Eq.trans (by rw [← hw107]; exact e_up_ne _ _ (Or.inl (by decide))) u93.out)
    have u120 : Hid (w107 275 94 = w 275 94) := Hid.mk (Eq.trans (by rw [← hw107]; exact e_up_ne _ _ (Or.inl (by decide))) u94.out)
    have c121 := cSt.wr c95 hw107 (Or.inl rfl) (by omega) rfl (fun y => absurd y (by decide))
    have cf124 : Hid (w107 331 (w 275 79 + 3600) = w 275 81) := Hid.mk (Eq.trans (by rw [← hw107]; exact e_up_ne _ _ (Or.inl (by decide))) cf104.out)
    have cf125 : Hid (w107 332 (w 275 79 + 3600) = (-1)) := Hid.mk (Eq.trans (by rw [← hw107]; exact e_up_ne _ _ (Or.inl (by decide))) cf106.out)
    have ev126 : Hid (w107 333 (w 275 79 + 3600) = (-1)) := Hid.mk (by rw [← hw107]; exact e_up_eq _ _ _ _)
    have cf127 : Hid (w107 333 (w 275 79 + 3600) = (-1)) := Hid.mk (ev126.out)
    have g128 : Hid (w 275 88 = 0 → GB w107 N (w 275 78 + 1) (w 275 94) (w 275 79 + 1) (w 275 80) P (3 * (w 275 79)) OW (o + 1)) := Hid.mk (fun z => (GA.tb (o' := o + 1) (g61.out (by omega)) ⟨by omega, (by rw [show w 275 78 + 1 - 1 + 40000 = w 275 78 + 40000 by omega]; exact cf59.out), (by rw [show w 275 78 + 1 - 1 + 40000 = w 275 78 + 40000 by omega]; exact Eq.trans cf60.out (by omega))⟩ ⟨Eq.trans cf124.out (by omega), cf125.out, cf127.out⟩ (fun c k y1 y2 => Eq.trans (show w107 c k = w81 c k from by rw [← hw107]; exact e_up_ne _ _ (by omega)) (Eq.trans (show w81 c k = w62 c k from by rw [← hw81]; exact e_up_ne _ _ (by omega)) ((show w62 c k = w44 c k from by rw [← hw62]; exact e_up_ne _ _ (by omega))))) (by omega)))
    refine e_Ok.run (t' := (63, [(3, (0, w 275 79 + 3600)), (2, (0, w 275 79)), (1, (0, w 275 81)), (0, (1, 275))], [(0, 21), (1, 275), (1, 275)], w107)) 3 rfl ?_
    refine e_Ok.callV rfl (Nat.le_trans (by decide) hdq) rfl rfl rfl rfl (c_332 c121.1 (N := N) c121.2.2.2.1) (fun r129 w130 h131 => ?_)
    obtain ⟨z132, rfl, rfl, q133⟩ := h131
    obtain ⟨rfl, q133, q133b⟩ | ⟨rfl, q133n⟩ := q133
    · show e_Ok 20 elay ecode eI (d + 1) 352 (66, [(3, (0, w 275 79 + 3600)), (2, (0, w 275 79)), (1, (0, w 275 81)), (0, (1, 275))], [(0, 1), (1, 275)], w107) _
      rw [u115.out] at q133
      rw [u116.out] at q133b
      refine e_Ok.callV rfl (Nat.le_trans (by decide) hdq) rfl rfl rfl rfl (c_334 (Nat.le_trans (by decide) hdq) c121.1 c121.2.1 c121.2.2.1 hNr c121.2.2.2.1 (by decide)) (fun r134 w135 h136 => ?_)
      obtain ⟨rfl, q137⟩ := h136
      obtain ⟨rfl, q137z⟩ | ⟨q137z, q137b, q137, q137s, q137t⟩ | ⟨q137z, q137b, q137, q137T, q137H, q137r⟩ := q137
      · rw [u119.out] at q137z; exact absurd q137z (by omega)
      · show e_Ok 20 elay ecode eI (d + 1) 352 (69, [(3, (0, w 275 79 + 3600)), (2, (0, w 275 79)), (1, (0, w 275 81)), (0, (1, 275))], [], w135) _
        rw [u119.out] at q137z
        rw [u118.out] at q137t
        have p138 := tkS.pos c121.2.2.2.1 (by rw [u115.out] <;> omega)
        rw [u117.out, u118.out] at p138
        have p139 := tkS.key c121.2.2.2.1 (by rw [u115.out] <;> omega)
        rw [u117.out, u118.out, u116.out] at p139
        have u140 : Hid (w135 275 78 = w 275 78 + 1) := Hid.mk (Eq.trans (q137 275 78 (mTq_fld (by decide))) u109.out)
        have u141 : Hid (w135 275 79 = w 275 79 + 1) := Hid.mk (Eq.trans (q137 275 79 (mTq_fld (by decide))) u110.out)
        have u142 : Hid (w135 275 80 = w 275 80) := Hid.mk (Eq.trans (q137 275 80 (mTq_fld (by decide))) u111.out)
        have u144 : Hid (w135 275 82 = w 275 82) := Hid.mk (Eq.trans (q137 275 82 (mTq_fld (by decide))) u113.out)
        have u145 : Hid (w135 275 83 = w 275 83 + 1) := Hid.mk (Eq.trans (q137 275 83 (mTq_fld (by decide))) u114.out)
        have u146 : Hid (w135 275 88 = w 275 88) := Hid.mk (Eq.trans (q137 275 88 (mTq_fld (by decide))) u119.out)
        have u147 : Hid (w135 275 94 = w 275 94) := Hid.mk (Eq.trans (q137 275 94 (mTq_fld (by decide))) u120.out)
        have c148 := cSt.tk c121 q137 q137s
        have t149 := tkS.lin c148.2.2.2.1
        have f150 : e_fr (mStm (w 275 78) (w 275 79) (w 275 80) (w 275 94)) w w135 := e_fr.trans f108 (e_fr.mono q137 (fun c k g => mTq_St g))
        have g151 : Hid (w 275 88 = 0 → GB w135 N (w 275 78 + 1) (w 275 94) (w 275 79 + 1) (w 275 80) P (3 * (w 275 79)) OW (o + 1)) := Hid.mk (fun z => GB.pr (g128.out z) (prE.tk q137))
        have cf154 : Hid (w135 331 (w 275 79 + 3600) = w 275 81) := Hid.mk (Eq.trans (q137 331 (w 275 79 + 3600) (mTq_not (by decide))) cf124.out)
        have cf155 : Hid (w135 332 (w 275 79 + 3600) = (-1)) := Hid.mk (Eq.trans (q137 332 (w 275 79 + 3600) (mTq_not (by decide))) cf125.out)
        have cf156 : Hid (w135 333 (w 275 79 + 3600) = (-1)) := Hid.mk (Eq.trans (q137 333 (w 275 79 + 3600) (mTq_not (by decide))) cf127.out)
        refine e_Ok.run (t' := (73, [(3, (0, w 275 79 + 3600)), (2, (0, w 275 79)), (1, (0, w 275 81)), (0, (1, 275))], [(0, 58), (1, 275), (1, 275)], w135)) 3 rfl ?_
        refine e_Ok.callV rfl (Nat.le_trans (by decide) hdq) rfl rfl rfl rfl (c_331 c148.1 (N := N) c148.2.2.2.1) (fun r157 w158 h159 => ?_)
        obtain ⟨z160, rfl, rfl, q161⟩ := h159
        obtain ⟨rfl, q161, q161b⟩ | ⟨rfl, q161n⟩ := q161
        · show e_Ok 20 elay ecode eI (d + 1) 352 (76, [(3, (0, w 275 79 + 3600)), (2, (0, w 275 79)), (1, (0, w 275 81)), (0, (1, 275))], [(0, 1), (1, 275)], w135) _
          refine e_Ok.callV rfl (Nat.le_trans (by decide) hdq) rfl rfl rfl rfl (c_334 (Nat.le_trans (by decide) hdq) c148.1 c148.2.1 c148.2.2.1 hNr c148.2.2.2.1 (by decide)) (fun r162 w163 h164 => ?_)
          obtain ⟨rfl, q165⟩ := h164
          obtain ⟨rfl, q165z⟩ | ⟨q165z, q165b, q165, q165s, q165t⟩ | ⟨q165z, q165b, q165, q165T, q165H, q165r⟩ := q165
          · rw [u146.out] at q165z; exact absurd q165z (by omega)
          · show e_Ok 20 elay ecode eI (d + 1) 352 (79, [(3, (0, w 275 79 + 3600)), (2, (0, w 275 79)), (1, (0, w 275 81)), (0, (1, 275))], [], w163) _
            rw [u146.out] at q165z
            have p166 := tkS.pos c148.2.2.2.1 (by omega)
            have u167 : Hid (w163 275 78 = w 275 78 + 1) := Hid.mk (Eq.trans (q165 275 78 (mTq_fld (by decide))) u140.out)
            have u168 : Hid (w163 275 79 = w 275 79 + 1) := Hid.mk (Eq.trans (q165 275 79 (mTq_fld (by decide))) u141.out)
            have u169 : Hid (w163 275 80 = w 275 80) := Hid.mk (Eq.trans (q165 275 80 (mTq_fld (by decide))) u142.out)
            have u171 : Hid (w163 275 82 = w 275 82) := Hid.mk (Eq.trans (q165 275 82 (mTq_fld (by decide))) u144.out)
            have u172 : Hid (w163 275 83 = w 275 83 + 1) := Hid.mk (Eq.trans (q165 275 83 (mTq_fld (by decide))) u145.out)
            have u173 : Hid (w163 275 88 = w 275 88) := Hid.mk (Eq.trans (q165 275 88 (mTq_fld (by decide))) u146.out)
            have u174 : Hid (w163 275 94 = w 275 94) := Hid.mk (Eq.trans (q165 275 94 (mTq_fld (by decide))) u147.out)
            have c175 := cSt.tk c148 q165 q165s
            have t176 := tkS.lin c175.2.2.2.1
            have f177 : e_fr (mStm (w 275 78) (w 275 79) (w 275 80) (w 275 94)) w w163 := e_fr.trans f150 (e_fr.mono q165 (fun c k g => mTq_St g))
            have g178 : Hid (w 275 88 = 0 → GB w163 N (w 275 78 + 1) (w 275 94) (w 275 79 + 1) (w 275 80) P (3 * (w 275 79)) OW (o + 1)) := Hid.mk (fun z => GB.pr (g151.out z) (prE.tk q165))
            have cf181 : Hid (w163 331 (w 275 79 + 3600) = w 275 81) := Hid.mk (Eq.trans (q165 331 (w 275 79 + 3600) (mTq_not (by decide))) cf154.out)
            have cf182 : Hid (w163 332 (w 275 79 + 3600) = (-1)) := Hid.mk (Eq.trans (q165 332 (w 275 79 + 3600) (mTq_not (by decide))) cf155.out)
            have cf183 : Hid (w163 333 (w 275 79 + 3600) = (-1)) := Hid.mk (Eq.trans (q165 333 (w 275 79 + 3600) (mTq_not (by decide))) cf156.out)
            refine e_Ok.run (t' := (82, [(3, (0, w 275 79 + 3600)), (2, (0, w 275 79)), (1, (0, w 275 81)), (0, (1, 275))], [(0, w 275 79), (0, 3), (1, 275)], w163)) 3 rfl ?_
            refine e_Ok.mul (z := 3 * w 275 79) rfl (by omega) (by omega) ?_
            refine e_Ok.putf rfl (el_o rfl) rfl rfl ?_
            generalize hw184 : e_up w163 275 81 (3 * w 275 79) = w184
            have f185 : e_fr (mStm (w 275 78) (w 275 79) (w 275 80) (w 275 94)) w w184 := e_fr.up f177 hw184 (by unfold mStm; omega)
            have u186 : Hid (w184 275 78 = w 275 78 + 1) := Hid.mk (Eq.trans (by rw [← hw184]; exact e_up_ne _ _ (Or.inr (by decide))) u167.out)
            have u187 : Hid (w184 275 79 = w 275 79 + 1) := Hid.mk (Eq.trans (by rw [← hw184]; exact e_up_ne _ _ (Or.inr (by decide))) u168.out)
            have u188 : Hid (w184 275 80 = w 275 80) := Hid.mk (Eq.trans (by rw [← hw184]; exact e_up_ne _ _ (Or.inr (by decide))) u169.out)
            have u189 : Hid (w184 275 81 = 3 * w 275 79) := Hid.mk (by rw [← hw184]; exact e_up_eq _ _ _ _)
            have u190 : Hid (w184 275 82 = w 275 82) := Hid.mk (Eq.trans (by rw [← hw184]; exact e_up_ne _ _ (Or.inr (by decide))) u171.out)
            have u191 : Hid (w184 275 83 = w 275 83 + 1) := Hid.mk (Eq.trans (by rw [← hw184]; exact e_up_ne _ _ (Or.inr (by decide))) u172.out)
            have u194 : Hid (w184 275 86 = w163 275 86) := Hid.mk (by rw [← hw184]; exact e_up_ne _ _ (Or.inr (by decide)))
            have u196 : Hid (w184 275 88 = w 275 88) := Hid.mk (Eq.trans (by rw [← hw184]; exact e_up_ne _ _ (Or.inr (by decide))) u173.out)
            have u197 : Hid (w184 275 94 = w 275 94) := Hid.mk (Eq.trans (by rw [← hw184]; exact e_up_ne _ _ (Or.inr (by decide))) u174.out)
            have c198 := cSt.wr c175 hw184 (Or.inr rfl) (by omega) rfl (fun _ => ⟨⟨by decide, by decide⟩, fun y => by omega⟩)
            have cf201 : Hid (w184 331 (w 275 79 + 3600) = w 275 81) := Hid.mk (Eq.trans (by rw [← hw184]; exact e_up_ne _ _ (Or.inl (by decide))) cf181.out)
            have cf202 : Hid (w184 332 (w 275 79 + 3600) = (-1)) := Hid.mk (Eq.trans (by rw [← hw184]; exact e_up_ne _ _ (Or.inl (by decide))) cf182.out)
            have cf203 : Hid (w184 333 (w 275 79 + 3600) = (-1)) := Hid.mk (Eq.trans (by rw [← hw184]; exact e_up_ne _ _ (Or.inl (by decide))) cf183.out)
            have g204 : Hid (w 275 88 = 0 → GB w184 N (w 275 78 + 1) (w 275 94) (w 275 79 + 1) (w 275 80) P (3 * (w 275 79)) OW (o + 1)) := Hid.mk (fun z => GB.pr (g178.out z) (fun c k q => by rw [← hw184]; exact e_up_ne _ _ (by omega)))
            refine e_Ok.run (t' := (87, [(3, (0, w 275 79 + 3600)), (2, (0, w 275 79)), (1, (0, w 275 81)), (0, (1, 275))], [(1, 275)], w184)) 1 rfl ?_
            refine e_Ok.callV rfl (Nat.le_trans (by decide) hdq) rfl rfl rfl rfl ((hS (by omega) d rfl) w184 N (o + 1) P OW c198 hNr (by rw [u196.out] <;> omega) (Eq.trans u191.out (show _ = o + 1 from by omega)) (by rw [u190.out] <;> exact hv.out) (by unfold stB; rw [u186.out, u194.out, u197.out, u187.out, u188.out]; omega) (by omega) (by rw [u186.out, u197.out, u187.out, u188.out, u189.out] <;> exact (GB.re (g204.out (by omega)) rfl rfl rfl rfl (show _ = 3 * w 275 79 from by omega)))) (fun r205 w206 h207 => ?_)
            obtain ⟨rfl, q208F, q208c, q208l, q208w⟩ := h207
            unfold stL at q208l
            obtain ⟨q2081, q2082, q2083, q2084, q2085, q2086, q2087, q2088, q2089, q20810, q20811, q20812⟩ := q208l
            replace q2089 := (show Hid _ from q2089)
            replace q20810 := (show Hid _ from q20810)
            replace q208F := (show Hid _ from q208F)
            rw [u194.out] at q2081
            rw [u186.out] at q2082
            rw [u186.out, u194.out, u191.out, u187.out, u188.out] at q2083
            rw [u186.out, u194.out] at q2084
            rw [u197.out] at q2085
            rw [u197.out, u194.out] at q2086
            rw [u191.out] at q2087
            rw [u191.out] at q2088
            rw [u187.out] at q20811
            rw [u188.out] at q20812
            have f209 : Hid (e_fr (mStm (w 275 78 + 1) (w 275 79 + 1) (w 275 80) (w 275 94)) w184 w206) := Hid.mk (by have y := q208F.out; rw [u186.out, u187.out, u188.out, u197.out] at y; exact y)
            replace q208w := (show Hid _ from q208w)
            have u210 : Hid (w206 275 81 = 3 * w 275 79) := Hid.mk (Eq.trans (q2089.out) u189.out)
            have u211 : Hid (w206 275 82 = w 275 82) := Hid.mk (Eq.trans (q20810.out) u190.out)
            have t212 := tkS.lin q208c.2.2.2.1
            have t213 := e_Has.get q208c.2.1 (c := 275) (k := 88) (lo := 0) (hi := 7) rfl (by decide)
            have f214 : e_fr (mStm (w 275 78) (w 275 79) (w 275 80) (w 275 94)) w w206 := e_fr.trans f185 (e_fr.mono f209.out (fun c k g => mSt_St (by omega) (by omega) (by omega) (by omega) g))
            have g215 : Hid (w206 275 88 = 0 → GB w206 N (w206 275 78) (w206 275 94) (w206 275 79) (w206 275 80) P (3 * w 275 79) OW (o + 1)) := Hid.mk (fun z => by have y := q208w.out z; rw [u210.out] at y; exact y)
            have cf218 : Hid (w206 331 (w 275 79 + 3600) = w 275 81) := Hid.mk (Eq.trans (f209.out 331 (w 275 79 + 3600) (by unfold mStm; omega)) cf201.out)
            have cf219 : Hid (w206 332 (w 275 79 + 3600) = (-1)) := Hid.mk (Eq.trans (f209.out 332 (w 275 79 + 3600) (by unfold mStm; omega)) cf202.out)
            have cf220 : Hid (w206 333 (w 275 79 + 3600) = (-1)) := Hid.mk (Eq.trans (f209.out 333 (w 275 79 + 3600) (by unfold mStm; omega)) cf203.out)
            show e_Ok 20 elay ecode eI (d + 1) 352 (90, [(3, (0, w 275 79 + 3600)), (2, (0, w 275 79)), (1, (0, w 275 81)), (0, (1, 275))], [], w206) _
            refine e_Ok.run (t' := (94, [(3, (0, w 275 79 + 3600)), (2, (0, w 275 79)), (1, (0, w 275 81)), (0, (1, 275))], [(0, w 275 79), (0, 49), (1, 275)], w206)) 3 rfl ?_
            refine e_Ok.callV rfl (Nat.le_trans (by decide) hdq) rfl rfl rfl rfl (c_336 q208c.1 (n := w206 275 78) rfl (by omega) (s := 3 * w 275 79) u210.out (by omega)) (fun r221 w222 h223 => ?_)
            obtain ⟨rfl, q224⟩ := h223
            replace q224 := (show Hid (EM w206 w222 (w206 275 78) 49 (w 275 79) (3 * w 275 79)) from q224)
            have u225 : Hid (w222 275 78 = w206 275 78 + 1) := Hid.mk (Eq.trans q224.out.2.2.2.2 (by omega))
            have u226 : Hid (w222 275 79 = w206 275 79) := Hid.mk (q224.out.fld (by decide))
            have u227 : Hid (w222 275 80 = w206 275 80) := Hid.mk (q224.out.fld (by decide))
            have u229 : Hid (w222 275 82 = w 275 82) := Hid.mk (Eq.trans (q224.out.fld (by decide)) u211.out)
            have u230 : Hid (w222 275 83 = w206 275 83) := Hid.mk (q224.out.fld (by decide))
            have u231 : Hid (w222 275 84 = w206 275 84) := Hid.mk (q224.out.fld (by decide))
            have u232 : Hid (w222 275 85 = w206 275 85) := Hid.mk (q224.out.fld (by decide))
            have u233 : Hid (w222 275 86 = w206 275 86) := Hid.mk (q224.out.fld (by decide))
            have u234 : Hid (w222 275 87 = w206 275 87) := Hid.mk (q224.out.fld (by decide))
            have u235 : Hid (w222 275 88 = w206 275 88) := Hid.mk (q224.out.fld (by decide))
            have u236 : Hid (w222 275 94 = w206 275 94) := Hid.mk (q224.out.fld (by decide))
            have f237 : e_fr (mStm (w 275 78) (w 275 79) (w 275 80) (w 275 94)) w w222 := e_fr.trans f214 (q224.out.st (by omega))
            have c238 := cSt.em q208c q224.out (by decide) (by omega) (by omega)
            have cf241 : Hid (w222 331 (w 275 79 + 3600) = w 275 81) := Hid.mk (Eq.trans (q224.out.far (by decide)) cf218.out)
            have cf242 : Hid (w222 332 (w 275 79 + 3600) = (-1)) := Hid.mk (Eq.trans (q224.out.far (by decide)) cf219.out)
            have cf243 : Hid (w222 333 (w 275 79 + 3600) = (-1)) := Hid.mk (Eq.trans (q224.out.far (by decide)) cf220.out)
            have g244 : Hid (w206 275 88 = 0 → GZ w222 N (w206 275 78 + 1) (w206 275 94) (w206 275 79) (w206 275 80) P (3 * w 275 79) OW (o + 1)) := Hid.mk (fun z => (GI.zz (g215.out (by omega)).1 ((g215.out (by omega)).2.2 49 (sg_no (by omega))) (g215.out (by omega)).2.1 q224.out (by omega) (fun y => absurd y (by decide)) (fun _ => ⟨⟨by omega, by omega⟩, by omega⟩)))
            show e_Ok 20 elay ecode eI (d + 1) 352 (97, [(3, (0, w 275 79 + 3600)), (2, (0, w 275 79)), (1, (0, w 275 81)), (0, (1, 275))], [(0, w206 275 78)], w222) _
            refine e_Ok.run (t' := (99, [(3, (0, w 275 79 + 3600)), (2, (0, w 275 79)), (1, (0, w 275 81)), (0, (1, 275))], [(1, 275)], w222)) 2 rfl ?_
            refine e_Ok.getf (z := w206 275 88) rfl (el_o rfl) rfl rfl u235.out (by omega) ?_
            refine e_Ok.if1 rfl (fun h245 => ?_) (fun h245 => ?_)
            · replace h245 : (w206 275 88 : Int) ≠ 0 := h245
              clear q2083
              refine e_Ok.run (t' := (160, [(3, (0, w 275 79 + 3600)), (2, (0, w 275 79)), (1, (0, w 275 81)), (0, (1, 275))], [(1, 275)], w222)) 1 rfl ?_
              refine e_Ok.getf (z := w206 275 88) rfl (el_o rfl) rfl rfl u235.out (by omega) ?_
              refine e_Ok.if1 rfl (fun h246 => ?_) (fun h246 => ?_)
              · replace h246 : (w206 275 88 : Int) ≠ 0 := h246
                refine e_Ok.run (t' := (222, [(3, (0, w 275 79 + 3600)), (2, (0, w 275 79)), (1, (0, w 275 81)), (0, (1, 275))], [(0, w 275 81), (1, 275)], w222)) 2 rfl ?_
                refine e_Ok.putf rfl (el_o rfl) rfl rfl ?_
                generalize hw247 : e_up w222 275 81 (w 275 81) = w247
                have f248 : e_fr (mStm (w 275 78) (w 275 79) (w 275 80) (w 275 94)) w w247 := e_fr.up f237 hw247 (by unfold mStm; omega)
                have u249 : Hid (w247 275 78 = w206 275 78 + 1) := Hid.mk (Eq.trans (by rw [← hw247]; exact e_up_ne _ _ (Or.inr (by decide))) u225.out)
                have u250 : Hid (w247 275 79 = w206 275 79) := Hid.mk (Eq.trans (by rw [← hw247]; exact e_up_ne _ _ (Or.inr (by decide))) u226.out)
                have u251 : Hid (w247 275 80 = w206 275 80) := Hid.mk (Eq.trans (by rw [← hw247]; exact e_up_ne _ _ (Or.inr (by decide))) u227.out)
                have u252 : Hid (w247 275 81 = w 275 81) := Hid.mk (by rw [← hw247]; exact e_up_eq _ _ _ _)
                have u253 : Hid (w247 275 82 = w 275 82) := Hid.mk (Eq.trans (by rw [← hw247]; exact e_up_ne _ _ (Or.inr (by decide))) u229.out)
                have u254 : Hid (w247 275 83 = w206 275 83) := Hid.mk (Eq.trans (by rw [← hw247]; exact e_up_ne _ _ (Or.inr (by decide))) u230.out)
                have u255 : Hid (w247 275 84 = w206 275 84) := Hid.mk (Eq.trans (by rw [← hw247]; exact e_up_ne _ _ (Or.inr (by decide))) u231.out)
                have u256 : Hid (w247 275 85 = w206 275 85) := Hid.mk (Eq.trans (by rw [← hw247]; exact e_up_ne _ _ (Or.inr (by decide))) u232.out)
                have u257 : Hid (w247 275 86 = w206 275 86) := Hid.mk (Eq.trans (by rw [← hw247]; exact e_up_ne _ _ (Or.inr (by decide))) u233.out)
                have u259 : Hid (w247 275 88 = w206 275 88) := Hid.mk (Eq.trans (by rw [← hw247]; exact e_up_ne _ _ (Or.inr (by decide))) u235.out)
                have u260 : Hid (w247 275 94 = w206 275 94) := Hid.mk (Eq.trans (by rw [← hw247]; exact e_up_ne _ _ (Or.inr (by decide))) u236.out)
                have c261 := cSt.wr c238 hw247 (Or.inr rfl) (by omega) rfl (fun _ => ⟨⟨by decide, by decide⟩, fun y => by omega⟩)
                refine e_Ok.run (t' := (226, [(3, (0, w 275 79 + 3600)), (2, (0, w 275 79)), (1, (0, w 275 81)), (0, (1, 275))], [(1, 275)], w247)) 1 rfl ?_
                refine e_Ok.getr (z := 334) rfl (el_o rfl) rfl rfl ((f248 275 71 (by unfold mStm; omega)).trans (e_Has.eq hc.1 rfl)) (by omega) ?_
                refine e_Ok.run (t' := (231, [(3, (0, w 275 79 + 3600)), (2, (0, w 275 79)), (1, (0, w 275 81)), (0, (1, 275))], [(1, 275), (0, w 275 79 + 3600), (1, 334)], w247)) 2 rfl ?_
                refine e_Ok.getf (z := w206 275 78 + 1) rfl (el_o rfl) rfl rfl u249.out (by omega) ?_
                refine e_Ok.ast rfl (el_o rfl) rfl rfl (by omega) ?_
                generalize hw262 : e_up w247 334 (w 275 79 + 3600) (w206 275 78 + 1) = w262
                have f263 : e_fr (mStm (w 275 78) (w 275 79) (w 275 80) (w 275 94)) w w262 := e_fr.up f248 hw262 (by unfold mStm; omega)
                have u264 : Hid (w262 275 78 = w206 275 78 + 1) := Hid.mk (Eq.trans (by rw [← hw262]; exact e_up_ne _ _ (Or.inl (by decide))) u249.out)
                have u265 : Hid (w262 275 79 = w206 275 79) := Hid.mk (Eq.trans (by rw [← hw262]; exact e_up_ne _ _ (Or.inl (by decide))) u250.out)
                have u266 : Hid (w262 275 80 = w206 275 80) := Hid.mk (Eq.trans (by rw [← hw262]; exact e_up_ne _ _ (Or.inl (by decide))) u251.out)
                have u267 : Hid (w262 275 81 = w 275 81) := Hid.mk (Eq.trans (by rw [← hw262]; exact e_up_ne _ _ (Or.inl (by decide))) u252.out)
                have u268 : Hid (w262 275 82 = w 275 82) := Hid.mk (Eq.trans (by rw [← hw262]; exact e_up_ne _ _ (Or.inl (by decide))) u253.out)
                have u269 : Hid (w262 275 83 = w206 275 83) := Hid.mk (Eq.trans (by rw [← hw262]; exact e_up_ne _ _ (Or.inl (by decide))) u254.out)
                have u270 : Hid (w262 275 84 = w206 275 84) := Hid.mk (Eq.trans (by rw [← hw262]; exact e_up_ne _ _ (Or.inl (by decide))) u255.out)
                have u271 : Hid (w262 275 85 = w206 275 85) := Hid.mk (Eq.trans (by rw [← hw262]; exact e_up_ne _ _ (Or.inl (by decide))) u256.out)
                have u272 : Hid (w262 275 86 = w206 275 86) := Hid.mk (Eq.trans (by rw [← hw262]; exact e_up_ne _ _ (Or.inl (by decide))) u257.out)
                have u274 : Hid (w262 275 88 = w206 275 88) := Hid.mk (Eq.trans (by rw [← hw262]; exact e_up_ne _ _ (Or.inl (by decide))) u259.out)
                have u275 : Hid (w262 275 94 = w206 275 94) := Hid.mk (Eq.trans (by rw [← hw262]; exact e_up_ne _ _ (Or.inl (by decide))) u260.out)
                have c276 := cSt.wr c261 hw262 (Or.inl rfl) (by omega) rfl (fun y => absurd y (by decide))
                refine e_Ok.run (t' := (238, [(3, (0, w 275 79 + 3600)), (2, (0, w 275 79)), (1, (0, w 275 81)), (0, (1, 275))], [(0, 2), (1, 275), (1, 275)], w262)) 3 rfl ?_
                refine e_Ok.callV rfl (Nat.le_trans (by decide) hdq) rfl rfl rfl rfl (c_332 c276.1 (N := N) c276.2.2.2.1) (fun r277 w278 h279 => ?_)
                obtain ⟨z280, rfl, rfl, q281⟩ := h279
                obtain ⟨rfl, q281, q281b⟩ | ⟨rfl, q281n⟩ := q281
                · show e_Ok 20 elay ecode eI (d + 1) 352 (241, [(3, (0, w 275 79 + 3600)), (2, (0, w 275 79)), (1, (0, w 275 81)), (0, (1, 275))], [(0, 1), (1, 275)], w262) _
                  rw [u270.out] at q281
                  rw [u271.out] at q281b
                  refine e_Ok.callV rfl (Nat.le_trans (by decide) hdq) rfl rfl rfl rfl (c_334 (Nat.le_trans (by decide) hdq) c276.1 c276.2.1 c276.2.2.1 hNr c276.2.2.2.1 (by decide)) (fun r282 w283 h284 => ?_)
                  obtain ⟨rfl, q285⟩ := h284
                  obtain ⟨rfl, q285z⟩ | ⟨q285z, q285b, q285, q285s, q285t⟩ | ⟨q285z, q285b, q285, q285T, q285H, q285r⟩ := q285
                  · show e_Ok 20 elay ecode eI (d + 1) 352 (244, [(3, (0, w 275 79 + 3600)), (2, (0, w 275 79)), (1, (0, w 275 81)), (0, (1, 275))], [], w262) _
                    rw [u274.out] at q285z
                    refine e_Ok.run (t' := (246, [(3, (0, w 275 79 + 3600)), (2, (0, w 275 79)), (1, (0, w 275 81)), (0, (1, 275))], [(1, 275), (1, 275)], w262)) 2 rfl ?_
                    refine e_Ok.getf (z := w206 275 83) rfl (el_o rfl) rfl rfl u269.out (by omega) ?_
                    refine e_Ok.run (t' := (250, [(3, (0, w 275 79 + 3600)), (2, (0, w 275 79)), (1, (0, w 275 81)), (0, (1, 275))], [(0, 1), (0, w206 275 83), (1, 275)], w262)) 1 rfl ?_
                    refine e_Ok.sub' (z := w206 275 83 - 1) rfl (by omega) (by omega) ?_
                    refine e_Ok.putf rfl (el_o rfl) rfl rfl ?_
                    generalize hw286 : e_up w262 275 83 (w206 275 83 - 1) = w286
                    have f287 : e_fr (mStm (w 275 78) (w 275 79) (w 275 80) (w 275 94)) w w286 := e_fr.up f263 hw286 (by unfold mStm; omega)
                    have e288 := up83 hw286
                    replace e288 := (show Hid _ from e288)
                    have u289 : Hid (w286 275 78 = w206 275 78 + 1) := Hid.mk (Eq.trans (e288.out.1 275 78 (by decide)) u264.out)
                    have u290 : Hid (w286 275 79 = w206 275 79) := Hid.mk (Eq.trans (e288.out.1 275 79 (by decide)) u265.out)
                    have u291 : Hid (w286 275 80 = w206 275 80) := Hid.mk (Eq.trans (e288.out.1 275 80 (by decide)) u266.out)
                    have u292 : Hid (w286 275 81 = w 275 81) := Hid.mk (Eq.trans (e288.out.1 275 81 (by decide)) u267.out)
                    have u293 : Hid (w286 275 82 = w 275 82) := Hid.mk (Eq.trans (e288.out.1 275 82 (by decide)) u268.out)
                    have u294 : Hid (w286 275 83 = w206 275 83 - 1) := Hid.mk (e288.out.2)
                    have u297 : Hid (w286 275 86 = w206 275 86) := Hid.mk (Eq.trans (e288.out.1 275 86 (by decide)) u272.out)
                    have u299 : Hid (w286 275 88 = w206 275 88) := Hid.mk (Eq.trans (e288.out.1 275 88 (by decide)) u274.out)
                    have u300 : Hid (w286 275 94 = w206 275 94) := Hid.mk (Eq.trans (e288.out.1 275 94 (by decide)) u275.out)
                    have c301 := cSt.up c276 hw286
                    refine e_Ok.rets rfl rfl ?_
                    exact ⟨rfl, f287, c301, (by unfold stL; rw [u289.out, u290.out, u291.out, u292.out, u293.out, u294.out, u297.out, u299.out, u300.out]; omega), (fun z => by rw [u299.out] at z; exact absurd z (by omega))⟩
                  · rw [u274.out] at q285z; exact absurd q285z (by omega)
                  · rw [u274.out] at q285z; exact absurd q285z (by omega)
                · show e_Ok 20 elay ecode eI (d + 1) 352 (241, [(3, (0, w 275 79 + 3600)), (2, (0, w 275 79)), (1, (0, w 275 81)), (0, (1, 275))], [(0, 0), (1, 275)], w262) _
                  clear q281n
                  refine e_Ok.callV rfl (Nat.le_trans (by decide) hdq) rfl rfl rfl rfl (c_334 (Nat.le_trans (by decide) hdq) c276.1 c276.2.1 c276.2.2.1 hNr c276.2.2.2.1 (by decide)) (fun r302 w303 h304 => ?_)
                  obtain ⟨rfl, q305⟩ := h304
                  obtain ⟨rfl, q305z⟩ | ⟨q305z, q305b, q305, q305s, q305t⟩ | ⟨q305z, q305b, q305, q305T, q305H, q305r⟩ := q305
                  · show e_Ok 20 elay ecode eI (d + 1) 352 (244, [(3, (0, w 275 79 + 3600)), (2, (0, w 275 79)), (1, (0, w 275 81)), (0, (1, 275))], [], w262) _
                    rw [u274.out] at q305z
                    refine e_Ok.run (t' := (246, [(3, (0, w 275 79 + 3600)), (2, (0, w 275 79)), (1, (0, w 275 81)), (0, (1, 275))], [(1, 275), (1, 275)], w262)) 2 rfl ?_
                    refine e_Ok.getf (z := w206 275 83) rfl (el_o rfl) rfl rfl u269.out (by omega) ?_
                    refine e_Ok.run (t' := (250, [(3, (0, w 275 79 + 3600)), (2, (0, w 275 79)), (1, (0, w 275 81)), (0, (1, 275))], [(0, 1), (0, w206 275 83), (1, 275)], w262)) 1 rfl ?_
                    refine e_Ok.sub' (z := w206 275 83 - 1) rfl (by omega) (by omega) ?_
                    refine e_Ok.putf rfl (el_o rfl) rfl rfl ?_
                    generalize hw306 : e_up w262 275 83 (w206 275 83 - 1) = w306
                    have f307 : e_fr (mStm (w 275 78) (w 275 79) (w 275 80) (w 275 94)) w w306 := e_fr.up f263 hw306 (by unfold mStm; omega)
                    have e308 := up83 hw306
                    replace e308 := (show Hid _ from e308)
                    have u309 : Hid (w306 275 78 = w206 275 78 + 1) := Hid.mk (Eq.trans (e308.out.1 275 78 (by decide)) u264.out)
                    have u310 : Hid (w306 275 79 = w206 275 79) := Hid.mk (Eq.trans (e308.out.1 275 79 (by decide)) u265.out)
                    have u311 : Hid (w306 275 80 = w206 275 80) := Hid.mk (Eq.trans (e308.out.1 275 80 (by decide)) u266.out)
                    have u312 : Hid (w306 275 81 = w 275 81) := Hid.mk (Eq.trans (e308.out.1 275 81 (by decide)) u267.out)
                    have u313 : Hid (w306 275 82 = w 275 82) := Hid.mk (Eq.trans (e308.out.1 275 82 (by decide)) u268.out)
                    have u314 : Hid (w306 275 83 = w206 275 83 - 1) := Hid.mk (e308.out.2)
                    have u317 : Hid (w306 275 86 = w206 275 86) := Hid.mk (Eq.trans (e308.out.1 275 86 (by decide)) u272.out)
                    have u319 : Hid (w306 275 88 = w206 275 88) := Hid.mk (Eq.trans (e308.out.1 275 88 (by decide)) u274.out)
                    have u320 : Hid (w306 275 94 = w206 275 94) := Hid.mk (Eq.trans (e308.out.1 275 94 (by decide)) u275.out)
                    have c321 := cSt.up c276 hw306
                    refine e_Ok.rets rfl rfl ?_
                    exact ⟨rfl, f307, c321, (by unfold stL; rw [u309.out, u310.out, u311.out, u312.out, u313.out, u314.out, u317.out, u319.out, u320.out]; omega), (fun z => by rw [u319.out] at z; exact absurd z (by omega))⟩
                  · rw [u274.out] at q305z; exact absurd q305z (by omega)
                  · rw [u274.out] at q305z; exact absurd q305z (by omega)
              · replace h246 : (w206 275 88 : Int) = 0 := by have q : ¬ ((w206 275 88 : Int) ≠ 0) := h246; omega
                exfalso; omega
            · replace h245 : (w206 275 88 : Int) = 0 := by have q : ¬ ((w206 275 88 : Int) ≠ 0) := h245; omega
              replace q2083 := q2083 (by omega)
              refine e_Ok.run (t' := (108, [(3, (0, w 275 79 + 3600)), (2, (0, w 275 79)), (1, (0, w 275 81)), (0, (1, 275))], [(0, 22), (1, 275)], w222)) 2 rfl ?_
              refine e_Ok.callV rfl (Nat.le_trans (by decide) hdq) rfl rfl rfl rfl (c_332 c238.1 (N := N) c238.2.2.2.1) (fun r322 w323 h324 => ?_)
              obtain ⟨z325, rfl, rfl, q326⟩ := h324
              obtain ⟨rfl, q326, q326b⟩ | ⟨rfl, q326n⟩ := q326
              · show e_Ok 20 elay ecode eI (d + 1) 352 (111, [(3, (0, w 275 79 + 3600)), (2, (0, w 275 79)), (1, (0, w 275 81)), (0, (1, 275))], [(0, 1)], w222) _
                rw [u231.out] at q326
                rw [u232.out] at q326b
                refine e_Ok.if1 rfl (fun h327 => ?_) (fun h327 => ?_)
                · replace h327 : (1 : Int) = 0 := h327
                  exfalso; omega
                · replace h327 : (1 : Int) ≠ 0 := by have q : ¬ ((1 : Int) = 0) := h327; omega
                  refine e_Ok.run (t' := (115, [(3, (0, w 275 79 + 3600)), (2, (0, w 275 79)), (1, (0, w 275 81)), (0, (1, 275))], [(1, 275)], w222)) 1 rfl ?_
                  refine e_Ok.callV rfl (Nat.le_trans (by decide) hdq) rfl rfl rfl rfl (c_327 (Nat.le_trans (by decide) hdq) c238.1 c238.2.1 c238.2.2.1 hNr (t := w206 275 87) u234.out (by omega)) (fun r329 w331 h332 => ?_)
                  have p334 := tkS.pos c238.2.2.2.1 (by rw [u231.out] <;> omega)
                  rw [u233.out, u234.out] at p334
                  have p335 := tkS.key c238.2.2.2.1 (by rw [u231.out] <;> omega)
                  rw [u233.out, u234.out, u232.out] at p335
                  obtain ⟨rfl, q333, q333s, q333t⟩ := h332
                  have u336 : Hid (w331 275 78 = w206 275 78 + 1) := Hid.mk (Eq.trans (q333 275 78 (mTq_fld (by decide))) u225.out)
                  have u337 : Hid (w331 275 79 = w206 275 79) := Hid.mk (Eq.trans (q333 275 79 (mTq_fld (by decide))) u226.out)
                  have u339 : Hid (w331 275 80 = w206 275 80) := Hid.mk (Eq.trans (q333 275 80 (mTq_fld (by decide))) u227.out)
                  have u341 : Hid (w331 275 82 = w 275 82) := Hid.mk (Eq.trans (q333 275 82 (mTq_fld (by decide))) u229.out)
                  have u342 : Hid (w331 275 83 = w206 275 83) := Hid.mk (Eq.trans (q333 275 83 (mTq_fld (by decide))) u230.out)
                  have u343 : Hid (w331 275 88 = w206 275 88) := Hid.mk (Eq.trans (q333 275 88 (mTq_fld (by decide))) u235.out)
                  have u344 : Hid (w331 275 94 = w206 275 94) := Hid.mk (Eq.trans (q333 275 94 (mTq_fld (by decide))) u236.out)
                  have c345 := cSt.tk c238 q333 q333s
                  have t346 := tkS.lin c345.2.2.2.1
                  have f347 : e_fr (mStm (w 275 78) (w 275 79) (w 275 80) (w 275 94)) w w331 := e_fr.trans f237 (e_fr.mono q333 (fun c k g => mTq_St g))
                  have g348 : Hid (w206 275 88 = 0 → GZ w331 N (w206 275 78 + 1) (w206 275 94) (w206 275 79) (w206 275 80) P (3 * w 275 79) OW (o + 1)) := Hid.mk (fun z => GZ.pr (g244.out z) (prE.tk q333))
                  have cf351 : Hid (w331 331 (w 275 79 + 3600) = w 275 81) := Hid.mk (Eq.trans (q333 331 (w 275 79 + 3600) (mTq_not (by decide))) cf241.out)
                  have cf353 : Hid (w331 333 (w 275 79 + 3600) = (-1)) := Hid.mk (Eq.trans (q333 333 (w 275 79 + 3600) (mTq_not (by decide))) cf243.out)
                  show e_Ok 20 elay ecode eI (d + 1) 352 (118, [(3, (0, w 275 79 + 3600)), (2, (0, w 275 79)), (1, (0, w 275 81)), (0, (1, 275))], [], w331) _
                  refine e_Ok.run (t' := (122, [(3, (0, w 275 79 + 3600)), (2, (0, w 275 79)), (1, (0, w 275 81)), (0, (1, 275))], [(0, 58), (1, 275), (1, 275)], w331)) 3 rfl ?_
                  refine e_Ok.callV rfl (Nat.le_trans (by decide) hdq) rfl rfl rfl rfl (c_331 c345.1 (N := N) c345.2.2.2.1) (fun r354 w355 h356 => ?_)
                  obtain ⟨z357, rfl, rfl, q358⟩ := h356
                  obtain ⟨rfl, q358, q358b⟩ | ⟨rfl, q358n⟩ := q358
                  · show e_Ok 20 elay ecode eI (d + 1) 352 (125, [(3, (0, w 275 79 + 3600)), (2, (0, w 275 79)), (1, (0, w 275 81)), (0, (1, 275))], [(0, 1), (1, 275)], w331) _
                    refine e_Ok.callV rfl (Nat.le_trans (by decide) hdq) rfl rfl rfl rfl (c_334 (Nat.le_trans (by decide) hdq) c345.1 c345.2.1 c345.2.2.1 hNr c345.2.2.2.1 (by decide)) (fun r359 w360 h361 => ?_)
                    obtain ⟨rfl, q362⟩ := h361
                    obtain ⟨rfl, q362z⟩ | ⟨q362z, q362b, q362, q362s, q362t⟩ | ⟨q362z, q362b, q362, q362T, q362H, q362r⟩ := q362
                    · rw [u343.out] at q362z; exact absurd q362z (by omega)
                    · show e_Ok 20 elay ecode eI (d + 1) 352 (128, [(3, (0, w 275 79 + 3600)), (2, (0, w 275 79)), (1, (0, w 275 81)), (0, (1, 275))], [], w360) _
                      rw [u343.out] at q362z
                      have p363 := tkS.pos c345.2.2.2.1 (by omega)
                      have u364 : Hid (w360 275 78 = w206 275 78 + 1) := Hid.mk (Eq.trans (q362 275 78 (mTq_fld (by decide))) u336.out)
                      have u365 : Hid (w360 275 79 = w206 275 79) := Hid.mk (Eq.trans (q362 275 79 (mTq_fld (by decide))) u337.out)
                      have u366 : Hid (w360 275 80 = w206 275 80) := Hid.mk (Eq.trans (q362 275 80 (mTq_fld (by decide))) u339.out)
                      have u368 : Hid (w360 275 82 = w 275 82) := Hid.mk (Eq.trans (q362 275 82 (mTq_fld (by decide))) u341.out)
                      have u369 : Hid (w360 275 83 = w206 275 83) := Hid.mk (Eq.trans (q362 275 83 (mTq_fld (by decide))) u342.out)
                      have u370 : Hid (w360 275 88 = w206 275 88) := Hid.mk (Eq.trans (q362 275 88 (mTq_fld (by decide))) u343.out)
                      have u371 : Hid (w360 275 94 = w206 275 94) := Hid.mk (Eq.trans (q362 275 94 (mTq_fld (by decide))) u344.out)
                      have c372 := cSt.tk c345 q362 q362s
                      have t373 := tkS.lin c372.2.2.2.1
                      have f374 : e_fr (mStm (w 275 78) (w 275 79) (w 275 80) (w 275 94)) w w360 := e_fr.trans f347 (e_fr.mono q362 (fun c k g => mTq_St g))
                      have g375 : Hid (w206 275 88 = 0 → GZ w360 N (w206 275 78 + 1) (w206 275 94) (w206 275 79) (w206 275 80) P (3 * w 275 79) OW (o + 1)) := Hid.mk (fun z => GZ.pr (g348.out z) (prE.tk q362))
                      have cf378 : Hid (w360 331 (w 275 79 + 3600) = w 275 81) := Hid.mk (Eq.trans (q362 331 (w 275 79 + 3600) (mTq_not (by decide))) cf351.out)
                      have cf380 : Hid (w360 333 (w 275 79 + 3600) = (-1)) := Hid.mk (Eq.trans (q362 333 (w 275 79 + 3600) (mTq_not (by decide))) cf353.out)
                      refine e_Ok.run (t' := (131, [(3, (0, w 275 79 + 3600)), (2, (0, w 275 79)), (1, (0, w 275 81)), (0, (1, 275))], [(0, w 275 79), (0, 3), (1, 275)], w360)) 3 rfl ?_
                      refine e_Ok.mul (z := 3 * w 275 79) rfl (by omega) (by omega) ?_
                      refine e_Ok.run (t' := (133, [(3, (0, w 275 79 + 3600)), (2, (0, w 275 79)), (1, (0, w 275 81)), (0, (1, 275))], [(0, 1), (0, 3 * w 275 79), (1, 275)], w360)) 1 rfl ?_
                      refine e_Ok.add (z := 3 * w 275 79 + 1) rfl (by omega) (by omega) ?_
                      refine e_Ok.putf rfl (el_o rfl) rfl rfl ?_
                      generalize hw381 : e_up w360 275 81 (3 * w 275 79 + 1) = w381
                      have f382 : e_fr (mStm (w 275 78) (w 275 79) (w 275 80) (w 275 94)) w w381 := e_fr.up f374 hw381 (by unfold mStm; omega)
                      have u383 : Hid (w381 275 78 = w206 275 78 + 1) := Hid.mk (Eq.trans (by rw [← hw381]; exact e_up_ne _ _ (Or.inr (by decide))) u364.out)
                      have u384 : Hid (w381 275 79 = w206 275 79) := Hid.mk (Eq.trans (by rw [← hw381]; exact e_up_ne _ _ (Or.inr (by decide))) u365.out)
                      have u385 : Hid (w381 275 80 = w206 275 80) := Hid.mk (Eq.trans (by rw [← hw381]; exact e_up_ne _ _ (Or.inr (by decide))) u366.out)
                      have u386 : Hid (w381 275 81 = 3 * w 275 79 + 1) := Hid.mk (by rw [← hw381]; exact e_up_eq _ _ _ _)
                      have u387 : Hid (w381 275 82 = w 275 82) := Hid.mk (Eq.trans (by rw [← hw381]; exact e_up_ne _ _ (Or.inr (by decide))) u368.out)
                      have u388 : Hid (w381 275 83 = w206 275 83) := Hid.mk (Eq.trans (by rw [← hw381]; exact e_up_ne _ _ (Or.inr (by decide))) u369.out)
                      have u391 : Hid (w381 275 86 = w360 275 86) := Hid.mk (by rw [← hw381]; exact e_up_ne _ _ (Or.inr (by decide)))
                      have u393 : Hid (w381 275 88 = w206 275 88) := Hid.mk (Eq.trans (by rw [← hw381]; exact e_up_ne _ _ (Or.inr (by decide))) u370.out)
                      have u394 : Hid (w381 275 94 = w206 275 94) := Hid.mk (Eq.trans (by rw [← hw381]; exact e_up_ne _ _ (Or.inr (by decide))) u371.out)
                      have c395 := cSt.wr c372 hw381 (Or.inr rfl) (by omega) rfl (fun _ => ⟨⟨by decide, by decide⟩, fun y => by omega⟩)
                      have cf398 : Hid (w381 331 (w 275 79 + 3600) = w 275 81) := Hid.mk (Eq.trans (by rw [← hw381]; exact e_up_ne _ _ (Or.inl (by decide))) cf378.out)
                      have cf400 : Hid (w381 333 (w 275 79 + 3600) = (-1)) := Hid.mk (Eq.trans (by rw [← hw381]; exact e_up_ne _ _ (Or.inl (by decide))) cf380.out)
                      have g401 : Hid (w206 275 88 = 0 → GZ w381 N (w206 275 78 + 1) (w206 275 94) (w206 275 79) (w206 275 80) P (3 * w 275 79) OW (o + 1)) := Hid.mk (fun z => GZ.pr (g375.out z) (fun c k q => by rw [← hw381]; exact e_up_ne _ _ (by omega)))
                      refine e_Ok.run (t' := (138, [(3, (0, w 275 79 + 3600)), (2, (0, w 275 79)), (1, (0, w 275 81)), (0, (1, 275))], [(1, 275)], w381)) 1 rfl ?_
                      refine e_Ok.getr (z := 332) rfl (el_o rfl) rfl rfl ((f382 275 69 (by unfold mStm; omega)).trans (e_Has.eq hc.1 rfl)) (by omega) ?_
                      refine e_Ok.run (t' := (143, [(3, (0, w 275 79 + 3600)), (2, (0, w 275 79)), (1, (0, w 275 81)), (0, (1, 275))], [(1, 275), (0, w 275 79 + 3600), (1, 332)], w381)) 2 rfl ?_
                      refine e_Ok.getf (z := w206 275 78 + 1) rfl (el_o rfl) rfl rfl u383.out (by omega) ?_
                      refine e_Ok.ast rfl (el_o rfl) rfl rfl (by omega) ?_
                      generalize hw402 : e_up w381 332 (w 275 79 + 3600) (w206 275 78 + 1) = w402
                      have f403 : e_fr (mStm (w 275 78) (w 275 79) (w 275 80) (w 275 94)) w w402 := e_fr.up f382 hw402 (by unfold mStm; omega)
                      have u404 : Hid (w402 275 78 = w206 275 78 + 1) := Hid.mk (Eq.trans (by rw [← hw402]; exact e_up_ne _ _ (Or.inl (by decide))) u383.out)
                      have u405 : Hid (w402 275 79 = w206 275 79) := Hid.mk (Eq.trans (by rw [← hw402]; exact e_up_ne _ _ (Or.inl (by decide))) u384.out)
                      have u406 : Hid (w402 275 80 = w206 275 80) := Hid.mk (Eq.trans (by rw [← hw402]; exact e_up_ne _ _ (Or.inl (by decide))) u385.out)
                      have u407 : Hid (w402 275 81 = 3 * w 275 79 + 1) := Hid.mk (Eq.trans (by rw [← hw402]; exact e_up_ne _ _ (Or.inl (by decide))) u386.out)
                      have u408 : Hid (w402 275 82 = w 275 82) := Hid.mk (Eq.trans (by rw [← hw402]; exact e_up_ne _ _ (Or.inl (by decide))) u387.out)
                      have u409 : Hid (w402 275 83 = w206 275 83) := Hid.mk (Eq.trans (by rw [← hw402]; exact e_up_ne _ _ (Or.inl (by decide))) u388.out)
                      have u412 : Hid (w402 275 86 = w360 275 86) := Hid.mk (Eq.trans (by rw [← hw402]; exact e_up_ne _ _ (Or.inl (by decide))) u391.out)
                      have u414 : Hid (w402 275 88 = w206 275 88) := Hid.mk (Eq.trans (by rw [← hw402]; exact e_up_ne _ _ (Or.inl (by decide))) u393.out)
                      have u415 : Hid (w402 275 94 = w206 275 94) := Hid.mk (Eq.trans (by rw [← hw402]; exact e_up_ne _ _ (Or.inl (by decide))) u394.out)
                      have c417 := cSt.wr c395 hw402 (Or.inl rfl) (by omega) rfl (fun y => absurd y (by decide))
                      have cf420 : Hid (w402 331 (w 275 79 + 3600) = w 275 81) := Hid.mk (Eq.trans (by rw [← hw402]; exact e_up_ne _ _ (Or.inl (by decide))) cf398.out)
                      have cf421 : Hid (w402 333 (w 275 79 + 3600) = (-1)) := Hid.mk (Eq.trans (by rw [← hw402]; exact e_up_ne _ _ (Or.inl (by decide))) cf400.out)
                      have ev422 : Hid (w402 332 (w 275 79 + 3600) = w206 275 78 + 1) := Hid.mk (by rw [← hw402]; exact e_up_eq _ _ _ _)
                      have ow423 := (show Hid _ from GB.ow hG f382)
                      have g424 : Hid (w206 275 88 = 0 → GB w402 N (w206 275 78 + 1) (w206 275 94) (w206 275 79) (w206 275 80) P (3 * (w 275 79) + 1) OW (o + 1)) := Hid.mk (fun z => GZ.cat (GZ.re (g401.out (by omega)) rfl rfl rfl rfl (show _ = 3 * (w 275 79) from by omega)) (by omega) (Eq.trans ev422.out (by omega)) (by rw [cf400.out]; decide) (fun c k y1 y2 => by rw [← hw402]; exact e_up_ne _ _ (by omega)) (fun v y => by rw [cf398.out]; exact ow423.out.1 v y) (by rw [cf398.out]; have := ow423.out.2; omega))
                      have cf425 : Hid (w402 332 (w 275 79 + 3600) = w206 275 78 + 1) := Hid.mk (ev422.out)
                      refine e_Ok.run (t' := (148, [(3, (0, w 275 79 + 3600)), (2, (0, w 275 79)), (1, (0, w 275 81)), (0, (1, 275))], [(1, 275)], w402)) 1 rfl ?_
                      refine e_Ok.callV rfl (Nat.le_trans (by decide) hdq) rfl rfl rfl rfl ((hS (by omega) d rfl) w402 N (o + 1) P OW c417 hNr (by rw [u414.out] <;> omega) (Eq.trans u409.out (show _ = o + 1 from by omega)) (by rw [u408.out] <;> exact hv.out) (by unfold stB; rw [u404.out, u412.out, u415.out, u405.out, u406.out]; omega) (by omega) (by rw [u404.out, u415.out, u405.out, u406.out, u407.out] <;> exact (GB.re (g424.out (by omega)) rfl rfl rfl rfl (show _ = 3 * w 275 79 + 1 from by omega)))) (fun r426 w427 h428 => ?_)
                      obtain ⟨rfl, q429F, q429c, q429l, q429w⟩ := h428
                      unfold stL at q429l
                      obtain ⟨q4291, q4292, q4293, q4294, q4295, q4296, q4297, q4298, q4299, q42910, q42911, q42912⟩ := q429l
                      replace q4299 := (show Hid _ from q4299)
                      replace q42910 := (show Hid _ from q42910)
                      replace q429F := (show Hid _ from q429F)
                      rw [u412.out] at q4291
                      rw [u404.out] at q4292
                      rw [u404.out, u412.out, u409.out, u405.out, u406.out] at q4293
                      rw [u404.out, u412.out] at q4294
                      rw [u415.out] at q4295
                      rw [u415.out, u412.out] at q4296
                      rw [u409.out] at q4297
                      rw [u409.out] at q4298
                      rw [u405.out] at q42911
                      rw [u406.out] at q42912
                      have f430 : Hid (e_fr (mStm (w206 275 78 + 1) (w206 275 79) (w206 275 80) (w206 275 94)) w402 w427) := Hid.mk (by have y := q429F.out; rw [u404.out, u405.out, u406.out, u415.out] at y; exact y)
                      replace q429w := (show Hid _ from q429w)
                      have u431 : Hid (w427 275 81 = 3 * w 275 79 + 1) := Hid.mk (Eq.trans (q4299.out) u407.out)
                      have u432 : Hid (w427 275 82 = w 275 82) := Hid.mk (Eq.trans (q42910.out) u408.out)
                      have t433 := tkS.lin q429c.2.2.2.1
                      have t434 := e_Has.get q429c.2.1 (c := 275) (k := 88) (lo := 0) (hi := 7) rfl (by decide)
                      have f435 : e_fr (mStm (w 275 78) (w 275 79) (w 275 80) (w 275 94)) w w427 := e_fr.trans f403 (e_fr.mono f430.out (fun c k g => mSt_St (by omega) (by omega) (by omega) (by omega) g))
                      have g436 : Hid (w427 275 88 = 0 → GB w427 N (w427 275 78) (w427 275 94) (w427 275 79) (w427 275 80) P (3 * w 275 79 + 1) OW (o + 1)) := Hid.mk (fun z => by have y := q429w.out z; rw [u431.out] at y; exact y)
                      have cf439 : Hid (w427 331 (w 275 79 + 3600) = w 275 81) := Hid.mk (Eq.trans (f430.out 331 (w 275 79 + 3600) (by unfold mStm; omega)) cf420.out)
                      have cf440 : Hid (w427 333 (w 275 79 + 3600) = (-1)) := Hid.mk (Eq.trans (f430.out 333 (w 275 79 + 3600) (by unfold mStm; omega)) cf421.out)
                      have cf441 : Hid (w427 332 (w 275 79 + 3600) = w206 275 78 + 1) := Hid.mk (Eq.trans (f430.out 332 (w 275 79 + 3600) (by unfold mStm; omega)) cf425.out)
                      show e_Ok 20 elay ecode eI (d + 1) 352 (151, [(3, (0, w 275 79 + 3600)), (2, (0, w 275 79)), (1, (0, w 275 81)), (0, (1, 275))], [], w427) _
                      refine e_Ok.run (t' := (155, [(3, (0, w 275 79 + 3600)), (2, (0, w 275 79)), (1, (0, w 275 81)), (0, (1, 275))], [(0, w 275 79), (0, 50), (1, 275)], w427)) 3 rfl ?_
                      refine e_Ok.callV rfl (Nat.le_trans (by decide) hdq) rfl rfl rfl rfl (c_336 q429c.1 (n := w427 275 78) rfl (by omega) (s := 3 * w 275 79 + 1) u431.out (by omega)) (fun r442 w443 h444 => ?_)
                      obtain ⟨rfl, q445⟩ := h444
                      replace q445 := (show Hid (EM w427 w443 (w427 275 78) 50 (w 275 79) (3 * w 275 79 + 1)) from q445)
                      have u446 : Hid (w443 275 78 = w427 275 78 + 1) := Hid.mk (Eq.trans q445.out.2.2.2.2 (by omega))
                      have u447 : Hid (w443 275 79 = w427 275 79) := Hid.mk (q445.out.fld (by decide))
                      have u448 : Hid (w443 275 80 = w427 275 80) := Hid.mk (q445.out.fld (by decide))
                      have u450 : Hid (w443 275 82 = w 275 82) := Hid.mk (Eq.trans (q445.out.fld (by decide)) u432.out)
                      have u451 : Hid (w443 275 83 = w427 275 83) := Hid.mk (q445.out.fld (by decide))
                      have u452 : Hid (w443 275 84 = w427 275 84) := Hid.mk (q445.out.fld (by decide))
                      have u453 : Hid (w443 275 85 = w427 275 85) := Hid.mk (q445.out.fld (by decide))
                      have u454 : Hid (w443 275 86 = w427 275 86) := Hid.mk (q445.out.fld (by decide))
                      have u455 : Hid (w443 275 87 = w427 275 87) := Hid.mk (q445.out.fld (by decide))
                      have u456 : Hid (w443 275 88 = w427 275 88) := Hid.mk (q445.out.fld (by decide))
                      have u457 : Hid (w443 275 94 = w427 275 94) := Hid.mk (q445.out.fld (by decide))
                      have f458 : e_fr (mStm (w 275 78) (w 275 79) (w 275 80) (w 275 94)) w w443 := e_fr.trans f435 (q445.out.st (by omega))
                      have c459 := cSt.em q429c q445.out (by decide) (by omega) (by omega)
                      have cf462 : Hid (w443 331 (w 275 79 + 3600) = w 275 81) := Hid.mk (Eq.trans (q445.out.far (by decide)) cf439.out)
                      have cf463 : Hid (w443 333 (w 275 79 + 3600) = (-1)) := Hid.mk (Eq.trans (q445.out.far (by decide)) cf440.out)
                      have cf464 : Hid (w443 332 (w 275 79 + 3600) = w206 275 78 + 1) := Hid.mk (Eq.trans (q445.out.far (by decide)) cf441.out)
                      have g465 : Hid (w427 275 88 = 0 → GZ w443 N (w427 275 78 + 1) (w427 275 94) (w427 275 79) (w427 275 80) P (3 * w 275 79 + 1) OW (o + 1)) := Hid.mk (fun z => (GI.zz (g436.out (by omega)).1 ((g436.out (by omega)).2.2 50 (sg_no (by omega))) (g436.out (by omega)).2.1 q445.out (by omega) (fun y => absurd y (by decide)) (fun _ => ⟨⟨by omega, by omega⟩, by omega⟩)))
                      show e_Ok 20 elay ecode eI (d + 1) 352 (158, [(3, (0, w 275 79 + 3600)), (2, (0, w 275 79)), (1, (0, w 275 81)), (0, (1, 275))], [(0, w427 275 78)], w443) _
                      refine e_Ok.run (t' := (160, [(3, (0, w 275 79 + 3600)), (2, (0, w 275 79)), (1, (0, w 275 81)), (0, (1, 275))], [(1, 275)], w443)) 2 rfl ?_
                      refine e_Ok.getf (z := w427 275 88) rfl (el_o rfl) rfl rfl u456.out (by omega) ?_
                      refine e_Ok.if1 rfl (fun h466 => ?_) (fun h466 => ?_)
                      · replace h466 : (w427 275 88 : Int) ≠ 0 := h466
                        clear q4293
                        refine e_Ok.run (t' := (222, [(3, (0, w 275 79 + 3600)), (2, (0, w 275 79)), (1, (0, w 275 81)), (0, (1, 275))], [(0, w 275 81), (1, 275)], w443)) 2 rfl ?_
                        refine e_Ok.putf rfl (el_o rfl) rfl rfl ?_
                        generalize hw467 : e_up w443 275 81 (w 275 81) = w467
                        have f468 : e_fr (mStm (w 275 78) (w 275 79) (w 275 80) (w 275 94)) w w467 := e_fr.up f458 hw467 (by unfold mStm; omega)
                        have u469 : Hid (w467 275 78 = w427 275 78 + 1) := Hid.mk (Eq.trans (by rw [← hw467]; exact e_up_ne _ _ (Or.inr (by decide))) u446.out)
                        have u470 : Hid (w467 275 79 = w427 275 79) := Hid.mk (Eq.trans (by rw [← hw467]; exact e_up_ne _ _ (Or.inr (by decide))) u447.out)
                        have u471 : Hid (w467 275 80 = w427 275 80) := Hid.mk (Eq.trans (by rw [← hw467]; exact e_up_ne _ _ (Or.inr (by decide))) u448.out)
                        have u472 : Hid (w467 275 81 = w 275 81) := Hid.mk (by rw [← hw467]; exact e_up_eq _ _ _ _)
                        have u473 : Hid (w467 275 82 = w 275 82) := Hid.mk (Eq.trans (by rw [← hw467]; exact e_up_ne _ _ (Or.inr (by decide))) u450.out)
                        have u474 : Hid (w467 275 83 = w427 275 83) := Hid.mk (Eq.trans (by rw [← hw467]; exact e_up_ne _ _ (Or.inr (by decide))) u451.out)
                        have u475 : Hid (w467 275 84 = w427 275 84) := Hid.mk (Eq.trans (by rw [← hw467]; exact e_up_ne _ _ (Or.inr (by decide))) u452.out)
                        have u476 : Hid (w467 275 85 = w427 275 85) := Hid.mk (Eq.trans (by rw [← hw467]; exact e_up_ne _ _ (Or.inr (by decide))) u453.out)
                        have u477 : Hid (w467 275 86 = w427 275 86) := Hid.mk (Eq.trans (by rw [← hw467]; exact e_up_ne _ _ (Or.inr (by decide))) u454.out)
                        have u479 : Hid (w467 275 88 = w427 275 88) := Hid.mk (Eq.trans (by rw [← hw467]; exact e_up_ne _ _ (Or.inr (by decide))) u456.out)
                        have u480 : Hid (w467 275 94 = w427 275 94) := Hid.mk (Eq.trans (by rw [← hw467]; exact e_up_ne _ _ (Or.inr (by decide))) u457.out)
                        have c481 := cSt.wr c459 hw467 (Or.inr rfl) (by omega) rfl (fun _ => ⟨⟨by decide, by decide⟩, fun y => by omega⟩)
                        refine e_Ok.run (t' := (226, [(3, (0, w 275 79 + 3600)), (2, (0, w 275 79)), (1, (0, w 275 81)), (0, (1, 275))], [(1, 275)], w467)) 1 rfl ?_
                        refine e_Ok.getr (z := 334) rfl (el_o rfl) rfl rfl ((f468 275 71 (by unfold mStm; omega)).trans (e_Has.eq hc.1 rfl)) (by omega) ?_
                        refine e_Ok.run (t' := (231, [(3, (0, w 275 79 + 3600)), (2, (0, w 275 79)), (1, (0, w 275 81)), (0, (1, 275))], [(1, 275), (0, w 275 79 + 3600), (1, 334)], w467)) 2 rfl ?_
                        refine e_Ok.getf (z := w427 275 78 + 1) rfl (el_o rfl) rfl rfl u469.out (by omega) ?_
                        refine e_Ok.ast rfl (el_o rfl) rfl rfl (by omega) ?_
                        generalize hw482 : e_up w467 334 (w 275 79 + 3600) (w427 275 78 + 1) = w482
                        have f483 : e_fr (mStm (w 275 78) (w 275 79) (w 275 80) (w 275 94)) w w482 := e_fr.up f468 hw482 (by unfold mStm; omega)
                        have u484 : Hid (w482 275 78 = w427 275 78 + 1) := Hid.mk (Eq.trans (by rw [← hw482]; exact e_up_ne _ _ (Or.inl (by decide))) u469.out)
                        have u485 : Hid (w482 275 79 = w427 275 79) := Hid.mk (Eq.trans (by rw [← hw482]; exact e_up_ne _ _ (Or.inl (by decide))) u470.out)
                        have u486 : Hid (w482 275 80 = w427 275 80) := Hid.mk (Eq.trans (by rw [← hw482]; exact e_up_ne _ _ (Or.inl (by decide))) u471.out)
                        have u487 : Hid (w482 275 81 = w 275 81) := Hid.mk (Eq.trans (by rw [← hw482]; exact e_up_ne _ _ (Or.inl (by decide))) u472.out)
                        have u488 : Hid (w482 275 82 = w 275 82) := Hid.mk (Eq.trans (by rw [← hw482]; exact e_up_ne _ _ (Or.inl (by decide))) u473.out)
                        have u489 : Hid (w482 275 83 = w427 275 83) := Hid.mk (Eq.trans (by rw [← hw482]; exact e_up_ne _ _ (Or.inl (by decide))) u474.out)
                        have u490 : Hid (w482 275 84 = w427 275 84) := Hid.mk (Eq.trans (by rw [← hw482]; exact e_up_ne _ _ (Or.inl (by decide))) u475.out)
                        have u491 : Hid (w482 275 85 = w427 275 85) := Hid.mk (Eq.trans (by rw [← hw482]; exact e_up_ne _ _ (Or.inl (by decide))) u476.out)
                        have u492 : Hid (w482 275 86 = w427 275 86) := Hid.mk (Eq.trans (by rw [← hw482]; exact e_up_ne _ _ (Or.inl (by decide))) u477.out)
                        have u494 : Hid (w482 275 88 = w427 275 88) := Hid.mk (Eq.trans (by rw [← hw482]; exact e_up_ne _ _ (Or.inl (by decide))) u479.out)
                        have u495 : Hid (w482 275 94 = w427 275 94) := Hid.mk (Eq.trans (by rw [← hw482]; exact e_up_ne _ _ (Or.inl (by decide))) u480.out)
                        have c496 := cSt.wr c481 hw482 (Or.inl rfl) (by omega) rfl (fun y => absurd y (by decide))
                        refine e_Ok.run (t' := (238, [(3, (0, w 275 79 + 3600)), (2, (0, w 275 79)), (1, (0, w 275 81)), (0, (1, 275))], [(0, 2), (1, 275), (1, 275)], w482)) 3 rfl ?_
                        refine e_Ok.callV rfl (Nat.le_trans (by decide) hdq) rfl rfl rfl rfl (c_332 c496.1 (N := N) c496.2.2.2.1) (fun r497 w498 h499 => ?_)
                        obtain ⟨z500, rfl, rfl, q501⟩ := h499
                        obtain ⟨rfl, q501, q501b⟩ | ⟨rfl, q501n⟩ := q501
                        · show e_Ok 20 elay ecode eI (d + 1) 352 (241, [(3, (0, w 275 79 + 3600)), (2, (0, w 275 79)), (1, (0, w 275 81)), (0, (1, 275))], [(0, 1), (1, 275)], w482) _
                          rw [u490.out] at q501
                          rw [u491.out] at q501b
                          refine e_Ok.callV rfl (Nat.le_trans (by decide) hdq) rfl rfl rfl rfl (c_334 (Nat.le_trans (by decide) hdq) c496.1 c496.2.1 c496.2.2.1 hNr c496.2.2.2.1 (by decide)) (fun r502 w503 h504 => ?_)
                          obtain ⟨rfl, q505⟩ := h504
                          obtain ⟨rfl, q505z⟩ | ⟨q505z, q505b, q505, q505s, q505t⟩ | ⟨q505z, q505b, q505, q505T, q505H, q505r⟩ := q505
                          · show e_Ok 20 elay ecode eI (d + 1) 352 (244, [(3, (0, w 275 79 + 3600)), (2, (0, w 275 79)), (1, (0, w 275 81)), (0, (1, 275))], [], w482) _
                            rw [u494.out] at q505z
                            refine e_Ok.run (t' := (246, [(3, (0, w 275 79 + 3600)), (2, (0, w 275 79)), (1, (0, w 275 81)), (0, (1, 275))], [(1, 275), (1, 275)], w482)) 2 rfl ?_
                            refine e_Ok.getf (z := w427 275 83) rfl (el_o rfl) rfl rfl u489.out (by omega) ?_
                            refine e_Ok.run (t' := (250, [(3, (0, w 275 79 + 3600)), (2, (0, w 275 79)), (1, (0, w 275 81)), (0, (1, 275))], [(0, 1), (0, w427 275 83), (1, 275)], w482)) 1 rfl ?_
                            refine e_Ok.sub' (z := w427 275 83 - 1) rfl (by omega) (by omega) ?_
                            refine e_Ok.putf rfl (el_o rfl) rfl rfl ?_
                            generalize hw506 : e_up w482 275 83 (w427 275 83 - 1) = w506
                            have f507 : e_fr (mStm (w 275 78) (w 275 79) (w 275 80) (w 275 94)) w w506 := e_fr.up f483 hw506 (by unfold mStm; omega)
                            have e508 := up83 hw506
                            replace e508 := (show Hid _ from e508)
                            have u509 : Hid (w506 275 78 = w427 275 78 + 1) := Hid.mk (Eq.trans (e508.out.1 275 78 (by decide)) u484.out)
                            have u510 : Hid (w506 275 79 = w427 275 79) := Hid.mk (Eq.trans (e508.out.1 275 79 (by decide)) u485.out)
                            have u511 : Hid (w506 275 80 = w427 275 80) := Hid.mk (Eq.trans (e508.out.1 275 80 (by decide)) u486.out)
                            have u512 : Hid (w506 275 81 = w 275 81) := Hid.mk (Eq.trans (e508.out.1 275 81 (by decide)) u487.out)
                            have u513 : Hid (w506 275 82 = w 275 82) := Hid.mk (Eq.trans (e508.out.1 275 82 (by decide)) u488.out)
                            have u514 : Hid (w506 275 83 = w427 275 83 - 1) := Hid.mk (e508.out.2)
                            have u517 : Hid (w506 275 86 = w427 275 86) := Hid.mk (Eq.trans (e508.out.1 275 86 (by decide)) u492.out)
                            have u519 : Hid (w506 275 88 = w427 275 88) := Hid.mk (Eq.trans (e508.out.1 275 88 (by decide)) u494.out)
                            have u520 : Hid (w506 275 94 = w427 275 94) := Hid.mk (Eq.trans (e508.out.1 275 94 (by decide)) u495.out)
                            have c521 := cSt.up c496 hw506
                            refine e_Ok.rets rfl rfl ?_
                            exact ⟨rfl, f507, c521, (by unfold stL; rw [u509.out, u510.out, u511.out, u512.out, u513.out, u514.out, u517.out, u519.out, u520.out]; omega), (fun z => by rw [u519.out] at z; exact absurd z (by omega))⟩
                          · rw [u494.out] at q505z; exact absurd q505z (by omega)
                          · rw [u494.out] at q505z; exact absurd q505z (by omega)
                        · show e_Ok 20 elay ecode eI (d + 1) 352 (241, [(3, (0, w 275 79 + 3600)), (2, (0, w 275 79)), (1, (0, w 275 81)), (0, (1, 275))], [(0, 0), (1, 275)], w482) _
                          clear q501n
                          refine e_Ok.callV rfl (Nat.le_trans (by decide) hdq) rfl rfl rfl rfl (c_334 (Nat.le_trans (by decide) hdq) c496.1 c496.2.1 c496.2.2.1 hNr c496.2.2.2.1 (by decide)) (fun r522 w523 h524 => ?_)
                          obtain ⟨rfl, q525⟩ := h524
                          obtain ⟨rfl, q525z⟩ | ⟨q525z, q525b, q525, q525s, q525t⟩ | ⟨q525z, q525b, q525, q525T, q525H, q525r⟩ := q525
                          · show e_Ok 20 elay ecode eI (d + 1) 352 (244, [(3, (0, w 275 79 + 3600)), (2, (0, w 275 79)), (1, (0, w 275 81)), (0, (1, 275))], [], w482) _
                            rw [u494.out] at q525z
                            refine e_Ok.run (t' := (246, [(3, (0, w 275 79 + 3600)), (2, (0, w 275 79)), (1, (0, w 275 81)), (0, (1, 275))], [(1, 275), (1, 275)], w482)) 2 rfl ?_
                            refine e_Ok.getf (z := w427 275 83) rfl (el_o rfl) rfl rfl u489.out (by omega) ?_
                            refine e_Ok.run (t' := (250, [(3, (0, w 275 79 + 3600)), (2, (0, w 275 79)), (1, (0, w 275 81)), (0, (1, 275))], [(0, 1), (0, w427 275 83), (1, 275)], w482)) 1 rfl ?_
                            refine e_Ok.sub' (z := w427 275 83 - 1) rfl (by omega) (by omega) ?_
                            refine e_Ok.putf rfl (el_o rfl) rfl rfl ?_
                            generalize hw526 : e_up w482 275 83 (w427 275 83 - 1) = w526
                            have f527 : e_fr (mStm (w 275 78) (w 275 79) (w 275 80) (w 275 94)) w w526 := e_fr.up f483 hw526 (by unfold mStm; omega)
                            have e528 := up83 hw526
                            replace e528 := (show Hid _ from e528)
                            have u529 : Hid (w526 275 78 = w427 275 78 + 1) := Hid.mk (Eq.trans (e528.out.1 275 78 (by decide)) u484.out)
                            have u530 : Hid (w526 275 79 = w427 275 79) := Hid.mk (Eq.trans (e528.out.1 275 79 (by decide)) u485.out)
                            have u531 : Hid (w526 275 80 = w427 275 80) := Hid.mk (Eq.trans (e528.out.1 275 80 (by decide)) u486.out)
                            have u532 : Hid (w526 275 81 = w 275 81) := Hid.mk (Eq.trans (e528.out.1 275 81 (by decide)) u487.out)
                            have u533 : Hid (w526 275 82 = w 275 82) := Hid.mk (Eq.trans (e528.out.1 275 82 (by decide)) u488.out)
                            have u534 : Hid (w526 275 83 = w427 275 83 - 1) := Hid.mk (e528.out.2)
                            have u537 : Hid (w526 275 86 = w427 275 86) := Hid.mk (Eq.trans (e528.out.1 275 86 (by decide)) u492.out)
                            have u539 : Hid (w526 275 88 = w427 275 88) := Hid.mk (Eq.trans (e528.out.1 275 88 (by decide)) u494.out)
                            have u540 : Hid (w526 275 94 = w427 275 94) := Hid.mk (Eq.trans (e528.out.1 275 94 (by decide)) u495.out)
                            have c541 := cSt.up c496 hw526
                            refine e_Ok.rets rfl rfl ?_
                            exact ⟨rfl, f527, c541, (by unfold stL; rw [u529.out, u530.out, u531.out, u532.out, u533.out, u534.out, u537.out, u539.out, u540.out]; omega), (fun z => by rw [u539.out] at z; exact absurd z (by omega))⟩
                          · rw [u494.out] at q525z; exact absurd q525z (by omega)
                          · rw [u494.out] at q525z; exact absurd q525z (by omega)
                      · replace h466 : (w427 275 88 : Int) = 0 := by have q : ¬ ((w427 275 88 : Int) ≠ 0) := h466; omega
                        replace q4293 := q4293 (by omega)
                        refine e_Ok.run (t' := (169, [(3, (0, w 275 79 + 3600)), (2, (0, w 275 79)), (1, (0, w 275 81)), (0, (1, 275))], [(0, 23), (1, 275)], w443)) 2 rfl ?_
                        refine e_Ok.callV rfl (Nat.le_trans (by decide) hdq) rfl rfl rfl rfl (c_332 c459.1 (N := N) c459.2.2.2.1) (fun r542 w543 h544 => ?_)
                        obtain ⟨z545, rfl, rfl, q546⟩ := h544
                        obtain ⟨rfl, q546, q546b⟩ | ⟨rfl, q546n⟩ := q546
                        · show e_Ok 20 elay ecode eI (d + 1) 352 (172, [(3, (0, w 275 79 + 3600)), (2, (0, w 275 79)), (1, (0, w 275 81)), (0, (1, 275))], [(0, 1)], w443) _
                          rw [u452.out] at q546
                          rw [u453.out] at q546b
                          refine e_Ok.if1 rfl (fun h547 => ?_) (fun h547 => ?_)
                          · replace h547 : (1 : Int) = 0 := h547
                            exfalso; omega
                          · replace h547 : (1 : Int) ≠ 0 := by have q : ¬ ((1 : Int) = 0) := h547; omega
                            refine e_Ok.run (t' := (176, [(3, (0, w 275 79 + 3600)), (2, (0, w 275 79)), (1, (0, w 275 81)), (0, (1, 275))], [(1, 275)], w443)) 1 rfl ?_
                            refine e_Ok.callV rfl (Nat.le_trans (by decide) hdq) rfl rfl rfl rfl (c_327 (Nat.le_trans (by decide) hdq) c459.1 c459.2.1 c459.2.2.1 hNr (t := w427 275 87) u455.out (by omega)) (fun r548 w549 h550 => ?_)
                            have p552 := tkS.pos c459.2.2.2.1 (by rw [u452.out] <;> omega)
                            rw [u454.out, u455.out] at p552
                            have p553 := tkS.key c459.2.2.2.1 (by rw [u452.out] <;> omega)
                            rw [u454.out, u455.out, u453.out] at p553
                            obtain ⟨rfl, q551, q551s, q551t⟩ := h550
                            have u554 : Hid (w549 275 78 = w427 275 78 + 1) := Hid.mk (Eq.trans (q551 275 78 (mTq_fld (by decide))) u446.out)
                            have u555 : Hid (w549 275 79 = w427 275 79) := Hid.mk (Eq.trans (q551 275 79 (mTq_fld (by decide))) u447.out)
                            have u556 : Hid (w549 275 80 = w427 275 80) := Hid.mk (Eq.trans (q551 275 80 (mTq_fld (by decide))) u448.out)
                            have u558 : Hid (w549 275 82 = w 275 82) := Hid.mk (Eq.trans (q551 275 82 (mTq_fld (by decide))) u450.out)
                            have u559 : Hid (w549 275 83 = w427 275 83) := Hid.mk (Eq.trans (q551 275 83 (mTq_fld (by decide))) u451.out)
                            have u560 : Hid (w549 275 88 = w427 275 88) := Hid.mk (Eq.trans (q551 275 88 (mTq_fld (by decide))) u456.out)
                            have u561 : Hid (w549 275 94 = w427 275 94) := Hid.mk (Eq.trans (q551 275 94 (mTq_fld (by decide))) u457.out)
                            have c562 := cSt.tk c459 q551 q551s
                            have t563 := tkS.lin c562.2.2.2.1
                            have f564 : e_fr (mStm (w 275 78) (w 275 79) (w 275 80) (w 275 94)) w w549 := e_fr.trans f458 (e_fr.mono q551 (fun c k g => mTq_St g))
                            have g565 : Hid (w427 275 88 = 0 → GZ w549 N (w427 275 78 + 1) (w427 275 94) (w427 275 79) (w427 275 80) P (3 * w 275 79 + 1) OW (o + 1)) := Hid.mk (fun z => GZ.pr (g465.out z) (prE.tk q551))
                            have cf568 : Hid (w549 331 (w 275 79 + 3600) = w 275 81) := Hid.mk (Eq.trans (q551 331 (w 275 79 + 3600) (mTq_not (by decide))) cf462.out)
                            have cf570 : Hid (w549 332 (w 275 79 + 3600) = w206 275 78 + 1) := Hid.mk (Eq.trans (q551 332 (w 275 79 + 3600) (mTq_not (by decide))) cf464.out)
                            show e_Ok 20 elay ecode eI (d + 1) 352 (179, [(3, (0, w 275 79 + 3600)), (2, (0, w 275 79)), (1, (0, w 275 81)), (0, (1, 275))], [], w549) _
                            refine e_Ok.run (t' := (183, [(3, (0, w 275 79 + 3600)), (2, (0, w 275 79)), (1, (0, w 275 81)), (0, (1, 275))], [(0, 58), (1, 275), (1, 275)], w549)) 3 rfl ?_
                            refine e_Ok.callV rfl (Nat.le_trans (by decide) hdq) rfl rfl rfl rfl (c_331 c562.1 (N := N) c562.2.2.2.1) (fun r571 w572 h573 => ?_)
                            obtain ⟨z574, rfl, rfl, q575⟩ := h573
                            obtain ⟨rfl, q575, q575b⟩ | ⟨rfl, q575n⟩ := q575
                            · show e_Ok 20 elay ecode eI (d + 1) 352 (186, [(3, (0, w 275 79 + 3600)), (2, (0, w 275 79)), (1, (0, w 275 81)), (0, (1, 275))], [(0, 1), (1, 275)], w549) _
                              refine e_Ok.callV rfl (Nat.le_trans (by decide) hdq) rfl rfl rfl rfl (c_334 (Nat.le_trans (by decide) hdq) c562.1 c562.2.1 c562.2.2.1 hNr c562.2.2.2.1 (by decide)) (fun r576 w577 h578 => ?_)
                              obtain ⟨rfl, q579⟩ := h578
                              obtain ⟨rfl, q579z⟩ | ⟨q579z, q579b, q579, q579s, q579t⟩ | ⟨q579z, q579b, q579, q579T, q579H, q579r⟩ := q579
                              · rw [u560.out] at q579z; exact absurd q579z (by omega)
                              · show e_Ok 20 elay ecode eI (d + 1) 352 (189, [(3, (0, w 275 79 + 3600)), (2, (0, w 275 79)), (1, (0, w 275 81)), (0, (1, 275))], [], w577) _
                                rw [u560.out] at q579z
                                have p580 := tkS.pos c562.2.2.2.1 (by omega)
                                have u581 : Hid (w577 275 78 = w427 275 78 + 1) := Hid.mk (Eq.trans (q579 275 78 (mTq_fld (by decide))) u554.out)
                                have u582 : Hid (w577 275 79 = w427 275 79) := Hid.mk (Eq.trans (q579 275 79 (mTq_fld (by decide))) u555.out)
                                have u583 : Hid (w577 275 80 = w427 275 80) := Hid.mk (Eq.trans (q579 275 80 (mTq_fld (by decide))) u556.out)
                                have u585 : Hid (w577 275 82 = w 275 82) := Hid.mk (Eq.trans (q579 275 82 (mTq_fld (by decide))) u558.out)
                                have u586 : Hid (w577 275 83 = w427 275 83) := Hid.mk (Eq.trans (q579 275 83 (mTq_fld (by decide))) u559.out)
                                have u587 : Hid (w577 275 88 = w427 275 88) := Hid.mk (Eq.trans (q579 275 88 (mTq_fld (by decide))) u560.out)
                                have u588 : Hid (w577 275 94 = w427 275 94) := Hid.mk (Eq.trans (q579 275 94 (mTq_fld (by decide))) u561.out)
                                have c589 := cSt.tk c562 q579 q579s
                                have t590 := tkS.lin c589.2.2.2.1
                                have f591 : e_fr (mStm (w 275 78) (w 275 79) (w 275 80) (w 275 94)) w w577 := e_fr.trans f564 (e_fr.mono q579 (fun c k g => mTq_St g))
                                have g592 : Hid (w427 275 88 = 0 → GZ w577 N (w427 275 78 + 1) (w427 275 94) (w427 275 79) (w427 275 80) P (3 * w 275 79 + 1) OW (o + 1)) := Hid.mk (fun z => GZ.pr (g565.out z) (prE.tk q579))
                                have cf595 : Hid (w577 331 (w 275 79 + 3600) = w 275 81) := Hid.mk (Eq.trans (q579 331 (w 275 79 + 3600) (mTq_not (by decide))) cf568.out)
                                have cf597 : Hid (w577 332 (w 275 79 + 3600) = w206 275 78 + 1) := Hid.mk (Eq.trans (q579 332 (w 275 79 + 3600) (mTq_not (by decide))) cf570.out)
                                refine e_Ok.run (t' := (192, [(3, (0, w 275 79 + 3600)), (2, (0, w 275 79)), (1, (0, w 275 81)), (0, (1, 275))], [(0, w 275 79), (0, 3), (1, 275)], w577)) 3 rfl ?_
                                refine e_Ok.mul (z := 3 * w 275 79) rfl (by omega) (by omega) ?_
                                refine e_Ok.run (t' := (194, [(3, (0, w 275 79 + 3600)), (2, (0, w 275 79)), (1, (0, w 275 81)), (0, (1, 275))], [(0, 2), (0, 3 * w 275 79), (1, 275)], w577)) 1 rfl ?_
                                refine e_Ok.add (z := 3 * w 275 79 + 2) rfl (by omega) (by omega) ?_
                                refine e_Ok.putf rfl (el_o rfl) rfl rfl ?_
                                generalize hw598 : e_up w577 275 81 (3 * w 275 79 + 2) = w598
                                have f599 : e_fr (mStm (w 275 78) (w 275 79) (w 275 80) (w 275 94)) w w598 := e_fr.up f591 hw598 (by unfold mStm; omega)
                                have u600 : Hid (w598 275 78 = w427 275 78 + 1) := Hid.mk (Eq.trans (by rw [← hw598]; exact e_up_ne _ _ (Or.inr (by decide))) u581.out)
                                have u601 : Hid (w598 275 79 = w427 275 79) := Hid.mk (Eq.trans (by rw [← hw598]; exact e_up_ne _ _ (Or.inr (by decide))) u582.out)
                                have u602 : Hid (w598 275 80 = w427 275 80) := Hid.mk (Eq.trans (by rw [← hw598]; exact e_up_ne _ _ (Or.inr (by decide))) u583.out)
                                have u603 : Hid (w598 275 81 = 3 * w 275 79 + 2) := Hid.mk (by rw [← hw598]; exact e_up_eq _ _ _ _)
                                have u604 : Hid (w598 275 82 = w 275 82) := Hid.mk (Eq.trans (by rw [← hw598]; exact e_up_ne _ _ (Or.inr (by decide))) u585.out)
                                have u605 : Hid (w598 275 83 = w427 275 83) := Hid.mk (Eq.trans (by rw [← hw598]; exact e_up_ne _ _ (Or.inr (by decide))) u586.out)
                                have u608 : Hid (w598 275 86 = w577 275 86) := Hid.mk (by rw [← hw598]; exact e_up_ne _ _ (Or.inr (by decide)))
                                have u610 : Hid (w598 275 88 = w427 275 88) := Hid.mk (Eq.trans (by rw [← hw598]; exact e_up_ne _ _ (Or.inr (by decide))) u587.out)
                                have u611 : Hid (w598 275 94 = w427 275 94) := Hid.mk (Eq.trans (by rw [← hw598]; exact e_up_ne _ _ (Or.inr (by decide))) u588.out)
                                have c612 := cSt.wr c589 hw598 (Or.inr rfl) (by omega) rfl (fun _ => ⟨⟨by decide, by decide⟩, fun y => by omega⟩)
                                have cf615 : Hid (w598 331 (w 275 79 + 3600) = w 275 81) := Hid.mk (Eq.trans (by rw [← hw598]; exact e_up_ne _ _ (Or.inl (by decide))) cf595.out)
                                have cf617 : Hid (w598 332 (w 275 79 + 3600) = w206 275 78 + 1) := Hid.mk (Eq.trans (by rw [← hw598]; exact e_up_ne _ _ (Or.inl (by decide))) cf597.out)
                                have g618 : Hid (w427 275 88 = 0 → GZ w598 N (w427 275 78 + 1) (w427 275 94) (w427 275 79) (w427 275 80) P (3 * w 275 79 + 1) OW (o + 1)) := Hid.mk (fun z => GZ.pr (g592.out z) (fun c k q => by rw [← hw598]; exact e_up_ne _ _ (by omega)))
                                refine e_Ok.run (t' := (199, [(3, (0, w 275 79 + 3600)), (2, (0, w 275 79)), (1, (0, w 275 81)), (0, (1, 275))], [(1, 275)], w598)) 1 rfl ?_
                                refine e_Ok.getr (z := 333) rfl (el_o rfl) rfl rfl ((f599 275 70 (by unfold mStm; omega)).trans (e_Has.eq hc.1 rfl)) (by omega) ?_
                                refine e_Ok.run (t' := (204, [(3, (0, w 275 79 + 3600)), (2, (0, w 275 79)), (1, (0, w 275 81)), (0, (1, 275))], [(1, 275), (0, w 275 79 + 3600), (1, 333)], w598)) 2 rfl ?_
                                refine e_Ok.getf (z := w427 275 78 + 1) rfl (el_o rfl) rfl rfl u600.out (by omega) ?_
                                refine e_Ok.ast rfl (el_o rfl) rfl rfl (by omega) ?_
                                generalize hw619 : e_up w598 333 (w 275 79 + 3600) (w427 275 78 + 1) = w619
                                have f620 : e_fr (mStm (w 275 78) (w 275 79) (w 275 80) (w 275 94)) w w619 := e_fr.up f599 hw619 (by unfold mStm; omega)
                                have u621 : Hid (w619 275 78 = w427 275 78 + 1) := Hid.mk (Eq.trans (by rw [← hw619]; exact e_up_ne _ _ (Or.inl (by decide))) u600.out)
                                have u622 : Hid (w619 275 79 = w427 275 79) := Hid.mk (Eq.trans (by rw [← hw619]; exact e_up_ne _ _ (Or.inl (by decide))) u601.out)
                                have u623 : Hid (w619 275 80 = w427 275 80) := Hid.mk (Eq.trans (by rw [← hw619]; exact e_up_ne _ _ (Or.inl (by decide))) u602.out)
                                have u624 : Hid (w619 275 81 = 3 * w 275 79 + 2) := Hid.mk (Eq.trans (by rw [← hw619]; exact e_up_ne _ _ (Or.inl (by decide))) u603.out)
                                have u625 : Hid (w619 275 82 = w 275 82) := Hid.mk (Eq.trans (by rw [← hw619]; exact e_up_ne _ _ (Or.inl (by decide))) u604.out)
                                have u626 : Hid (w619 275 83 = w427 275 83) := Hid.mk (Eq.trans (by rw [← hw619]; exact e_up_ne _ _ (Or.inl (by decide))) u605.out)
                                have u629 : Hid (w619 275 86 = w577 275 86) := Hid.mk (Eq.trans (by rw [← hw619]; exact e_up_ne _ _ (Or.inl (by decide))) u608.out)
                                have u631 : Hid (w619 275 88 = w427 275 88) := Hid.mk (Eq.trans (by rw [← hw619]; exact e_up_ne _ _ (Or.inl (by decide))) u610.out)
                                have u632 : Hid (w619 275 94 = w427 275 94) := Hid.mk (Eq.trans (by rw [← hw619]; exact e_up_ne _ _ (Or.inl (by decide))) u611.out)
                                have c633 := cSt.wr c612 hw619 (Or.inl rfl) (by omega) rfl (fun y => absurd y (by decide))
                                have cf636 : Hid (w619 331 (w 275 79 + 3600) = w 275 81) := Hid.mk (Eq.trans (by rw [← hw619]; exact e_up_ne _ _ (Or.inl (by decide))) cf615.out)
                                have cf637 : Hid (w619 332 (w 275 79 + 3600) = w206 275 78 + 1) := Hid.mk (Eq.trans (by rw [← hw619]; exact e_up_ne _ _ (Or.inl (by decide))) cf617.out)
                                have ev638 : Hid (w619 333 (w 275 79 + 3600) = w427 275 78 + 1) := Hid.mk (by rw [← hw619]; exact e_up_eq _ _ _ _)
                                have ow639 := (show Hid _ from GB.ow hG f599)
                                have g640 : Hid (w427 275 88 = 0 → GB w619 N (w427 275 78 + 1) (w427 275 94) (w427 275 79) (w427 275 80) P (3 * (w 275 79) + 2) OW (o + 1)) := Hid.mk (fun z => GZ.fina (GZ.re (g618.out (by omega)) rfl rfl rfl rfl (show _ = 3 * (w 275 79) + 1 from by omega)) (by omega) (by omega) (Eq.trans ev638.out (by omega)) (by rw [cf617.out]; omega) (fun c k y1 y2 => by rw [← hw619]; exact e_up_ne _ _ (by omega)) (fun v y => by rw [cf615.out]; exact ow639.out.1 v y) (by rw [cf615.out]; have := ow639.out.2; omega))
                                have cf641 : Hid (w619 333 (w 275 79 + 3600) = w427 275 78 + 1) := Hid.mk (ev638.out)
                                refine e_Ok.run (t' := (209, [(3, (0, w 275 79 + 3600)), (2, (0, w 275 79)), (1, (0, w 275 81)), (0, (1, 275))], [(1, 275)], w619)) 1 rfl ?_
                                refine e_Ok.callV rfl (Nat.le_trans (by decide) hdq) rfl rfl rfl rfl ((hS (by omega) d rfl) w619 N (o + 1) P OW c633 hNr (by rw [u631.out] <;> omega) (Eq.trans u626.out (show _ = o + 1 from by omega)) (by rw [u625.out] <;> exact hv.out) (by unfold stB; rw [u621.out, u629.out, u632.out, u622.out, u623.out]; omega) (by omega) (by rw [u621.out, u632.out, u622.out, u623.out, u624.out] <;> exact (GB.re (g640.out (by omega)) rfl rfl rfl rfl (show _ = 3 * w 275 79 + 2 from by omega)))) (fun r642 w643 h644 => ?_)
                                obtain ⟨rfl, q645F, q645c, q645l, q645w⟩ := h644
                                unfold stL at q645l
                                obtain ⟨q6451, q6452, q6453, q6454, q6455, q6456, q6457, q6458, q6459, q64510, q64511, q64512⟩ := q645l
                                replace q6459 := (show Hid _ from q6459)
                                replace q64510 := (show Hid _ from q64510)
                                replace q645F := (show Hid _ from q645F)
                                rw [u629.out] at q6451
                                rw [u621.out] at q6452
                                rw [u621.out, u629.out, u626.out, u622.out, u623.out] at q6453
                                rw [u621.out, u629.out] at q6454
                                rw [u632.out] at q6455
                                rw [u632.out, u629.out] at q6456
                                rw [u626.out] at q6457
                                rw [u626.out] at q6458
                                rw [u622.out] at q64511
                                rw [u623.out] at q64512
                                have f646 : Hid (e_fr (mStm (w427 275 78 + 1) (w427 275 79) (w427 275 80) (w427 275 94)) w619 w643) := Hid.mk (by have y := q645F.out; rw [u621.out, u622.out, u623.out, u632.out] at y; exact y)
                                replace q645w := (show Hid _ from q645w)
                                have u647 : Hid (w643 275 81 = 3 * w 275 79 + 2) := Hid.mk (Eq.trans (q6459.out) u624.out)
                                have u648 : Hid (w643 275 82 = w 275 82) := Hid.mk (Eq.trans (q64510.out) u625.out)
                                have t649 := tkS.lin q645c.2.2.2.1
                                have t650 := e_Has.get q645c.2.1 (c := 275) (k := 88) (lo := 0) (hi := 7) rfl (by decide)
                                have f651 : e_fr (mStm (w 275 78) (w 275 79) (w 275 80) (w 275 94)) w w643 := e_fr.trans f620 (e_fr.mono f646.out (fun c k g => mSt_St (by omega) (by omega) (by omega) (by omega) g))
                                have g652 : Hid (w643 275 88 = 0 → GB w643 N (w643 275 78) (w643 275 94) (w643 275 79) (w643 275 80) P (3 * w 275 79 + 2) OW (o + 1)) := Hid.mk (fun z => by have y := q645w.out z; rw [u647.out] at y; exact y)
                                have cf655 : Hid (w643 331 (w 275 79 + 3600) = w 275 81) := Hid.mk (Eq.trans (f646.out 331 (w 275 79 + 3600) (by unfold mStm; omega)) cf636.out)
                                have cf656 : Hid (w643 332 (w 275 79 + 3600) = w206 275 78 + 1) := Hid.mk (Eq.trans (f646.out 332 (w 275 79 + 3600) (by unfold mStm; omega)) cf637.out)
                                have cf657 : Hid (w643 333 (w 275 79 + 3600) = w427 275 78 + 1) := Hid.mk (Eq.trans (f646.out 333 (w 275 79 + 3600) (by unfold mStm; omega)) cf641.out)
                                show e_Ok 20 elay ecode eI (d + 1) 352 (212, [(3, (0, w 275 79 + 3600)), (2, (0, w 275 79)), (1, (0, w 275 81)), (0, (1, 275))], [], w643) _
                                refine e_Ok.run (t' := (216, [(3, (0, w 275 79 + 3600)), (2, (0, w 275 79)), (1, (0, w 275 81)), (0, (1, 275))], [(0, w 275 79), (0, 51), (1, 275)], w643)) 3 rfl ?_
                                refine e_Ok.callV rfl (Nat.le_trans (by decide) hdq) rfl rfl rfl rfl (c_336 q645c.1 (n := w643 275 78) rfl (by omega) (s := 3 * w 275 79 + 2) u647.out (by omega)) (fun r658 w659 h660 => ?_)
                                obtain ⟨rfl, q661⟩ := h660
                                replace q661 := (show Hid (EM w643 w659 (w643 275 78) 51 (w 275 79) (3 * w 275 79 + 2)) from q661)
                                have u662 : Hid (w659 275 78 = w643 275 78 + 1) := Hid.mk (Eq.trans q661.out.2.2.2.2 (by omega))
                                have u663 : Hid (w659 275 79 = w643 275 79) := Hid.mk (q661.out.fld (by decide))
                                have u664 : Hid (w659 275 80 = w643 275 80) := Hid.mk (q661.out.fld (by decide))
                                have u666 : Hid (w659 275 82 = w 275 82) := Hid.mk (Eq.trans (q661.out.fld (by decide)) u648.out)
                                have u667 : Hid (w659 275 83 = w643 275 83) := Hid.mk (q661.out.fld (by decide))
                                have u668 : Hid (w659 275 84 = w643 275 84) := Hid.mk (q661.out.fld (by decide))
                                have u669 : Hid (w659 275 85 = w643 275 85) := Hid.mk (q661.out.fld (by decide))
                                have u670 : Hid (w659 275 86 = w643 275 86) := Hid.mk (q661.out.fld (by decide))
                                have u671 : Hid (w659 275 87 = w643 275 87) := Hid.mk (q661.out.fld (by decide))
                                have u672 : Hid (w659 275 88 = w643 275 88) := Hid.mk (q661.out.fld (by decide))
                                have u673 : Hid (w659 275 94 = w643 275 94) := Hid.mk (q661.out.fld (by decide))
                                have f674 : e_fr (mStm (w 275 78) (w 275 79) (w 275 80) (w 275 94)) w w659 := e_fr.trans f651 (q661.out.st (by omega))
                                have c675 := cSt.em q645c q661.out (by decide) (by omega) (by omega)
                                have cf678 : Hid (w659 331 (w 275 79 + 3600) = w 275 81) := Hid.mk (Eq.trans (q661.out.far (by decide)) cf655.out)
                                have cf679 : Hid (w659 332 (w 275 79 + 3600) = w206 275 78 + 1) := Hid.mk (Eq.trans (q661.out.far (by decide)) cf656.out)
                                have cf680 : Hid (w659 333 (w 275 79 + 3600) = w427 275 78 + 1) := Hid.mk (Eq.trans (q661.out.far (by decide)) cf657.out)
                                have g681 : Hid (w643 275 88 = 0 → GZ w659 N (w643 275 78 + 1) (w643 275 94) (w643 275 79) (w643 275 80) P (3 * w 275 79 + 2) OW (o + 1)) := Hid.mk (fun z => (GI.zz (g652.out (by omega)).1 ((g652.out (by omega)).2.2 51 (sg_no (by omega))) (g652.out (by omega)).2.1 q661.out (by omega) (fun y => absurd y (by decide)) (fun _ => ⟨⟨by omega, by omega⟩, by omega⟩)))
                                show e_Ok 20 elay ecode eI (d + 1) 352 (219, [(3, (0, w 275 79 + 3600)), (2, (0, w 275 79)), (1, (0, w 275 81)), (0, (1, 275))], [(0, w643 275 78)], w659) _
                                refine e_Ok.run (t' := (222, [(3, (0, w 275 79 + 3600)), (2, (0, w 275 79)), (1, (0, w 275 81)), (0, (1, 275))], [(0, w 275 81), (1, 275)], w659)) 3 rfl ?_
                                refine e_Ok.putf rfl (el_o rfl) rfl rfl ?_
                                generalize hw682 : e_up w659 275 81 (w 275 81) = w682
                                have f683 : e_fr (mStm (w 275 78) (w 275 79) (w 275 80) (w 275 94)) w w682 := e_fr.up f674 hw682 (by unfold mStm; omega)
                                have u684 : Hid (w682 275 78 = w643 275 78 + 1) := Hid.mk (Eq.trans (by rw [← hw682]; exact e_up_ne _ _ (Or.inr (by decide))) u662.out)
                                have u685 : Hid (w682 275 79 = w643 275 79) := Hid.mk (Eq.trans (by rw [← hw682]; exact e_up_ne _ _ (Or.inr (by decide))) u663.out)
                                have u686 : Hid (w682 275 80 = w643 275 80) := Hid.mk (Eq.trans (by rw [← hw682]; exact e_up_ne _ _ (Or.inr (by decide))) u664.out)
                                have u687 : Hid (w682 275 81 = w 275 81) := Hid.mk (by rw [← hw682]; exact e_up_eq _ _ _ _)
                                have u688 : Hid (w682 275 82 = w 275 82) := Hid.mk (Eq.trans (by rw [← hw682]; exact e_up_ne _ _ (Or.inr (by decide))) u666.out)
                                have u689 : Hid (w682 275 83 = w643 275 83) := Hid.mk (Eq.trans (by rw [← hw682]; exact e_up_ne _ _ (Or.inr (by decide))) u667.out)
                                have u690 : Hid (w682 275 84 = w643 275 84) := Hid.mk (Eq.trans (by rw [← hw682]; exact e_up_ne _ _ (Or.inr (by decide))) u668.out)
                                have u691 : Hid (w682 275 85 = w643 275 85) := Hid.mk (Eq.trans (by rw [← hw682]; exact e_up_ne _ _ (Or.inr (by decide))) u669.out)
                                have u692 : Hid (w682 275 86 = w643 275 86) := Hid.mk (Eq.trans (by rw [← hw682]; exact e_up_ne _ _ (Or.inr (by decide))) u670.out)
                                have u693 : Hid (w682 275 87 = w643 275 87) := Hid.mk (Eq.trans (by rw [← hw682]; exact e_up_ne _ _ (Or.inr (by decide))) u671.out)
                                have u694 : Hid (w682 275 88 = w643 275 88) := Hid.mk (Eq.trans (by rw [← hw682]; exact e_up_ne _ _ (Or.inr (by decide))) u672.out)
                                have u695 : Hid (w682 275 94 = w643 275 94) := Hid.mk (Eq.trans (by rw [← hw682]; exact e_up_ne _ _ (Or.inr (by decide))) u673.out)
                                have c696 := cSt.wr c675 hw682 (Or.inr rfl) (by omega) rfl (fun _ => ⟨⟨by decide, by decide⟩, fun y => by omega⟩)
                                have cf699 : Hid (w682 331 (w 275 79 + 3600) = w 275 81) := Hid.mk (Eq.trans (by rw [← hw682]; exact e_up_ne _ _ (Or.inl (by decide))) cf678.out)
                                have cf700 : Hid (w682 332 (w 275 79 + 3600) = w206 275 78 + 1) := Hid.mk (Eq.trans (by rw [← hw682]; exact e_up_ne _ _ (Or.inl (by decide))) cf679.out)
                                have cf701 : Hid (w682 333 (w 275 79 + 3600) = w427 275 78 + 1) := Hid.mk (Eq.trans (by rw [← hw682]; exact e_up_ne _ _ (Or.inl (by decide))) cf680.out)
                                have g702 : Hid (w643 275 88 = 0 → GZ w682 N (w643 275 78 + 1) (w643 275 94) (w643 275 79) (w643 275 80) P (3 * w 275 79 + 2) OW (o + 1)) := Hid.mk (fun z => GZ.pr (g681.out z) (fun c k q => by rw [← hw682]; exact e_up_ne _ _ (by omega)))
                                refine e_Ok.run (t' := (226, [(3, (0, w 275 79 + 3600)), (2, (0, w 275 79)), (1, (0, w 275 81)), (0, (1, 275))], [(1, 275)], w682)) 1 rfl ?_
                                refine e_Ok.getr (z := 334) rfl (el_o rfl) rfl rfl ((f683 275 71 (by unfold mStm; omega)).trans (e_Has.eq hc.1 rfl)) (by omega) ?_
                                refine e_Ok.run (t' := (231, [(3, (0, w 275 79 + 3600)), (2, (0, w 275 79)), (1, (0, w 275 81)), (0, (1, 275))], [(1, 275), (0, w 275 79 + 3600), (1, 334)], w682)) 2 rfl ?_
                                refine e_Ok.getf (z := w643 275 78 + 1) rfl (el_o rfl) rfl rfl u684.out (by omega) ?_
                                refine e_Ok.ast rfl (el_o rfl) rfl rfl (by omega) ?_
                                generalize hw703 : e_up w682 334 (w 275 79 + 3600) (w643 275 78 + 1) = w703
                                have f704 : e_fr (mStm (w 275 78) (w 275 79) (w 275 80) (w 275 94)) w w703 := e_fr.up f683 hw703 (by unfold mStm; omega)
                                have u705 : Hid (w703 275 78 = w643 275 78 + 1) := Hid.mk (Eq.trans (by rw [← hw703]; exact e_up_ne _ _ (Or.inl (by decide))) u684.out)
                                have u706 : Hid (w703 275 79 = w643 275 79) := Hid.mk (Eq.trans (by rw [← hw703]; exact e_up_ne _ _ (Or.inl (by decide))) u685.out)
                                have u707 : Hid (w703 275 80 = w643 275 80) := Hid.mk (Eq.trans (by rw [← hw703]; exact e_up_ne _ _ (Or.inl (by decide))) u686.out)
                                have u708 : Hid (w703 275 81 = w 275 81) := Hid.mk (Eq.trans (by rw [← hw703]; exact e_up_ne _ _ (Or.inl (by decide))) u687.out)
                                have u709 : Hid (w703 275 82 = w 275 82) := Hid.mk (Eq.trans (by rw [← hw703]; exact e_up_ne _ _ (Or.inl (by decide))) u688.out)
                                have u710 : Hid (w703 275 83 = w643 275 83) := Hid.mk (Eq.trans (by rw [← hw703]; exact e_up_ne _ _ (Or.inl (by decide))) u689.out)
                                have u711 : Hid (w703 275 84 = w643 275 84) := Hid.mk (Eq.trans (by rw [← hw703]; exact e_up_ne _ _ (Or.inl (by decide))) u690.out)
                                have u712 : Hid (w703 275 85 = w643 275 85) := Hid.mk (Eq.trans (by rw [← hw703]; exact e_up_ne _ _ (Or.inl (by decide))) u691.out)
                                have u713 : Hid (w703 275 86 = w643 275 86) := Hid.mk (Eq.trans (by rw [← hw703]; exact e_up_ne _ _ (Or.inl (by decide))) u692.out)
                                have u714 : Hid (w703 275 87 = w643 275 87) := Hid.mk (Eq.trans (by rw [← hw703]; exact e_up_ne _ _ (Or.inl (by decide))) u693.out)
                                have u715 : Hid (w703 275 88 = w643 275 88) := Hid.mk (Eq.trans (by rw [← hw703]; exact e_up_ne _ _ (Or.inl (by decide))) u694.out)
                                have u716 : Hid (w703 275 94 = w643 275 94) := Hid.mk (Eq.trans (by rw [← hw703]; exact e_up_ne _ _ (Or.inl (by decide))) u695.out)
                                have c717 := cSt.wr c696 hw703 (Or.inl rfl) (by omega) rfl (fun y => absurd y (by decide))
                                have ev723 : Hid (w703 334 (w 275 79 + 3600) = w643 275 78 + 1) := Hid.mk (by rw [← hw703]; exact e_up_eq _ _ _ _)
                                have ow724 := (show Hid _ from GB.ow hG f683)
                                have p725 : Hid (piR w703 (w 275 81) ≤ O) := Hid.mk (GB.ow hG f704).2
                                have g726 : Hid (w643 275 88 = 0 → GB w703 N (w643 275 78 + 1) (w643 275 94) (w643 275 79) (w643 275 80) P (w 275 81) OW O) := Hid.mk (fun z => GB.oo (GB.re (GZ.over (GZ.re (g702.out (by omega)) rfl rfl rfl rfl (show _ = 3 * (w 275 79) + 2 from by omega)) (by omega) (by omega) (Eq.trans ev723.out (by omega)) (by rw [cf700.out, cf701.out]; omega) (fun c k y1 y2 => by rw [← hw703]; exact e_up_ne _ _ (by omega)) (fun v y => by rw [cf699.out]; exact ow724.out.1 v y) (by rw [cf699.out]; have := ow724.out.2; omega)) rfl rfl rfl rfl cf699.out) p725.out)
                                refine e_Ok.run (t' := (238, [(3, (0, w 275 79 + 3600)), (2, (0, w 275 79)), (1, (0, w 275 81)), (0, (1, 275))], [(0, 2), (1, 275), (1, 275)], w703)) 3 rfl ?_
                                refine e_Ok.callV rfl (Nat.le_trans (by decide) hdq) rfl rfl rfl rfl (c_332 c717.1 (N := N) c717.2.2.2.1) (fun r727 w728 h729 => ?_)
                                obtain ⟨z730, rfl, rfl, q731⟩ := h729
                                obtain ⟨rfl, q731, q731b⟩ | ⟨rfl, q731n⟩ := q731
                                · show e_Ok 20 elay ecode eI (d + 1) 352 (241, [(3, (0, w 275 79 + 3600)), (2, (0, w 275 79)), (1, (0, w 275 81)), (0, (1, 275))], [(0, 1), (1, 275)], w703) _
                                  rw [u711.out] at q731
                                  rw [u712.out] at q731b
                                  refine e_Ok.callV rfl (Nat.le_trans (by decide) hdq) rfl rfl rfl rfl (c_334 (Nat.le_trans (by decide) hdq) c717.1 c717.2.1 c717.2.2.1 hNr c717.2.2.2.1 (by decide)) (fun r732 w733 h734 => ?_)
                                  obtain ⟨rfl, q735⟩ := h734
                                  obtain ⟨rfl, q735z⟩ | ⟨q735z, q735b, q735, q735s, q735t⟩ | ⟨q735z, q735b, q735, q735T, q735H, q735r⟩ := q735
                                  · show e_Ok 20 elay ecode eI (d + 1) 352 (244, [(3, (0, w 275 79 + 3600)), (2, (0, w 275 79)), (1, (0, w 275 81)), (0, (1, 275))], [], w703) _
                                    rw [u715.out] at q735z
                                    clear q6453
                                    refine e_Ok.run (t' := (246, [(3, (0, w 275 79 + 3600)), (2, (0, w 275 79)), (1, (0, w 275 81)), (0, (1, 275))], [(1, 275), (1, 275)], w703)) 2 rfl ?_
                                    refine e_Ok.getf (z := w643 275 83) rfl (el_o rfl) rfl rfl u710.out (by omega) ?_
                                    refine e_Ok.run (t' := (250, [(3, (0, w 275 79 + 3600)), (2, (0, w 275 79)), (1, (0, w 275 81)), (0, (1, 275))], [(0, 1), (0, w643 275 83), (1, 275)], w703)) 1 rfl ?_
                                    refine e_Ok.sub' (z := w643 275 83 - 1) rfl (by omega) (by omega) ?_
                                    refine e_Ok.putf rfl (el_o rfl) rfl rfl ?_
                                    generalize hw736 : e_up w703 275 83 (w643 275 83 - 1) = w736
                                    have f737 : e_fr (mStm (w 275 78) (w 275 79) (w 275 80) (w 275 94)) w w736 := e_fr.up f704 hw736 (by unfold mStm; omega)
                                    have e738 := up83 hw736
                                    replace e738 := (show Hid _ from e738)
                                    have u739 : Hid (w736 275 78 = w643 275 78 + 1) := Hid.mk (Eq.trans (e738.out.1 275 78 (by decide)) u705.out)
                                    have u740 : Hid (w736 275 79 = w643 275 79) := Hid.mk (Eq.trans (e738.out.1 275 79 (by decide)) u706.out)
                                    have u741 : Hid (w736 275 80 = w643 275 80) := Hid.mk (Eq.trans (e738.out.1 275 80 (by decide)) u707.out)
                                    have u742 : Hid (w736 275 81 = w 275 81) := Hid.mk (Eq.trans (e738.out.1 275 81 (by decide)) u708.out)
                                    have u743 : Hid (w736 275 82 = w 275 82) := Hid.mk (Eq.trans (e738.out.1 275 82 (by decide)) u709.out)
                                    have u744 : Hid (w736 275 83 = w643 275 83 - 1) := Hid.mk (e738.out.2)
                                    have u747 : Hid (w736 275 86 = w643 275 86) := Hid.mk (Eq.trans (e738.out.1 275 86 (by decide)) u713.out)
                                    have u749 : Hid (w736 275 88 = w643 275 88) := Hid.mk (Eq.trans (e738.out.1 275 88 (by decide)) u715.out)
                                    have u750 : Hid (w736 275 94 = w643 275 94) := Hid.mk (Eq.trans (e738.out.1 275 94 (by decide)) u716.out)
                                    have c751 := cSt.up c717 hw736
                                    refine e_Ok.rets rfl rfl ?_
                                    exact ⟨rfl, f737, c751, (by unfold stL; rw [u739.out, u740.out, u741.out, u742.out, u743.out, u744.out, u747.out, u749.out, u750.out]; omega), (fun z => by rw [u749.out] at z; exact absurd z (by omega))⟩
                                  · show e_Ok 20 elay ecode eI (d + 1) 352 (244, [(3, (0, w 275 79 + 3600)), (2, (0, w 275 79)), (1, (0, w 275 81)), (0, (1, 275))], [], w733) _
                                    rw [u715.out] at q735z
                                    rw [u714.out] at q735t
                                    replace q6453 := q6453 (by omega)
                                    have p752 := tkS.pos c717.2.2.2.1 (by rw [u711.out] <;> omega)
                                    rw [u713.out, u714.out] at p752
                                    have p753 := tkS.key c717.2.2.2.1 (by rw [u711.out] <;> omega)
                                    rw [u713.out, u714.out, u712.out] at p753
                                    have u754 : Hid (w733 275 78 = w643 275 78 + 1) := Hid.mk (Eq.trans (q735 275 78 (mTq_fld (by decide))) u705.out)
                                    have u755 : Hid (w733 275 79 = w643 275 79) := Hid.mk (Eq.trans (q735 275 79 (mTq_fld (by decide))) u706.out)
                                    have u756 : Hid (w733 275 80 = w643 275 80) := Hid.mk (Eq.trans (q735 275 80 (mTq_fld (by decide))) u707.out)
                                    have u757 : Hid (w733 275 81 = w 275 81) := Hid.mk (Eq.trans (q735 275 81 (mTq_fld (by decide))) u708.out)
                                    have u758 : Hid (w733 275 82 = w 275 82) := Hid.mk (Eq.trans (q735 275 82 (mTq_fld (by decide))) u709.out)
                                    have u759 : Hid (w733 275 83 = w643 275 83) := Hid.mk (Eq.trans (q735 275 83 (mTq_fld (by decide))) u710.out)
                                    have u760 : Hid (w733 275 88 = w643 275 88) := Hid.mk (Eq.trans (q735 275 88 (mTq_fld (by decide))) u715.out)
                                    have u761 : Hid (w733 275 94 = w643 275 94) := Hid.mk (Eq.trans (q735 275 94 (mTq_fld (by decide))) u716.out)
                                    have c762 := cSt.tk c717 q735 q735s
                                    have t763 := tkS.lin c762.2.2.2.1
                                    have f764 : e_fr (mStm (w 275 78) (w 275 79) (w 275 80) (w 275 94)) w w733 := e_fr.trans f704 (e_fr.mono q735 (fun c k g => mTq_St g))
                                    have g765 : Hid (w643 275 88 = 0 → GB w733 N (w643 275 78 + 1) (w643 275 94) (w643 275 79) (w643 275 80) P (w 275 81) OW O) := Hid.mk (fun z => GB.pr (g726.out z) (prE.tk q735))
                                    refine e_Ok.run (t' := (246, [(3, (0, w 275 79 + 3600)), (2, (0, w 275 79)), (1, (0, w 275 81)), (0, (1, 275))], [(1, 275), (1, 275)], w733)) 2 rfl ?_
                                    refine e_Ok.getf (z := w643 275 83) rfl (el_o rfl) rfl rfl u759.out (by omega) ?_
                                    refine e_Ok.run (t' := (250, [(3, (0, w 275 79 + 3600)), (2, (0, w 275 79)), (1, (0, w 275 81)), (0, (1, 275))], [(0, 1), (0, w643 275 83), (1, 275)], w733)) 1 rfl ?_
                                    refine e_Ok.sub' (z := w643 275 83 - 1) rfl (by omega) (by omega) ?_
                                    refine e_Ok.putf rfl (el_o rfl) rfl rfl ?_
                                    generalize hw771 : e_up w733 275 83 (w643 275 83 - 1) = w771
                                    have f772 : e_fr (mStm (w 275 78) (w 275 79) (w 275 80) (w 275 94)) w w771 := e_fr.up f764 hw771 (by unfold mStm; omega)
                                    have e773 := up83 hw771
                                    replace e773 := (show Hid _ from e773)
                                    have u774 : Hid (w771 275 78 = w643 275 78 + 1) := Hid.mk (Eq.trans (e773.out.1 275 78 (by decide)) u754.out)
                                    have u775 : Hid (w771 275 79 = w643 275 79) := Hid.mk (Eq.trans (e773.out.1 275 79 (by decide)) u755.out)
                                    have u776 : Hid (w771 275 80 = w643 275 80) := Hid.mk (Eq.trans (e773.out.1 275 80 (by decide)) u756.out)
                                    have u777 : Hid (w771 275 81 = w 275 81) := Hid.mk (Eq.trans (e773.out.1 275 81 (by decide)) u757.out)
                                    have u778 : Hid (w771 275 82 = w 275 82) := Hid.mk (Eq.trans (e773.out.1 275 82 (by decide)) u758.out)
                                    have u779 : Hid (w771 275 83 = w643 275 83 - 1) := Hid.mk (e773.out.2)
                                    have u782 : Hid (w771 275 86 = w733 275 86) := Hid.mk (e773.out.1 275 86 (by decide))
                                    have u784 : Hid (w771 275 88 = w643 275 88) := Hid.mk (Eq.trans (e773.out.1 275 88 (by decide)) u760.out)
                                    have u785 : Hid (w771 275 94 = w643 275 94) := Hid.mk (Eq.trans (e773.out.1 275 94 (by decide)) u761.out)
                                    have c786 := cSt.up c762 hw771
                                    have g787 : Hid (w643 275 88 = 0 → GB w771 N (w643 275 78 + 1) (w643 275 94) (w643 275 79) (w643 275 80) P (w 275 81) OW O) := Hid.mk (fun z => GB.pr (g765.out z) (prE.up hw771))
                                    refine e_Ok.rets rfl rfl ?_
                                    exact ⟨rfl, f772, c786, (by unfold stL; rw [u774.out, u775.out, u776.out, u777.out, u778.out, u779.out, u782.out, u784.out, u785.out]; omega), (fun z => by rw [u784.out] at z; rw [u774.out, u785.out, u775.out, u776.out, u777.out]; exact (g787.out (by omega)))⟩
                                  · exact absurd q735b (by decide)
                                · show e_Ok 20 elay ecode eI (d + 1) 352 (241, [(3, (0, w 275 79 + 3600)), (2, (0, w 275 79)), (1, (0, w 275 81)), (0, (1, 275))], [(0, 0), (1, 275)], w703) _
                                  clear q731n
                                  refine e_Ok.callV rfl (Nat.le_trans (by decide) hdq) rfl rfl rfl rfl (c_334 (Nat.le_trans (by decide) hdq) c717.1 c717.2.1 c717.2.2.1 hNr c717.2.2.2.1 (by decide)) (fun r793 w794 h795 => ?_)
                                  obtain ⟨rfl, q796⟩ := h795
                                  obtain ⟨rfl, q796z⟩ | ⟨q796z, q796b, q796, q796s, q796t⟩ | ⟨q796z, q796b, q796, q796T, q796H, q796r⟩ := q796
                                  · show e_Ok 20 elay ecode eI (d + 1) 352 (244, [(3, (0, w 275 79 + 3600)), (2, (0, w 275 79)), (1, (0, w 275 81)), (0, (1, 275))], [], w703) _
                                    rw [u715.out] at q796z
                                    clear q6453
                                    refine e_Ok.run (t' := (246, [(3, (0, w 275 79 + 3600)), (2, (0, w 275 79)), (1, (0, w 275 81)), (0, (1, 275))], [(1, 275), (1, 275)], w703)) 2 rfl ?_
                                    refine e_Ok.getf (z := w643 275 83) rfl (el_o rfl) rfl rfl u710.out (by omega) ?_
                                    refine e_Ok.run (t' := (250, [(3, (0, w 275 79 + 3600)), (2, (0, w 275 79)), (1, (0, w 275 81)), (0, (1, 275))], [(0, 1), (0, w643 275 83), (1, 275)], w703)) 1 rfl ?_
                                    refine e_Ok.sub' (z := w643 275 83 - 1) rfl (by omega) (by omega) ?_
                                    refine e_Ok.putf rfl (el_o rfl) rfl rfl ?_
                                    generalize hw797 : e_up w703 275 83 (w643 275 83 - 1) = w797
                                    have f798 : e_fr (mStm (w 275 78) (w 275 79) (w 275 80) (w 275 94)) w w797 := e_fr.up f704 hw797 (by unfold mStm; omega)
                                    have e799 := up83 hw797
                                    replace e799 := (show Hid _ from e799)
                                    have u800 : Hid (w797 275 78 = w643 275 78 + 1) := Hid.mk (Eq.trans (e799.out.1 275 78 (by decide)) u705.out)
                                    have u801 : Hid (w797 275 79 = w643 275 79) := Hid.mk (Eq.trans (e799.out.1 275 79 (by decide)) u706.out)
                                    have u802 : Hid (w797 275 80 = w643 275 80) := Hid.mk (Eq.trans (e799.out.1 275 80 (by decide)) u707.out)
                                    have u803 : Hid (w797 275 81 = w 275 81) := Hid.mk (Eq.trans (e799.out.1 275 81 (by decide)) u708.out)
                                    have u804 : Hid (w797 275 82 = w 275 82) := Hid.mk (Eq.trans (e799.out.1 275 82 (by decide)) u709.out)
                                    have u805 : Hid (w797 275 83 = w643 275 83 - 1) := Hid.mk (e799.out.2)
                                    have u808 : Hid (w797 275 86 = w643 275 86) := Hid.mk (Eq.trans (e799.out.1 275 86 (by decide)) u713.out)
                                    have u810 : Hid (w797 275 88 = w643 275 88) := Hid.mk (Eq.trans (e799.out.1 275 88 (by decide)) u715.out)
                                    have u811 : Hid (w797 275 94 = w643 275 94) := Hid.mk (Eq.trans (e799.out.1 275 94 (by decide)) u716.out)
                                    have c812 := cSt.up c717 hw797
                                    refine e_Ok.rets rfl rfl ?_
                                    exact ⟨rfl, f798, c812, (by unfold stL; rw [u800.out, u801.out, u802.out, u803.out, u804.out, u805.out, u808.out, u810.out, u811.out]; omega), (fun z => by rw [u810.out] at z; exact absurd z (by omega))⟩
                                  · exact absurd q796b (by decide)
                                  · show e_Ok 20 elay ecode eI (d + 1) 352 (244, [(3, (0, w 275 79 + 3600)), (2, (0, w 275 79)), (1, (0, w 275 81)), (0, (1, 275))], [], w794) _
                                    rw [u715.out] at q796z
                                    replace q6453 := q6453 (by omega)
                                    have u813 : Hid (w794 275 78 = w643 275 78 + 1) := Hid.mk (Eq.trans (q796 275 78 (mRf_fld (by decide))) u705.out)
                                    have u814 : Hid (w794 275 79 = w643 275 79) := Hid.mk (Eq.trans (q796 275 79 (mRf_fld (by decide))) u706.out)
                                    have u815 : Hid (w794 275 80 = w643 275 80) := Hid.mk (Eq.trans (q796 275 80 (mRf_fld (by decide))) u707.out)
                                    have u816 : Hid (w794 275 81 = w 275 81) := Hid.mk (Eq.trans (q796 275 81 (mRf_fld (by decide))) u708.out)
                                    have u817 : Hid (w794 275 82 = w 275 82) := Hid.mk (Eq.trans (q796 275 82 (mRf_fld (by decide))) u709.out)
                                    have u818 : Hid (w794 275 83 = w643 275 83) := Hid.mk (Eq.trans (q796 275 83 (mRf_fld (by decide))) u710.out)
                                    have u821 : Hid (w794 275 86 = w643 275 86) := Hid.mk (Eq.trans (q796 275 86 (mRf_fld (by decide))) u713.out)
                                    have u823 : Hid (w794 275 94 = w643 275 94) := Hid.mk (Eq.trans (q796 275 94 (mRf_fld (by decide))) u716.out)
                                    have c824 := cSt.rf c717 q796 q796T q796H
                                    have f825 : e_fr (mStm (w 275 78) (w 275 79) (w 275 80) (w 275 94)) w w794 := e_fr.trans f704 (e_fr.mono q796 (fun c k g => mRf_St g))
                                    refine e_Ok.run (t' := (246, [(3, (0, w 275 79 + 3600)), (2, (0, w 275 79)), (1, (0, w 275 81)), (0, (1, 275))], [(1, 275), (1, 275)], w794)) 2 rfl ?_
                                    refine e_Ok.getf (z := w643 275 83) rfl (el_o rfl) rfl rfl u818.out (by omega) ?_
                                    refine e_Ok.run (t' := (250, [(3, (0, w 275 79 + 3600)), (2, (0, w 275 79)), (1, (0, w 275 81)), (0, (1, 275))], [(0, 1), (0, w643 275 83), (1, 275)], w794)) 1 rfl ?_
                                    refine e_Ok.sub' (z := w643 275 83 - 1) rfl (by omega) (by omega) ?_
                                    refine e_Ok.putf rfl (el_o rfl) rfl rfl ?_
                                    generalize hw826 : e_up w794 275 83 (w643 275 83 - 1) = w826
                                    have f827 : e_fr (mStm (w 275 78) (w 275 79) (w 275 80) (w 275 94)) w w826 := e_fr.up f825 hw826 (by unfold mStm; omega)
                                    have e828 := up83 hw826
                                    replace e828 := (show Hid _ from e828)
                                    have u829 : Hid (w826 275 78 = w643 275 78 + 1) := Hid.mk (Eq.trans (e828.out.1 275 78 (by decide)) u813.out)
                                    have u830 : Hid (w826 275 79 = w643 275 79) := Hid.mk (Eq.trans (e828.out.1 275 79 (by decide)) u814.out)
                                    have u831 : Hid (w826 275 80 = w643 275 80) := Hid.mk (Eq.trans (e828.out.1 275 80 (by decide)) u815.out)
                                    have u832 : Hid (w826 275 81 = w 275 81) := Hid.mk (Eq.trans (e828.out.1 275 81 (by decide)) u816.out)
                                    have u833 : Hid (w826 275 82 = w 275 82) := Hid.mk (Eq.trans (e828.out.1 275 82 (by decide)) u817.out)
                                    have u834 : Hid (w826 275 83 = w643 275 83 - 1) := Hid.mk (e828.out.2)
                                    have u837 : Hid (w826 275 86 = w643 275 86) := Hid.mk (Eq.trans (e828.out.1 275 86 (by decide)) u821.out)
                                    have u839 : Hid (w826 275 88 = w794 275 88) := Hid.mk (e828.out.1 275 88 (by decide))
                                    have u840 : Hid (w826 275 94 = w643 275 94) := Hid.mk (Eq.trans (e828.out.1 275 94 (by decide)) u823.out)
                                    have c841 := cSt.up c824 hw826
                                    refine e_Ok.rets rfl rfl ?_
                                    exact ⟨rfl, f827, c841, (by unfold stL; rw [u829.out, u830.out, u831.out, u832.out, u833.out, u834.out, u837.out, u839.out, u840.out]; omega), (fun z => by rw [u839.out] at z; exact absurd z (by omega))⟩
                              · exact absurd q579b (by decide)
                            · show e_Ok 20 elay ecode eI (d + 1) 352 (186, [(3, (0, w 275 79 + 3600)), (2, (0, w 275 79)), (1, (0, w 275 81)), (0, (1, 275))], [(0, 0), (1, 275)], w549) _
                              clear q575n
                              refine e_Ok.callV rfl (Nat.le_trans (by decide) hdq) rfl rfl rfl rfl (c_334 (Nat.le_trans (by decide) hdq) c562.1 c562.2.1 c562.2.2.1 hNr c562.2.2.2.1 (by decide)) (fun r842 w843 h844 => ?_)
                              obtain ⟨rfl, q845⟩ := h844
                              obtain ⟨rfl, q845z⟩ | ⟨q845z, q845b, q845, q845s, q845t⟩ | ⟨q845z, q845b, q845, q845T, q845H, q845r⟩ := q845
                              · rw [u560.out] at q845z; exact absurd q845z (by omega)
                              · exact absurd q845b (by decide)
                              · show e_Ok 20 elay ecode eI (d + 1) 352 (189, [(3, (0, w 275 79 + 3600)), (2, (0, w 275 79)), (1, (0, w 275 81)), (0, (1, 275))], [], w843) _
                                rw [u560.out] at q845z
                                have u846 : Hid (w843 275 78 = w427 275 78 + 1) := Hid.mk (Eq.trans (q845 275 78 (mRf_fld (by decide))) u554.out)
                                have u847 : Hid (w843 275 79 = w427 275 79) := Hid.mk (Eq.trans (q845 275 79 (mRf_fld (by decide))) u555.out)
                                have u848 : Hid (w843 275 80 = w427 275 80) := Hid.mk (Eq.trans (q845 275 80 (mRf_fld (by decide))) u556.out)
                                have u850 : Hid (w843 275 82 = w 275 82) := Hid.mk (Eq.trans (q845 275 82 (mRf_fld (by decide))) u558.out)
                                have u851 : Hid (w843 275 83 = w427 275 83) := Hid.mk (Eq.trans (q845 275 83 (mRf_fld (by decide))) u559.out)
                                have u852 : Hid (w843 275 84 = w549 275 84) := Hid.mk (q845 275 84 (mRf_fld (by decide)))
                                have u853 : Hid (w843 275 85 = w549 275 85) := Hid.mk (q845 275 85 (mRf_fld (by decide)))
                                have u854 : Hid (w843 275 86 = w549 275 86) := Hid.mk (q845 275 86 (mRf_fld (by decide)))
                                have u856 : Hid (w843 275 94 = w427 275 94) := Hid.mk (Eq.trans (q845 275 94 (mRf_fld (by decide))) u561.out)
                                have c857 := cSt.rf c562 q845 q845T q845H
                                have f858 : e_fr (mStm (w 275 78) (w 275 79) (w 275 80) (w 275 94)) w w843 := e_fr.trans f564 (e_fr.mono q845 (fun c k g => mRf_St g))
                                refine e_Ok.run (t' := (192, [(3, (0, w 275 79 + 3600)), (2, (0, w 275 79)), (1, (0, w 275 81)), (0, (1, 275))], [(0, w 275 79), (0, 3), (1, 275)], w843)) 3 rfl ?_
                                refine e_Ok.mul (z := 3 * w 275 79) rfl (by omega) (by omega) ?_
                                refine e_Ok.run (t' := (194, [(3, (0, w 275 79 + 3600)), (2, (0, w 275 79)), (1, (0, w 275 81)), (0, (1, 275))], [(0, 2), (0, 3 * w 275 79), (1, 275)], w843)) 1 rfl ?_
                                refine e_Ok.add (z := 3 * w 275 79 + 2) rfl (by omega) (by omega) ?_
                                refine e_Ok.putf rfl (el_o rfl) rfl rfl ?_
                                generalize hw859 : e_up w843 275 81 (3 * w 275 79 + 2) = w859
                                have f860 : e_fr (mStm (w 275 78) (w 275 79) (w 275 80) (w 275 94)) w w859 := e_fr.up f858 hw859 (by unfold mStm; omega)
                                have u861 : Hid (w859 275 78 = w427 275 78 + 1) := Hid.mk (Eq.trans (by rw [← hw859]; exact e_up_ne _ _ (Or.inr (by decide))) u846.out)
                                have u862 : Hid (w859 275 79 = w427 275 79) := Hid.mk (Eq.trans (by rw [← hw859]; exact e_up_ne _ _ (Or.inr (by decide))) u847.out)
                                have u863 : Hid (w859 275 80 = w427 275 80) := Hid.mk (Eq.trans (by rw [← hw859]; exact e_up_ne _ _ (Or.inr (by decide))) u848.out)
                                have u864 : Hid (w859 275 81 = 3 * w 275 79 + 2) := Hid.mk (by rw [← hw859]; exact e_up_eq _ _ _ _)
                                have u865 : Hid (w859 275 82 = w 275 82) := Hid.mk (Eq.trans (by rw [← hw859]; exact e_up_ne _ _ (Or.inr (by decide))) u850.out)
                                have u866 : Hid (w859 275 83 = w427 275 83) := Hid.mk (Eq.trans (by rw [← hw859]; exact e_up_ne _ _ (Or.inr (by decide))) u851.out)
                                have u867 : Hid (w859 275 84 = w549 275 84) := Hid.mk (Eq.trans (by rw [← hw859]; exact e_up_ne _ _ (Or.inr (by decide))) u852.out)
                                have u868 : Hid (w859 275 85 = w549 275 85) := Hid.mk (Eq.trans (by rw [← hw859]; exact e_up_ne _ _ (Or.inr (by decide))) u853.out)
                                have u869 : Hid (w859 275 86 = w549 275 86) := Hid.mk (Eq.trans (by rw [← hw859]; exact e_up_ne _ _ (Or.inr (by decide))) u854.out)
                                have u871 : Hid (w859 275 88 = w843 275 88) := Hid.mk (by rw [← hw859]; exact e_up_ne _ _ (Or.inr (by decide)))
                                have u872 : Hid (w859 275 94 = w427 275 94) := Hid.mk (Eq.trans (by rw [← hw859]; exact e_up_ne _ _ (Or.inr (by decide))) u856.out)
                                have c873 := cSt.wr c857 hw859 (Or.inr rfl) (by omega) rfl (fun _ => ⟨⟨by decide, by decide⟩, fun y => by omega⟩)
                                refine e_Ok.run (t' := (199, [(3, (0, w 275 79 + 3600)), (2, (0, w 275 79)), (1, (0, w 275 81)), (0, (1, 275))], [(1, 275)], w859)) 1 rfl ?_
                                refine e_Ok.getr (z := 333) rfl (el_o rfl) rfl rfl ((f860 275 70 (by unfold mStm; omega)).trans (e_Has.eq hc.1 rfl)) (by omega) ?_
                                refine e_Ok.run (t' := (204, [(3, (0, w 275 79 + 3600)), (2, (0, w 275 79)), (1, (0, w 275 81)), (0, (1, 275))], [(1, 275), (0, w 275 79 + 3600), (1, 333)], w859)) 2 rfl ?_
                                refine e_Ok.getf (z := w427 275 78 + 1) rfl (el_o rfl) rfl rfl u861.out (by omega) ?_
                                refine e_Ok.ast rfl (el_o rfl) rfl rfl (by omega) ?_
                                generalize hw874 : e_up w859 333 (w 275 79 + 3600) (w427 275 78 + 1) = w874
                                have f875 : e_fr (mStm (w 275 78) (w 275 79) (w 275 80) (w 275 94)) w w874 := e_fr.up f860 hw874 (by unfold mStm; omega)
                                have u876 : Hid (w874 275 78 = w427 275 78 + 1) := Hid.mk (Eq.trans (by rw [← hw874]; exact e_up_ne _ _ (Or.inl (by decide))) u861.out)
                                have u877 : Hid (w874 275 79 = w427 275 79) := Hid.mk (Eq.trans (by rw [← hw874]; exact e_up_ne _ _ (Or.inl (by decide))) u862.out)
                                have u878 : Hid (w874 275 80 = w427 275 80) := Hid.mk (Eq.trans (by rw [← hw874]; exact e_up_ne _ _ (Or.inl (by decide))) u863.out)
                                have u879 : Hid (w874 275 81 = 3 * w 275 79 + 2) := Hid.mk (Eq.trans (by rw [← hw874]; exact e_up_ne _ _ (Or.inl (by decide))) u864.out)
                                have u880 : Hid (w874 275 82 = w 275 82) := Hid.mk (Eq.trans (by rw [← hw874]; exact e_up_ne _ _ (Or.inl (by decide))) u865.out)
                                have u881 : Hid (w874 275 83 = w427 275 83) := Hid.mk (Eq.trans (by rw [← hw874]; exact e_up_ne _ _ (Or.inl (by decide))) u866.out)
                                have u882 : Hid (w874 275 84 = w549 275 84) := Hid.mk (Eq.trans (by rw [← hw874]; exact e_up_ne _ _ (Or.inl (by decide))) u867.out)
                                have u883 : Hid (w874 275 85 = w549 275 85) := Hid.mk (Eq.trans (by rw [← hw874]; exact e_up_ne _ _ (Or.inl (by decide))) u868.out)
                                have u884 : Hid (w874 275 86 = w549 275 86) := Hid.mk (Eq.trans (by rw [← hw874]; exact e_up_ne _ _ (Or.inl (by decide))) u869.out)
                                have u886 : Hid (w874 275 88 = w843 275 88) := Hid.mk (Eq.trans (by rw [← hw874]; exact e_up_ne _ _ (Or.inl (by decide))) u871.out)
                                have u887 : Hid (w874 275 94 = w427 275 94) := Hid.mk (Eq.trans (by rw [← hw874]; exact e_up_ne _ _ (Or.inl (by decide))) u872.out)
                                have c888 := cSt.wr c873 hw874 (Or.inl rfl) (by omega) rfl (fun y => absurd y (by decide))
                                refine e_Ok.run (t' := (209, [(3, (0, w 275 79 + 3600)), (2, (0, w 275 79)), (1, (0, w 275 81)), (0, (1, 275))], [(1, 275)], w874)) 1 rfl ?_
                                refine e_Ok.callV rfl (Nat.le_trans (by decide) hdq) rfl rfl rfl rfl (c_348_0 (Nat.le_trans (by decide) hdq) c888 (by rw [u886.out] <;> omega)) (fun r889 w890 h891 => ?_)
                                obtain ⟨rfl, rfl⟩ := h891
                                show e_Ok 20 elay ecode eI (d + 1) 352 (212, [(3, (0, w 275 79 + 3600)), (2, (0, w 275 79)), (1, (0, w 275 81)), (0, (1, 275))], [], w874) _
                                refine e_Ok.run (t' := (216, [(3, (0, w 275 79 + 3600)), (2, (0, w 275 79)), (1, (0, w 275 81)), (0, (1, 275))], [(0, w 275 79), (0, 51), (1, 275)], w874)) 3 rfl ?_
                                refine e_Ok.callV rfl (Nat.le_trans (by decide) hdq) rfl rfl rfl rfl (c_336 c888.1 (n := w427 275 78 + 1) u876.out (by omega) (s := 3 * w 275 79 + 2) u879.out (by omega)) (fun r892 w893 h894 => ?_)
                                obtain ⟨rfl, q895⟩ := h894
                                replace q895 := (show Hid (EM w874 w893 (w427 275 78 + 1) 51 (w 275 79) (3 * w 275 79 + 2)) from q895)
                                have u896 : Hid (w893 275 78 = w427 275 78 + 2) := Hid.mk (Eq.trans q895.out.2.2.2.2 (by omega))
                                have u897 : Hid (w893 275 79 = w427 275 79) := Hid.mk (Eq.trans (q895.out.fld (by decide)) u877.out)
                                have u898 : Hid (w893 275 80 = w427 275 80) := Hid.mk (Eq.trans (q895.out.fld (by decide)) u878.out)
                                have u900 : Hid (w893 275 82 = w 275 82) := Hid.mk (Eq.trans (q895.out.fld (by decide)) u880.out)
                                have u901 : Hid (w893 275 83 = w427 275 83) := Hid.mk (Eq.trans (q895.out.fld (by decide)) u881.out)
                                have u902 : Hid (w893 275 84 = w549 275 84) := Hid.mk (Eq.trans (q895.out.fld (by decide)) u882.out)
                                have u903 : Hid (w893 275 85 = w549 275 85) := Hid.mk (Eq.trans (q895.out.fld (by decide)) u883.out)
                                have u904 : Hid (w893 275 86 = w549 275 86) := Hid.mk (Eq.trans (q895.out.fld (by decide)) u884.out)
                                have u906 : Hid (w893 275 88 = w843 275 88) := Hid.mk (Eq.trans (q895.out.fld (by decide)) u886.out)
                                have u907 : Hid (w893 275 94 = w427 275 94) := Hid.mk (Eq.trans (q895.out.fld (by decide)) u887.out)
                                have f908 : e_fr (mStm (w 275 78) (w 275 79) (w 275 80) (w 275 94)) w w893 := e_fr.trans f875 (q895.out.st (by omega))
                                have c909 := cSt.em c888 q895.out (by decide) (by omega) (by omega)
                                show e_Ok 20 elay ecode eI (d + 1) 352 (219, [(3, (0, w 275 79 + 3600)), (2, (0, w 275 79)), (1, (0, w 275 81)), (0, (1, 275))], [(0, w427 275 78 + 1)], w893) _
                                refine e_Ok.run (t' := (222, [(3, (0, w 275 79 + 3600)), (2, (0, w 275 79)), (1, (0, w 275 81)), (0, (1, 275))], [(0, w 275 81), (1, 275)], w893)) 3 rfl ?_
                                refine e_Ok.putf rfl (el_o rfl) rfl rfl ?_
                                generalize hw910 : e_up w893 275 81 (w 275 81) = w910
                                have f911 : e_fr (mStm (w 275 78) (w 275 79) (w 275 80) (w 275 94)) w w910 := e_fr.up f908 hw910 (by unfold mStm; omega)
                                have u912 : Hid (w910 275 78 = w427 275 78 + 2) := Hid.mk (Eq.trans (by rw [← hw910]; exact e_up_ne _ _ (Or.inr (by decide))) u896.out)
                                have u913 : Hid (w910 275 79 = w427 275 79) := Hid.mk (Eq.trans (by rw [← hw910]; exact e_up_ne _ _ (Or.inr (by decide))) u897.out)
                                have u914 : Hid (w910 275 80 = w427 275 80) := Hid.mk (Eq.trans (by rw [← hw910]; exact e_up_ne _ _ (Or.inr (by decide))) u898.out)
                                have u915 : Hid (w910 275 81 = w 275 81) := Hid.mk (by rw [← hw910]; exact e_up_eq _ _ _ _)
                                have u916 : Hid (w910 275 82 = w 275 82) := Hid.mk (Eq.trans (by rw [← hw910]; exact e_up_ne _ _ (Or.inr (by decide))) u900.out)
                                have u917 : Hid (w910 275 83 = w427 275 83) := Hid.mk (Eq.trans (by rw [← hw910]; exact e_up_ne _ _ (Or.inr (by decide))) u901.out)
                                have u918 : Hid (w910 275 84 = w549 275 84) := Hid.mk (Eq.trans (by rw [← hw910]; exact e_up_ne _ _ (Or.inr (by decide))) u902.out)
                                have u919 : Hid (w910 275 85 = w549 275 85) := Hid.mk (Eq.trans (by rw [← hw910]; exact e_up_ne _ _ (Or.inr (by decide))) u903.out)
                                have u920 : Hid (w910 275 86 = w549 275 86) := Hid.mk (Eq.trans (by rw [← hw910]; exact e_up_ne _ _ (Or.inr (by decide))) u904.out)
                                have u922 : Hid (w910 275 88 = w843 275 88) := Hid.mk (Eq.trans (by rw [← hw910]; exact e_up_ne _ _ (Or.inr (by decide))) u906.out)
                                have u923 : Hid (w910 275 94 = w427 275 94) := Hid.mk (Eq.trans (by rw [← hw910]; exact e_up_ne _ _ (Or.inr (by decide))) u907.out)
                                have c924 := cSt.wr c909 hw910 (Or.inr rfl) (by omega) rfl (fun _ => ⟨⟨by decide, by decide⟩, fun y => by omega⟩)
                                refine e_Ok.run (t' := (226, [(3, (0, w 275 79 + 3600)), (2, (0, w 275 79)), (1, (0, w 275 81)), (0, (1, 275))], [(1, 275)], w910)) 1 rfl ?_
                                refine e_Ok.getr (z := 334) rfl (el_o rfl) rfl rfl ((f911 275 71 (by unfold mStm; omega)).trans (e_Has.eq hc.1 rfl)) (by omega) ?_
                                refine e_Ok.run (t' := (231, [(3, (0, w 275 79 + 3600)), (2, (0, w 275 79)), (1, (0, w 275 81)), (0, (1, 275))], [(1, 275), (0, w 275 79 + 3600), (1, 334)], w910)) 2 rfl ?_
                                refine e_Ok.getf (z := w427 275 78 + 2) rfl (el_o rfl) rfl rfl u912.out (by omega) ?_
                                refine e_Ok.ast rfl (el_o rfl) rfl rfl (by omega) ?_
                                generalize hw925 : e_up w910 334 (w 275 79 + 3600) (w427 275 78 + 2) = w925
                                have f926 : e_fr (mStm (w 275 78) (w 275 79) (w 275 80) (w 275 94)) w w925 := e_fr.up f911 hw925 (by unfold mStm; omega)
                                have u927 : Hid (w925 275 78 = w427 275 78 + 2) := Hid.mk (Eq.trans (by rw [← hw925]; exact e_up_ne _ _ (Or.inl (by decide))) u912.out)
                                have u928 : Hid (w925 275 79 = w427 275 79) := Hid.mk (Eq.trans (by rw [← hw925]; exact e_up_ne _ _ (Or.inl (by decide))) u913.out)
                                have u929 : Hid (w925 275 80 = w427 275 80) := Hid.mk (Eq.trans (by rw [← hw925]; exact e_up_ne _ _ (Or.inl (by decide))) u914.out)
                                have u930 : Hid (w925 275 81 = w 275 81) := Hid.mk (Eq.trans (by rw [← hw925]; exact e_up_ne _ _ (Or.inl (by decide))) u915.out)
                                have u931 : Hid (w925 275 82 = w 275 82) := Hid.mk (Eq.trans (by rw [← hw925]; exact e_up_ne _ _ (Or.inl (by decide))) u916.out)
                                have u932 : Hid (w925 275 83 = w427 275 83) := Hid.mk (Eq.trans (by rw [← hw925]; exact e_up_ne _ _ (Or.inl (by decide))) u917.out)
                                have u933 : Hid (w925 275 84 = w549 275 84) := Hid.mk (Eq.trans (by rw [← hw925]; exact e_up_ne _ _ (Or.inl (by decide))) u918.out)
                                have u934 : Hid (w925 275 85 = w549 275 85) := Hid.mk (Eq.trans (by rw [← hw925]; exact e_up_ne _ _ (Or.inl (by decide))) u919.out)
                                have u935 : Hid (w925 275 86 = w549 275 86) := Hid.mk (Eq.trans (by rw [← hw925]; exact e_up_ne _ _ (Or.inl (by decide))) u920.out)
                                have u937 : Hid (w925 275 88 = w843 275 88) := Hid.mk (Eq.trans (by rw [← hw925]; exact e_up_ne _ _ (Or.inl (by decide))) u922.out)
                                have u938 : Hid (w925 275 94 = w427 275 94) := Hid.mk (Eq.trans (by rw [← hw925]; exact e_up_ne _ _ (Or.inl (by decide))) u923.out)
                                have c939 := cSt.wr c924 hw925 (Or.inl rfl) (by omega) rfl (fun y => absurd y (by decide))
                                refine e_Ok.run (t' := (238, [(3, (0, w 275 79 + 3600)), (2, (0, w 275 79)), (1, (0, w 275 81)), (0, (1, 275))], [(0, 2), (1, 275), (1, 275)], w925)) 3 rfl ?_
                                refine e_Ok.callV rfl (Nat.le_trans (by decide) hdq) rfl rfl rfl rfl (c_332 c939.1 (N := N) c939.2.2.2.1) (fun r940 w941 h942 => ?_)
                                obtain ⟨z943, rfl, rfl, q944⟩ := h942
                                obtain ⟨rfl, q944, q944b⟩ | ⟨rfl, q944n⟩ := q944
                                · show e_Ok 20 elay ecode eI (d + 1) 352 (241, [(3, (0, w 275 79 + 3600)), (2, (0, w 275 79)), (1, (0, w 275 81)), (0, (1, 275))], [(0, 1), (1, 275)], w925) _
                                  rw [u933.out] at q944
                                  rw [u934.out] at q944b
                                  refine e_Ok.callV rfl (Nat.le_trans (by decide) hdq) rfl rfl rfl rfl (c_334 (Nat.le_trans (by decide) hdq) c939.1 c939.2.1 c939.2.2.1 hNr c939.2.2.2.1 (by decide)) (fun r945 w946 h947 => ?_)
                                  obtain ⟨rfl, q948⟩ := h947
                                  obtain ⟨rfl, q948z⟩ | ⟨q948z, q948b, q948, q948s, q948t⟩ | ⟨q948z, q948b, q948, q948T, q948H, q948r⟩ := q948
                                  · show e_Ok 20 elay ecode eI (d + 1) 352 (244, [(3, (0, w 275 79 + 3600)), (2, (0, w 275 79)), (1, (0, w 275 81)), (0, (1, 275))], [], w925) _
                                    rw [u937.out] at q948z
                                    refine e_Ok.run (t' := (246, [(3, (0, w 275 79 + 3600)), (2, (0, w 275 79)), (1, (0, w 275 81)), (0, (1, 275))], [(1, 275), (1, 275)], w925)) 2 rfl ?_
                                    refine e_Ok.getf (z := w427 275 83) rfl (el_o rfl) rfl rfl u932.out (by omega) ?_
                                    refine e_Ok.run (t' := (250, [(3, (0, w 275 79 + 3600)), (2, (0, w 275 79)), (1, (0, w 275 81)), (0, (1, 275))], [(0, 1), (0, w427 275 83), (1, 275)], w925)) 1 rfl ?_
                                    refine e_Ok.sub' (z := w427 275 83 - 1) rfl (by omega) (by omega) ?_
                                    refine e_Ok.putf rfl (el_o rfl) rfl rfl ?_
                                    generalize hw949 : e_up w925 275 83 (w427 275 83 - 1) = w949
                                    have f950 : e_fr (mStm (w 275 78) (w 275 79) (w 275 80) (w 275 94)) w w949 := e_fr.up f926 hw949 (by unfold mStm; omega)
                                    have e951 := up83 hw949
                                    replace e951 := (show Hid _ from e951)
                                    have u952 : Hid (w949 275 78 = w427 275 78 + 2) := Hid.mk (Eq.trans (e951.out.1 275 78 (by decide)) u927.out)
                                    have u953 : Hid (w949 275 79 = w427 275 79) := Hid.mk (Eq.trans (e951.out.1 275 79 (by decide)) u928.out)
                                    have u954 : Hid (w949 275 80 = w427 275 80) := Hid.mk (Eq.trans (e951.out.1 275 80 (by decide)) u929.out)
                                    have u955 : Hid (w949 275 81 = w 275 81) := Hid.mk (Eq.trans (e951.out.1 275 81 (by decide)) u930.out)
                                    have u956 : Hid (w949 275 82 = w 275 82) := Hid.mk (Eq.trans (e951.out.1 275 82 (by decide)) u931.out)
                                    have u957 : Hid (w949 275 83 = w427 275 83 - 1) := Hid.mk (e951.out.2)
                                    have u960 : Hid (w949 275 86 = w549 275 86) := Hid.mk (Eq.trans (e951.out.1 275 86 (by decide)) u935.out)
                                    have u962 : Hid (w949 275 88 = w843 275 88) := Hid.mk (Eq.trans (e951.out.1 275 88 (by decide)) u937.out)
                                    have u963 : Hid (w949 275 94 = w427 275 94) := Hid.mk (Eq.trans (e951.out.1 275 94 (by decide)) u938.out)
                                    have c964 := cSt.up c939 hw949
                                    refine e_Ok.rets rfl rfl ?_
                                    exact ⟨rfl, f950, c964, (by unfold stL; rw [u952.out, u953.out, u954.out, u955.out, u956.out, u957.out, u960.out, u962.out, u963.out]; omega), (fun z => by rw [u962.out] at z; exact absurd z (by omega))⟩
                                  · rw [u937.out] at q948z; exact absurd q948z (by omega)
                                  · rw [u937.out] at q948z; exact absurd q948z (by omega)
                                · show e_Ok 20 elay ecode eI (d + 1) 352 (241, [(3, (0, w 275 79 + 3600)), (2, (0, w 275 79)), (1, (0, w 275 81)), (0, (1, 275))], [(0, 0), (1, 275)], w925) _
                                  clear q944n
                                  refine e_Ok.callV rfl (Nat.le_trans (by decide) hdq) rfl rfl rfl rfl (c_334 (Nat.le_trans (by decide) hdq) c939.1 c939.2.1 c939.2.2.1 hNr c939.2.2.2.1 (by decide)) (fun r965 w966 h967 => ?_)
                                  obtain ⟨rfl, q968⟩ := h967
                                  obtain ⟨rfl, q968z⟩ | ⟨q968z, q968b, q968, q968s, q968t⟩ | ⟨q968z, q968b, q968, q968T, q968H, q968r⟩ := q968
                                  · show e_Ok 20 elay ecode eI (d + 1) 352 (244, [(3, (0, w 275 79 + 3600)), (2, (0, w 275 79)), (1, (0, w 275 81)), (0, (1, 275))], [], w925) _
                                    rw [u937.out] at q968z
                                    refine e_Ok.run (t' := (246, [(3, (0, w 275 79 + 3600)), (2, (0, w 275 79)), (1, (0, w 275 81)), (0, (1, 275))], [(1, 275), (1, 275)], w925)) 2 rfl ?_
                                    refine e_Ok.getf (z := w427 275 83) rfl (el_o rfl) rfl rfl u932.out (by omega) ?_
                                    refine e_Ok.run (t' := (250, [(3, (0, w 275 79 + 3600)), (2, (0, w 275 79)), (1, (0, w 275 81)), (0, (1, 275))], [(0, 1), (0, w427 275 83), (1, 275)], w925)) 1 rfl ?_
                                    refine e_Ok.sub' (z := w427 275 83 - 1) rfl (by omega) (by omega) ?_
                                    refine e_Ok.putf rfl (el_o rfl) rfl rfl ?_
                                    generalize hw969 : e_up w925 275 83 (w427 275 83 - 1) = w969
                                    have f970 : e_fr (mStm (w 275 78) (w 275 79) (w 275 80) (w 275 94)) w w969 := e_fr.up f926 hw969 (by unfold mStm; omega)
                                    have e971 := up83 hw969
                                    replace e971 := (show Hid _ from e971)
                                    have u972 : Hid (w969 275 78 = w427 275 78 + 2) := Hid.mk (Eq.trans (e971.out.1 275 78 (by decide)) u927.out)
                                    have u973 : Hid (w969 275 79 = w427 275 79) := Hid.mk (Eq.trans (e971.out.1 275 79 (by decide)) u928.out)
                                    have u974 : Hid (w969 275 80 = w427 275 80) := Hid.mk (Eq.trans (e971.out.1 275 80 (by decide)) u929.out)
                                    have u975 : Hid (w969 275 81 = w 275 81) := Hid.mk (Eq.trans (e971.out.1 275 81 (by decide)) u930.out)
                                    have u976 : Hid (w969 275 82 = w 275 82) := Hid.mk (Eq.trans (e971.out.1 275 82 (by decide)) u931.out)
                                    have u977 : Hid (w969 275 83 = w427 275 83 - 1) := Hid.mk (e971.out.2)
                                    have u980 : Hid (w969 275 86 = w549 275 86) := Hid.mk (Eq.trans (e971.out.1 275 86 (by decide)) u935.out)
                                    have u982 : Hid (w969 275 88 = w843 275 88) := Hid.mk (Eq.trans (e971.out.1 275 88 (by decide)) u937.out)
                                    have u983 : Hid (w969 275 94 = w427 275 94) := Hid.mk (Eq.trans (e971.out.1 275 94 (by decide)) u938.out)
                                    have c984 := cSt.up c939 hw969
                                    refine e_Ok.rets rfl rfl ?_
                                    exact ⟨rfl, f970, c984, (by unfold stL; rw [u972.out, u973.out, u974.out, u975.out, u976.out, u977.out, u980.out, u982.out, u983.out]; omega), (fun z => by rw [u982.out] at z; exact absurd z (by omega))⟩
                                  · rw [u937.out] at q968z; exact absurd q968z (by omega)
                                  · rw [u937.out] at q968z; exact absurd q968z (by omega)
                        · show e_Ok 20 elay ecode eI (d + 1) 352 (172, [(3, (0, w 275 79 + 3600)), (2, (0, w 275 79)), (1, (0, w 275 81)), (0, (1, 275))], [(0, 0)], w443) _
                          clear q546n
                          refine e_Ok.if1 rfl (fun h985 => ?_) (fun h985 => ?_)
                          · replace h985 : (0 : Int) = 0 := h985
                            refine e_Ok.run (t' := (222, [(3, (0, w 275 79 + 3600)), (2, (0, w 275 79)), (1, (0, w 275 81)), (0, (1, 275))], [(0, w 275 81), (1, 275)], w443)) 2 rfl ?_
                            refine e_Ok.putf rfl (el_o rfl) rfl rfl ?_
                            generalize hw986 : e_up w443 275 81 (w 275 81) = w986
                            have f987 : e_fr (mStm (w 275 78) (w 275 79) (w 275 80) (w 275 94)) w w986 := e_fr.up f458 hw986 (by unfold mStm; omega)
                            have u988 : Hid (w986 275 78 = w427 275 78 + 1) := Hid.mk (Eq.trans (by rw [← hw986]; exact e_up_ne _ _ (Or.inr (by decide))) u446.out)
                            have u989 : Hid (w986 275 79 = w427 275 79) := Hid.mk (Eq.trans (by rw [← hw986]; exact e_up_ne _ _ (Or.inr (by decide))) u447.out)
                            have u990 : Hid (w986 275 80 = w427 275 80) := Hid.mk (Eq.trans (by rw [← hw986]; exact e_up_ne _ _ (Or.inr (by decide))) u448.out)
                            have u991 : Hid (w986 275 81 = w 275 81) := Hid.mk (by rw [← hw986]; exact e_up_eq _ _ _ _)
                            have u992 : Hid (w986 275 82 = w 275 82) := Hid.mk (Eq.trans (by rw [← hw986]; exact e_up_ne _ _ (Or.inr (by decide))) u450.out)
                            have u993 : Hid (w986 275 83 = w427 275 83) := Hid.mk (Eq.trans (by rw [← hw986]; exact e_up_ne _ _ (Or.inr (by decide))) u451.out)
                            have u994 : Hid (w986 275 84 = w427 275 84) := Hid.mk (Eq.trans (by rw [← hw986]; exact e_up_ne _ _ (Or.inr (by decide))) u452.out)
                            have u995 : Hid (w986 275 85 = w427 275 85) := Hid.mk (Eq.trans (by rw [← hw986]; exact e_up_ne _ _ (Or.inr (by decide))) u453.out)
                            have u996 : Hid (w986 275 86 = w427 275 86) := Hid.mk (Eq.trans (by rw [← hw986]; exact e_up_ne _ _ (Or.inr (by decide))) u454.out)
                            have u997 : Hid (w986 275 87 = w427 275 87) := Hid.mk (Eq.trans (by rw [← hw986]; exact e_up_ne _ _ (Or.inr (by decide))) u455.out)
                            have u998 : Hid (w986 275 88 = w427 275 88) := Hid.mk (Eq.trans (by rw [← hw986]; exact e_up_ne _ _ (Or.inr (by decide))) u456.out)
                            have u999 : Hid (w986 275 94 = w427 275 94) := Hid.mk (Eq.trans (by rw [← hw986]; exact e_up_ne _ _ (Or.inr (by decide))) u457.out)
                            have c1000 := cSt.wr c459 hw986 (Or.inr rfl) (by omega) rfl (fun _ => ⟨⟨by decide, by decide⟩, fun y => by omega⟩)
                            have cf1003 : Hid (w986 331 (w 275 79 + 3600) = w 275 81) := Hid.mk (Eq.trans (by rw [← hw986]; exact e_up_ne _ _ (Or.inl (by decide))) cf462.out)
                            have cf1004 : Hid (w986 333 (w 275 79 + 3600) = (-1)) := Hid.mk (Eq.trans (by rw [← hw986]; exact e_up_ne _ _ (Or.inl (by decide))) cf463.out)
                            have cf1005 : Hid (w986 332 (w 275 79 + 3600) = w206 275 78 + 1) := Hid.mk (Eq.trans (by rw [← hw986]; exact e_up_ne _ _ (Or.inl (by decide))) cf464.out)
                            have g1006 : Hid (w427 275 88 = 0 → GZ w986 N (w427 275 78 + 1) (w427 275 94) (w427 275 79) (w427 275 80) P (3 * w 275 79 + 1) OW (o + 1)) := Hid.mk (fun z => GZ.pr (g465.out z) (fun c k q => by rw [← hw986]; exact e_up_ne _ _ (by omega)))
                            refine e_Ok.run (t' := (226, [(3, (0, w 275 79 + 3600)), (2, (0, w 275 79)), (1, (0, w 275 81)), (0, (1, 275))], [(1, 275)], w986)) 1 rfl ?_
                            refine e_Ok.getr (z := 334) rfl (el_o rfl) rfl rfl ((f987 275 71 (by unfold mStm; omega)).trans (e_Has.eq hc.1 rfl)) (by omega) ?_
                            refine e_Ok.run (t' := (231, [(3, (0, w 275 79 + 3600)), (2, (0, w 275 79)), (1, (0, w 275 81)), (0, (1, 275))], [(1, 275), (0, w 275 79 + 3600), (1, 334)], w986)) 2 rfl ?_
                            refine e_Ok.getf (z := w427 275 78 + 1) rfl (el_o rfl) rfl rfl u988.out (by omega) ?_
                            refine e_Ok.ast rfl (el_o rfl) rfl rfl (by omega) ?_
                            generalize hw1007 : e_up w986 334 (w 275 79 + 3600) (w427 275 78 + 1) = w1007
                            have f1008 : e_fr (mStm (w 275 78) (w 275 79) (w 275 80) (w 275 94)) w w1007 := e_fr.up f987 hw1007 (by unfold mStm; omega)
                            have u1009 : Hid (w1007 275 78 = w427 275 78 + 1) := Hid.mk (Eq.trans (by rw [← hw1007]; exact e_up_ne _ _ (Or.inl (by decide))) u988.out)
                            have u1010 : Hid (w1007 275 79 = w427 275 79) := Hid.mk (Eq.trans (by rw [← hw1007]; exact e_up_ne _ _ (Or.inl (by decide))) u989.out)
                            have u1011 : Hid (w1007 275 80 = w427 275 80) := Hid.mk (Eq.trans (by rw [← hw1007]; exact e_up_ne _ _ (Or.inl (by decide))) u990.out)
                            have u1012 : Hid (w1007 275 81 = w 275 81) := Hid.mk (Eq.trans (by rw [← hw1007]; exact e_up_ne _ _ (Or.inl (by decide))) u991.out)
                            have u1013 : Hid (w1007 275 82 = w 275 82) := Hid.mk (Eq.trans (by rw [← hw1007]; exact e_up_ne _ _ (Or.inl (by decide))) u992.out)
                            have u1014 : Hid (w1007 275 83 = w427 275 83) := Hid.mk (Eq.trans (by rw [← hw1007]; exact e_up_ne _ _ (Or.inl (by decide))) u993.out)
                            have u1015 : Hid (w1007 275 84 = w427 275 84) := Hid.mk (Eq.trans (by rw [← hw1007]; exact e_up_ne _ _ (Or.inl (by decide))) u994.out)
                            have u1016 : Hid (w1007 275 85 = w427 275 85) := Hid.mk (Eq.trans (by rw [← hw1007]; exact e_up_ne _ _ (Or.inl (by decide))) u995.out)
                            have u1017 : Hid (w1007 275 86 = w427 275 86) := Hid.mk (Eq.trans (by rw [← hw1007]; exact e_up_ne _ _ (Or.inl (by decide))) u996.out)
                            have u1018 : Hid (w1007 275 87 = w427 275 87) := Hid.mk (Eq.trans (by rw [← hw1007]; exact e_up_ne _ _ (Or.inl (by decide))) u997.out)
                            have u1019 : Hid (w1007 275 88 = w427 275 88) := Hid.mk (Eq.trans (by rw [← hw1007]; exact e_up_ne _ _ (Or.inl (by decide))) u998.out)
                            have u1020 : Hid (w1007 275 94 = w427 275 94) := Hid.mk (Eq.trans (by rw [← hw1007]; exact e_up_ne _ _ (Or.inl (by decide))) u999.out)
                            have c1021 := cSt.wr c1000 hw1007 (Or.inl rfl) (by omega) rfl (fun y => absurd y (by decide))
                            have ev1027 : Hid (w1007 334 (w 275 79 + 3600) = w427 275 78 + 1) := Hid.mk (by rw [← hw1007]; exact e_up_eq _ _ _ _)
                            have ow1028 := (show Hid _ from GB.ow hG f987)
                            have p1029 : Hid (piR w1007 (w 275 81) ≤ O) := Hid.mk (GB.ow hG f1008).2
                            have g1030 : Hid (w427 275 88 = 0 → GB w1007 N (w427 275 78 + 1) (w427 275 94) (w427 275 79) (w427 275 80) P (w 275 81) OW O) := Hid.mk (fun z => GB.oo (GB.re (GZ.over (GZ.re (g1006.out (by omega)) rfl rfl rfl rfl (show _ = 3 * (w 275 79) + 1 from by omega)) (by omega) (by omega) (Eq.trans ev1027.out (by omega)) (by rw [cf1005.out, cf1004.out]; omega) (fun c k y1 y2 => by rw [← hw1007]; exact e_up_ne _ _ (by omega)) (fun v y => by rw [cf1003.out]; exact ow1028.out.1 v y) (by rw [cf1003.out]; have := ow1028.out.2; omega)) rfl rfl rfl rfl cf1003.out) p1029.out)
                            refine e_Ok.run (t' := (238, [(3, (0, w 275 79 + 3600)), (2, (0, w 275 79)), (1, (0, w 275 81)), (0, (1, 275))], [(0, 2), (1, 275), (1, 275)], w1007)) 3 rfl ?_
                            refine e_Ok.callV rfl (Nat.le_trans (by decide) hdq) rfl rfl rfl rfl (c_332 c1021.1 (N := N) c1021.2.2.2.1) (fun r1031 w1032 h1033 => ?_)
                            obtain ⟨z1034, rfl, rfl, q1035⟩ := h1033
                            obtain ⟨rfl, q1035, q1035b⟩ | ⟨rfl, q1035n⟩ := q1035
                            · show e_Ok 20 elay ecode eI (d + 1) 352 (241, [(3, (0, w 275 79 + 3600)), (2, (0, w 275 79)), (1, (0, w 275 81)), (0, (1, 275))], [(0, 1), (1, 275)], w1007) _
                              rw [u1015.out] at q1035
                              rw [u1016.out] at q1035b
                              refine e_Ok.callV rfl (Nat.le_trans (by decide) hdq) rfl rfl rfl rfl (c_334 (Nat.le_trans (by decide) hdq) c1021.1 c1021.2.1 c1021.2.2.1 hNr c1021.2.2.2.1 (by decide)) (fun r1036 w1037 h1038 => ?_)
                              obtain ⟨rfl, q1039⟩ := h1038
                              obtain ⟨rfl, q1039z⟩ | ⟨q1039z, q1039b, q1039, q1039s, q1039t⟩ | ⟨q1039z, q1039b, q1039, q1039T, q1039H, q1039r⟩ := q1039
                              · rw [u1019.out] at q1039z; exact absurd q1039z (by omega)
                              · show e_Ok 20 elay ecode eI (d + 1) 352 (244, [(3, (0, w 275 79 + 3600)), (2, (0, w 275 79)), (1, (0, w 275 81)), (0, (1, 275))], [], w1037) _
                                rw [u1019.out] at q1039z
                                rw [u1018.out] at q1039t
                                have p1040 := tkS.pos c1021.2.2.2.1 (by rw [u1015.out] <;> omega)
                                rw [u1017.out, u1018.out] at p1040
                                have p1041 := tkS.key c1021.2.2.2.1 (by rw [u1015.out] <;> omega)
                                rw [u1017.out, u1018.out, u1016.out] at p1041
                                have u1042 : Hid (w1037 275 78 = w427 275 78 + 1) := Hid.mk (Eq.trans (q1039 275 78 (mTq_fld (by decide))) u1009.out)
                                have u1043 : Hid (w1037 275 79 = w427 275 79) := Hid.mk (Eq.trans (q1039 275 79 (mTq_fld (by decide))) u1010.out)
                                have u1044 : Hid (w1037 275 80 = w427 275 80) := Hid.mk (Eq.trans (q1039 275 80 (mTq_fld (by decide))) u1011.out)
                                have u1045 : Hid (w1037 275 81 = w 275 81) := Hid.mk (Eq.trans (q1039 275 81 (mTq_fld (by decide))) u1012.out)
                                have u1046 : Hid (w1037 275 82 = w 275 82) := Hid.mk (Eq.trans (q1039 275 82 (mTq_fld (by decide))) u1013.out)
                                have u1047 : Hid (w1037 275 83 = w427 275 83) := Hid.mk (Eq.trans (q1039 275 83 (mTq_fld (by decide))) u1014.out)
                                have u1048 : Hid (w1037 275 88 = w427 275 88) := Hid.mk (Eq.trans (q1039 275 88 (mTq_fld (by decide))) u1019.out)
                                have u1049 : Hid (w1037 275 94 = w427 275 94) := Hid.mk (Eq.trans (q1039 275 94 (mTq_fld (by decide))) u1020.out)
                                have c1050 := cSt.tk c1021 q1039 q1039s
                                have t1051 := tkS.lin c1050.2.2.2.1
                                have f1052 : e_fr (mStm (w 275 78) (w 275 79) (w 275 80) (w 275 94)) w w1037 := e_fr.trans f1008 (e_fr.mono q1039 (fun c k g => mTq_St g))
                                have g1053 : Hid (w427 275 88 = 0 → GB w1037 N (w427 275 78 + 1) (w427 275 94) (w427 275 79) (w427 275 80) P (w 275 81) OW O) := Hid.mk (fun z => GB.pr (g1030.out z) (prE.tk q1039))
                                refine e_Ok.run (t' := (246, [(3, (0, w 275 79 + 3600)), (2, (0, w 275 79)), (1, (0, w 275 81)), (0, (1, 275))], [(1, 275), (1, 275)], w1037)) 2 rfl ?_
                                refine e_Ok.getf (z := w427 275 83) rfl (el_o rfl) rfl rfl u1047.out (by omega) ?_
                                refine e_Ok.run (t' := (250, [(3, (0, w 275 79 + 3600)), (2, (0, w 275 79)), (1, (0, w 275 81)), (0, (1, 275))], [(0, 1), (0, w427 275 83), (1, 275)], w1037)) 1 rfl ?_
                                refine e_Ok.sub' (z := w427 275 83 - 1) rfl (by omega) (by omega) ?_
                                refine e_Ok.putf rfl (el_o rfl) rfl rfl ?_
                                generalize hw1059 : e_up w1037 275 83 (w427 275 83 - 1) = w1059
                                have f1060 : e_fr (mStm (w 275 78) (w 275 79) (w 275 80) (w 275 94)) w w1059 := e_fr.up f1052 hw1059 (by unfold mStm; omega)
                                have e1061 := up83 hw1059
                                replace e1061 := (show Hid _ from e1061)
                                have u1062 : Hid (w1059 275 78 = w427 275 78 + 1) := Hid.mk (Eq.trans (e1061.out.1 275 78 (by decide)) u1042.out)
                                have u1063 : Hid (w1059 275 79 = w427 275 79) := Hid.mk (Eq.trans (e1061.out.1 275 79 (by decide)) u1043.out)
                                have u1064 : Hid (w1059 275 80 = w427 275 80) := Hid.mk (Eq.trans (e1061.out.1 275 80 (by decide)) u1044.out)
                                have u1065 : Hid (w1059 275 81 = w 275 81) := Hid.mk (Eq.trans (e1061.out.1 275 81 (by decide)) u1045.out)
                                have u1066 : Hid (w1059 275 82 = w 275 82) := Hid.mk (Eq.trans (e1061.out.1 275 82 (by decide)) u1046.out)
                                have u1067 : Hid (w1059 275 83 = w427 275 83 - 1) := Hid.mk (e1061.out.2)
                                have u1070 : Hid (w1059 275 86 = w1037 275 86) := Hid.mk (e1061.out.1 275 86 (by decide))
                                have u1072 : Hid (w1059 275 88 = w427 275 88) := Hid.mk (Eq.trans (e1061.out.1 275 88 (by decide)) u1048.out)
                                have u1073 : Hid (w1059 275 94 = w427 275 94) := Hid.mk (Eq.trans (e1061.out.1 275 94 (by decide)) u1049.out)
                                have c1074 := cSt.up c1050 hw1059
                                have g1075 : Hid (w427 275 88 = 0 → GB w1059 N (w427 275 78 + 1) (w427 275 94) (w427 275 79) (w427 275 80) P (w 275 81) OW O) := Hid.mk (fun z => GB.pr (g1053.out z) (prE.up hw1059))
                                refine e_Ok.rets rfl rfl ?_
                                exact ⟨rfl, f1060, c1074, (by unfold stL; rw [u1062.out, u1063.out, u1064.out, u1065.out, u1066.out, u1067.out, u1070.out, u1072.out, u1073.out]; omega), (fun z => by rw [u1072.out] at z; rw [u1062.out, u1073.out, u1063.out, u1064.out, u1065.out]; exact (g1075.out (by omega)))⟩
                              · exact absurd q1039b (by decide)
                            · show e_Ok 20 elay ecode eI (d + 1) 352 (241, [(3, (0, w 275 79 + 3600)), (2, (0, w 275 79)), (1, (0, w 275 81)), (0, (1, 275))], [(0, 0), (1, 275)], w1007) _
                              clear q1035n
                              refine e_Ok.callV rfl (Nat.le_trans (by decide) hdq) rfl rfl rfl rfl (c_334 (Nat.le_trans (by decide) hdq) c1021.1 c1021.2.1 c1021.2.2.1 hNr c1021.2.2.2.1 (by decide)) (fun r1081 w1082 h1083 => ?_)
                              obtain ⟨rfl, q1084⟩ := h1083
                              obtain ⟨rfl, q1084z⟩ | ⟨q1084z, q1084b, q1084, q1084s, q1084t⟩ | ⟨q1084z, q1084b, q1084, q1084T, q1084H, q1084r⟩ := q1084
                              · rw [u1019.out] at q1084z; exact absurd q1084z (by omega)
                              · exact absurd q1084b (by decide)
                              · show e_Ok 20 elay ecode eI (d + 1) 352 (244, [(3, (0, w 275 79 + 3600)), (2, (0, w 275 79)), (1, (0, w 275 81)), (0, (1, 275))], [], w1082) _
                                rw [u1019.out] at q1084z
                                have u1085 : Hid (w1082 275 78 = w427 275 78 + 1) := Hid.mk (Eq.trans (q1084 275 78 (mRf_fld (by decide))) u1009.out)
                                have u1086 : Hid (w1082 275 79 = w427 275 79) := Hid.mk (Eq.trans (q1084 275 79 (mRf_fld (by decide))) u1010.out)
                                have u1087 : Hid (w1082 275 80 = w427 275 80) := Hid.mk (Eq.trans (q1084 275 80 (mRf_fld (by decide))) u1011.out)
                                have u1088 : Hid (w1082 275 81 = w 275 81) := Hid.mk (Eq.trans (q1084 275 81 (mRf_fld (by decide))) u1012.out)
                                have u1089 : Hid (w1082 275 82 = w 275 82) := Hid.mk (Eq.trans (q1084 275 82 (mRf_fld (by decide))) u1013.out)
                                have u1090 : Hid (w1082 275 83 = w427 275 83) := Hid.mk (Eq.trans (q1084 275 83 (mRf_fld (by decide))) u1014.out)
                                have u1093 : Hid (w1082 275 86 = w427 275 86) := Hid.mk (Eq.trans (q1084 275 86 (mRf_fld (by decide))) u1017.out)
                                have u1095 : Hid (w1082 275 94 = w427 275 94) := Hid.mk (Eq.trans (q1084 275 94 (mRf_fld (by decide))) u1020.out)
                                have c1096 := cSt.rf c1021 q1084 q1084T q1084H
                                have f1097 : e_fr (mStm (w 275 78) (w 275 79) (w 275 80) (w 275 94)) w w1082 := e_fr.trans f1008 (e_fr.mono q1084 (fun c k g => mRf_St g))
                                refine e_Ok.run (t' := (246, [(3, (0, w 275 79 + 3600)), (2, (0, w 275 79)), (1, (0, w 275 81)), (0, (1, 275))], [(1, 275), (1, 275)], w1082)) 2 rfl ?_
                                refine e_Ok.getf (z := w427 275 83) rfl (el_o rfl) rfl rfl u1090.out (by omega) ?_
                                refine e_Ok.run (t' := (250, [(3, (0, w 275 79 + 3600)), (2, (0, w 275 79)), (1, (0, w 275 81)), (0, (1, 275))], [(0, 1), (0, w427 275 83), (1, 275)], w1082)) 1 rfl ?_
                                refine e_Ok.sub' (z := w427 275 83 - 1) rfl (by omega) (by omega) ?_
                                refine e_Ok.putf rfl (el_o rfl) rfl rfl ?_
                                generalize hw1098 : e_up w1082 275 83 (w427 275 83 - 1) = w1098
                                have f1099 : e_fr (mStm (w 275 78) (w 275 79) (w 275 80) (w 275 94)) w w1098 := e_fr.up f1097 hw1098 (by unfold mStm; omega)
                                have e1100 := up83 hw1098
                                replace e1100 := (show Hid _ from e1100)
                                have u1101 : Hid (w1098 275 78 = w427 275 78 + 1) := Hid.mk (Eq.trans (e1100.out.1 275 78 (by decide)) u1085.out)
                                have u1102 : Hid (w1098 275 79 = w427 275 79) := Hid.mk (Eq.trans (e1100.out.1 275 79 (by decide)) u1086.out)
                                have u1103 : Hid (w1098 275 80 = w427 275 80) := Hid.mk (Eq.trans (e1100.out.1 275 80 (by decide)) u1087.out)
                                have u1104 : Hid (w1098 275 81 = w 275 81) := Hid.mk (Eq.trans (e1100.out.1 275 81 (by decide)) u1088.out)
                                have u1105 : Hid (w1098 275 82 = w 275 82) := Hid.mk (Eq.trans (e1100.out.1 275 82 (by decide)) u1089.out)
                                have u1106 : Hid (w1098 275 83 = w427 275 83 - 1) := Hid.mk (e1100.out.2)
                                have u1109 : Hid (w1098 275 86 = w427 275 86) := Hid.mk (Eq.trans (e1100.out.1 275 86 (by decide)) u1093.out)
                                have u1111 : Hid (w1098 275 88 = w1082 275 88) := Hid.mk (e1100.out.1 275 88 (by decide))
                                have u1112 : Hid (w1098 275 94 = w427 275 94) := Hid.mk (Eq.trans (e1100.out.1 275 94 (by decide)) u1095.out)
                                have c1113 := cSt.up c1096 hw1098
                                refine e_Ok.rets rfl rfl ?_
                                exact ⟨rfl, f1099, c1113, (by unfold stL; rw [u1101.out, u1102.out, u1103.out, u1104.out, u1105.out, u1106.out, u1109.out, u1111.out, u1112.out]; omega), (fun z => by rw [u1111.out] at z; exact absurd z (by omega))⟩
                          · replace h985 : (0 : Int) ≠ 0 := by have q : ¬ ((0 : Int) = 0) := h985; omega
                            exfalso; omega
                    · exact absurd q362b (by decide)
                  · show e_Ok 20 elay ecode eI (d + 1) 352 (125, [(3, (0, w 275 79 + 3600)), (2, (0, w 275 79)), (1, (0, w 275 81)), (0, (1, 275))], [(0, 0), (1, 275)], w331) _
                    clear q358n
                    refine e_Ok.callV rfl (Nat.le_trans (by decide) hdq) rfl rfl rfl rfl (c_334 (Nat.le_trans (by decide) hdq) c345.1 c345.2.1 c345.2.2.1 hNr c345.2.2.2.1 (by decide)) (fun r1114 w1115 h1116 => ?_)
                    obtain ⟨rfl, q1117⟩ := h1116
                    obtain ⟨rfl, q1117z⟩ | ⟨q1117z, q1117b, q1117, q1117s, q1117t⟩ | ⟨q1117z, q1117b, q1117, q1117T, q1117H, q1117r⟩ := q1117
                    · rw [u343.out] at q1117z; exact absurd q1117z (by omega)
                    · exact absurd q1117b (by decide)
                    · show e_Ok 20 elay ecode eI (d + 1) 352 (128, [(3, (0, w 275 79 + 3600)), (2, (0, w 275 79)), (1, (0, w 275 81)), (0, (1, 275))], [], w1115) _
                      rw [u343.out] at q1117z
                      have u1118 : Hid (w1115 275 78 = w206 275 78 + 1) := Hid.mk (Eq.trans (q1117 275 78 (mRf_fld (by decide))) u336.out)
                      have u1119 : Hid (w1115 275 79 = w206 275 79) := Hid.mk (Eq.trans (q1117 275 79 (mRf_fld (by decide))) u337.out)
                      have u1120 : Hid (w1115 275 80 = w206 275 80) := Hid.mk (Eq.trans (q1117 275 80 (mRf_fld (by decide))) u339.out)
                      have u1122 : Hid (w1115 275 82 = w 275 82) := Hid.mk (Eq.trans (q1117 275 82 (mRf_fld (by decide))) u341.out)
                      have u1123 : Hid (w1115 275 83 = w206 275 83) := Hid.mk (Eq.trans (q1117 275 83 (mRf_fld (by decide))) u342.out)
                      have u1124 : Hid (w1115 275 84 = w331 275 84) := Hid.mk (q1117 275 84 (mRf_fld (by decide)))
                      have u1125 : Hid (w1115 275 85 = w331 275 85) := Hid.mk (q1117 275 85 (mRf_fld (by decide)))
                      have u1126 : Hid (w1115 275 86 = w331 275 86) := Hid.mk (q1117 275 86 (mRf_fld (by decide)))
                      have u1128 : Hid (w1115 275 94 = w206 275 94) := Hid.mk (Eq.trans (q1117 275 94 (mRf_fld (by decide))) u344.out)
                      have c1129 := cSt.rf c345 q1117 q1117T q1117H
                      have f1130 : e_fr (mStm (w 275 78) (w 275 79) (w 275 80) (w 275 94)) w w1115 := e_fr.trans f347 (e_fr.mono q1117 (fun c k g => mRf_St g))
                      refine e_Ok.run (t' := (131, [(3, (0, w 275 79 + 3600)), (2, (0, w 275 79)), (1, (0, w 275 81)), (0, (1, 275))], [(0, w 275 79), (0, 3), (1, 275)], w1115)) 3 rfl ?_
                      refine e_Ok.mul (z := 3 * w 275 79) rfl (by omega) (by omega) ?_
                      refine e_Ok.run (t' := (133, [(3, (0, w 275 79 + 3600)), (2, (0, w 275 79)), (1, (0, w 275 81)), (0, (1, 275))], [(0, 1), (0, 3 * w 275 79), (1, 275)], w1115)) 1 rfl ?_
                      refine e_Ok.add (z := 3 * w 275 79 + 1) rfl (by omega) (by omega) ?_
                      refine e_Ok.putf rfl (el_o rfl) rfl rfl ?_
                      generalize hw1131 : e_up w1115 275 81 (3 * w 275 79 + 1) = w1131
                      have f1132 : e_fr (mStm (w 275 78) (w 275 79) (w 275 80) (w 275 94)) w w1131 := e_fr.up f1130 hw1131 (by unfold mStm; omega)
                      have u1133 : Hid (w1131 275 78 = w206 275 78 + 1) := Hid.mk (Eq.trans (by rw [← hw1131]; exact e_up_ne _ _ (Or.inr (by decide))) u1118.out)
                      have u1134 : Hid (w1131 275 79 = w206 275 79) := Hid.mk (Eq.trans (by rw [← hw1131]; exact e_up_ne _ _ (Or.inr (by decide))) u1119.out)
                      have u1135 : Hid (w1131 275 80 = w206 275 80) := Hid.mk (Eq.trans (by rw [← hw1131]; exact e_up_ne _ _ (Or.inr (by decide))) u1120.out)
                      have u1136 : Hid (w1131 275 81 = 3 * w 275 79 + 1) := Hid.mk (by rw [← hw1131]; exact e_up_eq _ _ _ _)
                      have u1137 : Hid (w1131 275 82 = w 275 82) := Hid.mk (Eq.trans (by rw [← hw1131]; exact e_up_ne _ _ (Or.inr (by decide))) u1122.out)
                      have u1138 : Hid (w1131 275 83 = w206 275 83) := Hid.mk (Eq.trans (by rw [← hw1131]; exact e_up_ne _ _ (Or.inr (by decide))) u1123.out)
                      have u1139 : Hid (w1131 275 84 = w331 275 84) := Hid.mk (Eq.trans (by rw [← hw1131]; exact e_up_ne _ _ (Or.inr (by decide))) u1124.out)
                      have u1140 : Hid (w1131 275 85 = w331 275 85) := Hid.mk (Eq.trans (by rw [← hw1131]; exact e_up_ne _ _ (Or.inr (by decide))) u1125.out)
                      have u1141 : Hid (w1131 275 86 = w331 275 86) := Hid.mk (Eq.trans (by rw [← hw1131]; exact e_up_ne _ _ (Or.inr (by decide))) u1126.out)
                      have u1143 : Hid (w1131 275 88 = w1115 275 88) := Hid.mk (by rw [← hw1131]; exact e_up_ne _ _ (Or.inr (by decide)))
                      have u1144 : Hid (w1131 275 94 = w206 275 94) := Hid.mk (Eq.trans (by rw [← hw1131]; exact e_up_ne _ _ (Or.inr (by decide))) u1128.out)
                      have c1145 := cSt.wr c1129 hw1131 (Or.inr rfl) (by omega) rfl (fun _ => ⟨⟨by decide, by decide⟩, fun y => by omega⟩)
                      refine e_Ok.run (t' := (138, [(3, (0, w 275 79 + 3600)), (2, (0, w 275 79)), (1, (0, w 275 81)), (0, (1, 275))], [(1, 275)], w1131)) 1 rfl ?_
                      refine e_Ok.getr (z := 332) rfl (el_o rfl) rfl rfl ((f1132 275 69 (by unfold mStm; omega)).trans (e_Has.eq hc.1 rfl)) (by omega) ?_
                      refine e_Ok.run (t' := (143, [(3, (0, w 275 79 + 3600)), (2, (0, w 275 79)), (1, (0, w 275 81)), (0, (1, 275))], [(1, 275), (0, w 275 79 + 3600), (1, 332)], w1131)) 2 rfl ?_
                      refine e_Ok.getf (z := w206 275 78 + 1) rfl (el_o rfl) rfl rfl u1133.out (by omega) ?_
                      refine e_Ok.ast rfl (el_o rfl) rfl rfl (by omega) ?_
                      generalize hw1146 : e_up w1131 332 (w 275 79 + 3600) (w206 275 78 + 1) = w1146
                      have f1147 : e_fr (mStm (w 275 78) (w 275 79) (w 275 80) (w 275 94)) w w1146 := e_fr.up f1132 hw1146 (by unfold mStm; omega)
                      have u1148 : Hid (w1146 275 78 = w206 275 78 + 1) := Hid.mk (Eq.trans (by rw [← hw1146]; exact e_up_ne _ _ (Or.inl (by decide))) u1133.out)
                      have u1149 : Hid (w1146 275 79 = w206 275 79) := Hid.mk (Eq.trans (by rw [← hw1146]; exact e_up_ne _ _ (Or.inl (by decide))) u1134.out)
                      have u1150 : Hid (w1146 275 80 = w206 275 80) := Hid.mk (Eq.trans (by rw [← hw1146]; exact e_up_ne _ _ (Or.inl (by decide))) u1135.out)
                      have u1151 : Hid (w1146 275 81 = 3 * w 275 79 + 1) := Hid.mk (Eq.trans (by rw [← hw1146]; exact e_up_ne _ _ (Or.inl (by decide))) u1136.out)
                      have u1152 : Hid (w1146 275 82 = w 275 82) := Hid.mk (Eq.trans (by rw [← hw1146]; exact e_up_ne _ _ (Or.inl (by decide))) u1137.out)
                      have u1153 : Hid (w1146 275 83 = w206 275 83) := Hid.mk (Eq.trans (by rw [← hw1146]; exact e_up_ne _ _ (Or.inl (by decide))) u1138.out)
                      have u1154 : Hid (w1146 275 84 = w331 275 84) := Hid.mk (Eq.trans (by rw [← hw1146]; exact e_up_ne _ _ (Or.inl (by decide))) u1139.out)
                      have u1155 : Hid (w1146 275 85 = w331 275 85) := Hid.mk (Eq.trans (by rw [← hw1146]; exact e_up_ne _ _ (Or.inl (by decide))) u1140.out)
                      have u1156 : Hid (w1146 275 86 = w331 275 86) := Hid.mk (Eq.trans (by rw [← hw1146]; exact e_up_ne _ _ (Or.inl (by decide))) u1141.out)
                      have u1158 : Hid (w1146 275 88 = w1115 275 88) := Hid.mk (Eq.trans (by rw [← hw1146]; exact e_up_ne _ _ (Or.inl (by decide))) u1143.out)
                      have u1159 : Hid (w1146 275 94 = w206 275 94) := Hid.mk (Eq.trans (by rw [← hw1146]; exact e_up_ne _ _ (Or.inl (by decide))) u1144.out)
                      have c1160 := cSt.wr c1145 hw1146 (Or.inl rfl) (by omega) rfl (fun y => absurd y (by decide))
                      refine e_Ok.run (t' := (148, [(3, (0, w 275 79 + 3600)), (2, (0, w 275 79)), (1, (0, w 275 81)), (0, (1, 275))], [(1, 275)], w1146)) 1 rfl ?_
                      refine e_Ok.callV rfl (Nat.le_trans (by decide) hdq) rfl rfl rfl rfl (c_348_0 (Nat.le_trans (by decide) hdq) c1160 (by rw [u1158.out] <;> omega)) (fun r1161 w1162 h1163 => ?_)
                      obtain ⟨rfl, rfl⟩ := h1163
                      show e_Ok 20 elay ecode eI (d + 1) 352 (151, [(3, (0, w 275 79 + 3600)), (2, (0, w 275 79)), (1, (0, w 275 81)), (0, (1, 275))], [], w1146) _
                      refine e_Ok.run (t' := (155, [(3, (0, w 275 79 + 3600)), (2, (0, w 275 79)), (1, (0, w 275 81)), (0, (1, 275))], [(0, w 275 79), (0, 50), (1, 275)], w1146)) 3 rfl ?_
                      refine e_Ok.callV rfl (Nat.le_trans (by decide) hdq) rfl rfl rfl rfl (c_336 c1160.1 (n := w206 275 78 + 1) u1148.out (by omega) (s := 3 * w 275 79 + 1) u1151.out (by omega)) (fun r1164 w1165 h1166 => ?_)
                      obtain ⟨rfl, q1167⟩ := h1166
                      replace q1167 := (show Hid (EM w1146 w1165 (w206 275 78 + 1) 50 (w 275 79) (3 * w 275 79 + 1)) from q1167)
                      have u1168 : Hid (w1165 275 78 = w206 275 78 + 2) := Hid.mk (Eq.trans q1167.out.2.2.2.2 (by omega))
                      have u1169 : Hid (w1165 275 79 = w206 275 79) := Hid.mk (Eq.trans (q1167.out.fld (by decide)) u1149.out)
                      have u1170 : Hid (w1165 275 80 = w206 275 80) := Hid.mk (Eq.trans (q1167.out.fld (by decide)) u1150.out)
                      have u1172 : Hid (w1165 275 82 = w 275 82) := Hid.mk (Eq.trans (q1167.out.fld (by decide)) u1152.out)
                      have u1173 : Hid (w1165 275 83 = w206 275 83) := Hid.mk (Eq.trans (q1167.out.fld (by decide)) u1153.out)
                      have u1174 : Hid (w1165 275 84 = w331 275 84) := Hid.mk (Eq.trans (q1167.out.fld (by decide)) u1154.out)
                      have u1175 : Hid (w1165 275 85 = w331 275 85) := Hid.mk (Eq.trans (q1167.out.fld (by decide)) u1155.out)
                      have u1176 : Hid (w1165 275 86 = w331 275 86) := Hid.mk (Eq.trans (q1167.out.fld (by decide)) u1156.out)
                      have u1178 : Hid (w1165 275 88 = w1115 275 88) := Hid.mk (Eq.trans (q1167.out.fld (by decide)) u1158.out)
                      have u1179 : Hid (w1165 275 94 = w206 275 94) := Hid.mk (Eq.trans (q1167.out.fld (by decide)) u1159.out)
                      have f1180 : e_fr (mStm (w 275 78) (w 275 79) (w 275 80) (w 275 94)) w w1165 := e_fr.trans f1147 (q1167.out.st (by omega))
                      have c1181 := cSt.em c1160 q1167.out (by decide) (by omega) (by omega)
                      show e_Ok 20 elay ecode eI (d + 1) 352 (158, [(3, (0, w 275 79 + 3600)), (2, (0, w 275 79)), (1, (0, w 275 81)), (0, (1, 275))], [(0, w206 275 78 + 1)], w1165) _
                      refine e_Ok.run (t' := (160, [(3, (0, w 275 79 + 3600)), (2, (0, w 275 79)), (1, (0, w 275 81)), (0, (1, 275))], [(1, 275)], w1165)) 2 rfl ?_
                      refine e_Ok.getf (z := w1115 275 88) rfl (el_o rfl) rfl rfl u1178.out (by omega) ?_
                      refine e_Ok.if1 rfl (fun h1182 => ?_) (fun h1182 => ?_)
                      · replace h1182 : (w1115 275 88 : Int) ≠ 0 := h1182
                        refine e_Ok.run (t' := (222, [(3, (0, w 275 79 + 3600)), (2, (0, w 275 79)), (1, (0, w 275 81)), (0, (1, 275))], [(0, w 275 81), (1, 275)], w1165)) 2 rfl ?_
                        refine e_Ok.putf rfl (el_o rfl) rfl rfl ?_
                        generalize hw1183 : e_up w1165 275 81 (w 275 81) = w1183
                        have f1184 : e_fr (mStm (w 275 78) (w 275 79) (w 275 80) (w 275 94)) w w1183 := e_fr.up f1180 hw1183 (by unfold mStm; omega)
                        have u1185 : Hid (w1183 275 78 = w206 275 78 + 2) := Hid.mk (Eq.trans (by rw [← hw1183]; exact e_up_ne _ _ (Or.inr (by decide))) u1168.out)
                        have u1186 : Hid (w1183 275 79 = w206 275 79) := Hid.mk (Eq.trans (by rw [← hw1183]; exact e_up_ne _ _ (Or.inr (by decide))) u1169.out)
                        have u1187 : Hid (w1183 275 80 = w206 275 80) := Hid.mk (Eq.trans (by rw [← hw1183]; exact e_up_ne _ _ (Or.inr (by decide))) u1170.out)
                        have u1188 : Hid (w1183 275 81 = w 275 81) := Hid.mk (by rw [← hw1183]; exact e_up_eq _ _ _ _)
                        have u1189 : Hid (w1183 275 82 = w 275 82) := Hid.mk (Eq.trans (by rw [← hw1183]; exact e_up_ne _ _ (Or.inr (by decide))) u1172.out)
                        have u1190 : Hid (w1183 275 83 = w206 275 83) := Hid.mk (Eq.trans (by rw [← hw1183]; exact e_up_ne _ _ (Or.inr (by decide))) u1173.out)
                        have u1191 : Hid (w1183 275 84 = w331 275 84) := Hid.mk (Eq.trans (by rw [← hw1183]; exact e_up_ne _ _ (Or.inr (by decide))) u1174.out)
                        have u1192 : Hid (w1183 275 85 = w331 275 85) := Hid.mk (Eq.trans (by rw [← hw1183]; exact e_up_ne _ _ (Or.inr (by decide))) u1175.out)
                        have u1193 : Hid (w1183 275 86 = w331 275 86) := Hid.mk (Eq.trans (by rw [← hw1183]; exact e_up_ne _ _ (Or.inr (by decide))) u1176.out)
                        have u1195 : Hid (w1183 275 88 = w1115 275 88) := Hid.mk (Eq.trans (by rw [← hw1183]; exact e_up_ne _ _ (Or.inr (by decide))) u1178.out)
                        have u1196 : Hid (w1183 275 94 = w206 275 94) := Hid.mk (Eq.trans (by rw [← hw1183]; exact e_up_ne _ _ (Or.inr (by decide))) u1179.out)
                        have c1197 := cSt.wr c1181 hw1183 (Or.inr rfl) (by omega) rfl (fun _ => ⟨⟨by decide, by decide⟩, fun y => by omega⟩)
                        refine e_Ok.run (t' := (226, [(3, (0, w 275 79 + 3600)), (2, (0, w 275 79)), (1, (0, w 275 81)), (0, (1, 275))], [(1, 275)], w1183)) 1 rfl ?_
                        refine e_Ok.getr (z := 334) rfl (el_o rfl) rfl rfl ((f1184 275 71 (by unfold mStm; omega)).trans (e_Has.eq hc.1 rfl)) (by omega) ?_
                        refine e_Ok.run (t' := (231, [(3, (0, w 275 79 + 3600)), (2, (0, w 275 79)), (1, (0, w 275 81)), (0, (1, 275))], [(1, 275), (0, w 275 79 + 3600), (1, 334)], w1183)) 2 rfl ?_
                        refine e_Ok.getf (z := w206 275 78 + 2) rfl (el_o rfl) rfl rfl u1185.out (by omega) ?_
                        refine e_Ok.ast rfl (el_o rfl) rfl rfl (by omega) ?_
                        generalize hw1198 : e_up w1183 334 (w 275 79 + 3600) (w206 275 78 + 2) = w1198
                        have f1199 : e_fr (mStm (w 275 78) (w 275 79) (w 275 80) (w 275 94)) w w1198 := e_fr.up f1184 hw1198 (by unfold mStm; omega)
                        have u1200 : Hid (w1198 275 78 = w206 275 78 + 2) := Hid.mk (Eq.trans (by rw [← hw1198]; exact e_up_ne _ _ (Or.inl (by decide))) u1185.out)
                        have u1201 : Hid (w1198 275 79 = w206 275 79) := Hid.mk (Eq.trans (by rw [← hw1198]; exact e_up_ne _ _ (Or.inl (by decide))) u1186.out)
                        have u1202 : Hid (w1198 275 80 = w206 275 80) := Hid.mk (Eq.trans (by rw [← hw1198]; exact e_up_ne _ _ (Or.inl (by decide))) u1187.out)
                        have u1203 : Hid (w1198 275 81 = w 275 81) := Hid.mk (Eq.trans (by rw [← hw1198]; exact e_up_ne _ _ (Or.inl (by decide))) u1188.out)
                        have u1204 : Hid (w1198 275 82 = w 275 82) := Hid.mk (Eq.trans (by rw [← hw1198]; exact e_up_ne _ _ (Or.inl (by decide))) u1189.out)
                        have u1205 : Hid (w1198 275 83 = w206 275 83) := Hid.mk (Eq.trans (by rw [← hw1198]; exact e_up_ne _ _ (Or.inl (by decide))) u1190.out)
                        have u1206 : Hid (w1198 275 84 = w331 275 84) := Hid.mk (Eq.trans (by rw [← hw1198]; exact e_up_ne _ _ (Or.inl (by decide))) u1191.out)
                        have u1207 : Hid (w1198 275 85 = w331 275 85) := Hid.mk (Eq.trans (by rw [← hw1198]; exact e_up_ne _ _ (Or.inl (by decide))) u1192.out)
                        have u1208 : Hid (w1198 275 86 = w331 275 86) := Hid.mk (Eq.trans (by rw [← hw1198]; exact e_up_ne _ _ (Or.inl (by decide))) u1193.out)
                        have u1210 : Hid (w1198 275 88 = w1115 275 88) := Hid.mk (Eq.trans (by rw [← hw1198]; exact e_up_ne _ _ (Or.inl (by decide))) u1195.out)
                        have u1211 : Hid (w1198 275 94 = w206 275 94) := Hid.mk (Eq.trans (by rw [← hw1198]; exact e_up_ne _ _ (Or.inl (by decide))) u1196.out)
                        have c1212 := cSt.wr c1197 hw1198 (Or.inl rfl) (by omega) rfl (fun y => absurd y (by decide))
                        refine e_Ok.run (t' := (238, [(3, (0, w 275 79 + 3600)), (2, (0, w 275 79)), (1, (0, w 275 81)), (0, (1, 275))], [(0, 2), (1, 275), (1, 275)], w1198)) 3 rfl ?_
                        refine e_Ok.callV rfl (Nat.le_trans (by decide) hdq) rfl rfl rfl rfl (c_332 c1212.1 (N := N) c1212.2.2.2.1) (fun r1213 w1214 h1215 => ?_)
                        obtain ⟨z1216, rfl, rfl, q1217⟩ := h1215
                        obtain ⟨rfl, q1217, q1217b⟩ | ⟨rfl, q1217n⟩ := q1217
                        · show e_Ok 20 elay ecode eI (d + 1) 352 (241, [(3, (0, w 275 79 + 3600)), (2, (0, w 275 79)), (1, (0, w 275 81)), (0, (1, 275))], [(0, 1), (1, 275)], w1198) _
                          rw [u1206.out] at q1217
                          rw [u1207.out] at q1217b
                          refine e_Ok.callV rfl (Nat.le_trans (by decide) hdq) rfl rfl rfl rfl (c_334 (Nat.le_trans (by decide) hdq) c1212.1 c1212.2.1 c1212.2.2.1 hNr c1212.2.2.2.1 (by decide)) (fun r1218 w1219 h1220 => ?_)
                          obtain ⟨rfl, q1221⟩ := h1220
                          obtain ⟨rfl, q1221z⟩ | ⟨q1221z, q1221b, q1221, q1221s, q1221t⟩ | ⟨q1221z, q1221b, q1221, q1221T, q1221H, q1221r⟩ := q1221
                          · show e_Ok 20 elay ecode eI (d + 1) 352 (244, [(3, (0, w 275 79 + 3600)), (2, (0, w 275 79)), (1, (0, w 275 81)), (0, (1, 275))], [], w1198) _
                            rw [u1210.out] at q1221z
                            refine e_Ok.run (t' := (246, [(3, (0, w 275 79 + 3600)), (2, (0, w 275 79)), (1, (0, w 275 81)), (0, (1, 275))], [(1, 275), (1, 275)], w1198)) 2 rfl ?_
                            refine e_Ok.getf (z := w206 275 83) rfl (el_o rfl) rfl rfl u1205.out (by omega) ?_
                            refine e_Ok.run (t' := (250, [(3, (0, w 275 79 + 3600)), (2, (0, w 275 79)), (1, (0, w 275 81)), (0, (1, 275))], [(0, 1), (0, w206 275 83), (1, 275)], w1198)) 1 rfl ?_
                            refine e_Ok.sub' (z := w206 275 83 - 1) rfl (by omega) (by omega) ?_
                            refine e_Ok.putf rfl (el_o rfl) rfl rfl ?_
                            generalize hw1222 : e_up w1198 275 83 (w206 275 83 - 1) = w1222
                            have f1223 : e_fr (mStm (w 275 78) (w 275 79) (w 275 80) (w 275 94)) w w1222 := e_fr.up f1199 hw1222 (by unfold mStm; omega)
                            have e1224 := up83 hw1222
                            replace e1224 := (show Hid _ from e1224)
                            have u1225 : Hid (w1222 275 78 = w206 275 78 + 2) := Hid.mk (Eq.trans (e1224.out.1 275 78 (by decide)) u1200.out)
                            have u1226 : Hid (w1222 275 79 = w206 275 79) := Hid.mk (Eq.trans (e1224.out.1 275 79 (by decide)) u1201.out)
                            have u1227 : Hid (w1222 275 80 = w206 275 80) := Hid.mk (Eq.trans (e1224.out.1 275 80 (by decide)) u1202.out)
                            have u1228 : Hid (w1222 275 81 = w 275 81) := Hid.mk (Eq.trans (e1224.out.1 275 81 (by decide)) u1203.out)
                            have u1229 : Hid (w1222 275 82 = w 275 82) := Hid.mk (Eq.trans (e1224.out.1 275 82 (by decide)) u1204.out)
                            have u1230 : Hid (w1222 275 83 = w206 275 83 - 1) := Hid.mk (e1224.out.2)
                            have u1233 : Hid (w1222 275 86 = w331 275 86) := Hid.mk (Eq.trans (e1224.out.1 275 86 (by decide)) u1208.out)
                            have u1235 : Hid (w1222 275 88 = w1115 275 88) := Hid.mk (Eq.trans (e1224.out.1 275 88 (by decide)) u1210.out)
                            have u1236 : Hid (w1222 275 94 = w206 275 94) := Hid.mk (Eq.trans (e1224.out.1 275 94 (by decide)) u1211.out)
                            have c1237 := cSt.up c1212 hw1222
                            refine e_Ok.rets rfl rfl ?_
                            exact ⟨rfl, f1223, c1237, (by unfold stL; rw [u1225.out, u1226.out, u1227.out, u1228.out, u1229.out, u1230.out, u1233.out, u1235.out, u1236.out]; omega), (fun z => by rw [u1235.out] at z; exact absurd z (by omega))⟩
                          · rw [u1210.out] at q1221z; exact absurd q1221z (by omega)
                          · rw [u1210.out] at q1221z; exact absurd q1221z (by omega)
                        · show e_Ok 20 elay ecode eI (d + 1) 352 (241, [(3, (0, w 275 79 + 3600)), (2, (0, w 275 79)), (1, (0, w 275 81)), (0, (1, 275))], [(0, 0), (1, 275)], w1198) _
                          clear q1217n
                          refine e_Ok.callV rfl (Nat.le_trans (by decide) hdq) rfl rfl rfl rfl (c_334 (Nat.le_trans (by decide) hdq) c1212.1 c1212.2.1 c1212.2.2.1 hNr c1212.2.2.2.1 (by decide)) (fun r1238 w1239 h1240 => ?_)
                          obtain ⟨rfl, q1241⟩ := h1240
                          obtain ⟨rfl, q1241z⟩ | ⟨q1241z, q1241b, q1241, q1241s, q1241t⟩ | ⟨q1241z, q1241b, q1241, q1241T, q1241H, q1241r⟩ := q1241
                          · show e_Ok 20 elay ecode eI (d + 1) 352 (244, [(3, (0, w 275 79 + 3600)), (2, (0, w 275 79)), (1, (0, w 275 81)), (0, (1, 275))], [], w1198) _
                            rw [u1210.out] at q1241z
                            refine e_Ok.run (t' := (246, [(3, (0, w 275 79 + 3600)), (2, (0, w 275 79)), (1, (0, w 275 81)), (0, (1, 275))], [(1, 275), (1, 275)], w1198)) 2 rfl ?_
                            refine e_Ok.getf (z := w206 275 83) rfl (el_o rfl) rfl rfl u1205.out (by omega) ?_
                            refine e_Ok.run (t' := (250, [(3, (0, w 275 79 + 3600)), (2, (0, w 275 79)), (1, (0, w 275 81)), (0, (1, 275))], [(0, 1), (0, w206 275 83), (1, 275)], w1198)) 1 rfl ?_
                            refine e_Ok.sub' (z := w206 275 83 - 1) rfl (by omega) (by omega) ?_
                            refine e_Ok.putf rfl (el_o rfl) rfl rfl ?_
                            generalize hw1242 : e_up w1198 275 83 (w206 275 83 - 1) = w1242
                            have f1243 : e_fr (mStm (w 275 78) (w 275 79) (w 275 80) (w 275 94)) w w1242 := e_fr.up f1199 hw1242 (by unfold mStm; omega)
                            have e1244 := up83 hw1242
                            replace e1244 := (show Hid _ from e1244)
                            have u1245 : Hid (w1242 275 78 = w206 275 78 + 2) := Hid.mk (Eq.trans (e1244.out.1 275 78 (by decide)) u1200.out)
                            have u1246 : Hid (w1242 275 79 = w206 275 79) := Hid.mk (Eq.trans (e1244.out.1 275 79 (by decide)) u1201.out)
                            have u1247 : Hid (w1242 275 80 = w206 275 80) := Hid.mk (Eq.trans (e1244.out.1 275 80 (by decide)) u1202.out)
                            have u1248 : Hid (w1242 275 81 = w 275 81) := Hid.mk (Eq.trans (e1244.out.1 275 81 (by decide)) u1203.out)
                            have u1249 : Hid (w1242 275 82 = w 275 82) := Hid.mk (Eq.trans (e1244.out.1 275 82 (by decide)) u1204.out)
                            have u1250 : Hid (w1242 275 83 = w206 275 83 - 1) := Hid.mk (e1244.out.2)
                            have u1253 : Hid (w1242 275 86 = w331 275 86) := Hid.mk (Eq.trans (e1244.out.1 275 86 (by decide)) u1208.out)
                            have u1255 : Hid (w1242 275 88 = w1115 275 88) := Hid.mk (Eq.trans (e1244.out.1 275 88 (by decide)) u1210.out)
                            have u1256 : Hid (w1242 275 94 = w206 275 94) := Hid.mk (Eq.trans (e1244.out.1 275 94 (by decide)) u1211.out)
                            have c1257 := cSt.up c1212 hw1242
                            refine e_Ok.rets rfl rfl ?_
                            exact ⟨rfl, f1243, c1257, (by unfold stL; rw [u1245.out, u1246.out, u1247.out, u1248.out, u1249.out, u1250.out, u1253.out, u1255.out, u1256.out]; omega), (fun z => by rw [u1255.out] at z; exact absurd z (by omega))⟩
                          · rw [u1210.out] at q1241z; exact absurd q1241z (by omega)
                          · rw [u1210.out] at q1241z; exact absurd q1241z (by omega)
                      · replace h1182 : (w1115 275 88 : Int) = 0 := by have q : ¬ ((w1115 275 88 : Int) ≠ 0) := h1182; omega
                        exfalso; omega
              · show e_Ok 20 elay ecode eI (d + 1) 352 (111, [(3, (0, w 275 79 + 3600)), (2, (0, w 275 79)), (1, (0, w 275 81)), (0, (1, 275))], [(0, 0)], w222) _
                clear q326n
                refine e_Ok.if1 rfl (fun h1258 => ?_) (fun h1258 => ?_)
                · replace h1258 : (0 : Int) = 0 := h1258
                  refine e_Ok.run (t' := (160, [(3, (0, w 275 79 + 3600)), (2, (0, w 275 79)), (1, (0, w 275 81)), (0, (1, 275))], [(1, 275)], w222)) 1 rfl ?_
                  refine e_Ok.getf (z := w206 275 88) rfl (el_o rfl) rfl rfl u235.out (by omega) ?_
                  refine e_Ok.if1 rfl (fun h1259 => ?_) (fun h1259 => ?_)
                  · replace h1259 : (w206 275 88 : Int) ≠ 0 := h1259
                    exfalso; omega
                  · replace h1259 : (w206 275 88 : Int) = 0 := by have q : ¬ ((w206 275 88 : Int) ≠ 0) := h1259; omega
                    refine e_Ok.run (t' := (169, [(3, (0, w 275 79 + 3600)), (2, (0, w 275 79)), (1, (0, w 275 81)), (0, (1, 275))], [(0, 23), (1, 275)], w222)) 2 rfl ?_
                    refine e_Ok.callV rfl (Nat.le_trans (by decide) hdq) rfl rfl rfl rfl (c_332 c238.1 (N := N) c238.2.2.2.1) (fun r1260 w1261 h1262 => ?_)
                    obtain ⟨z1263, rfl, rfl, q1264⟩ := h1262
                    obtain ⟨rfl, q1264, q1264b⟩ | ⟨rfl, q1264n⟩ := q1264
                    · show e_Ok 20 elay ecode eI (d + 1) 352 (172, [(3, (0, w 275 79 + 3600)), (2, (0, w 275 79)), (1, (0, w 275 81)), (0, (1, 275))], [(0, 1)], w222) _
                      rw [u231.out] at q1264
                      rw [u232.out] at q1264b
                      refine e_Ok.if1 rfl (fun h1265 => ?_) (fun h1265 => ?_)
                      · replace h1265 : (1 : Int) = 0 := h1265
                        exfalso; omega
                      · replace h1265 : (1 : Int) ≠ 0 := by have q : ¬ ((1 : Int) = 0) := h1265; omega
                        refine e_Ok.run (t' := (176, [(3, (0, w 275 79 + 3600)), (2, (0, w 275 79)), (1, (0, w 275 81)), (0, (1, 275))], [(1, 275)], w222)) 1 rfl ?_
                        refine e_Ok.callV rfl (Nat.le_trans (by decide) hdq) rfl rfl rfl rfl (c_327 (Nat.le_trans (by decide) hdq) c238.1 c238.2.1 c238.2.2.1 hNr (t := w206 275 87) u234.out (by omega)) (fun r1266 w1267 h1268 => ?_)
                        have p1270 := tkS.pos c238.2.2.2.1 (by rw [u231.out] <;> omega)
                        rw [u233.out, u234.out] at p1270
                        have p1271 := tkS.key c238.2.2.2.1 (by rw [u231.out] <;> omega)
                        rw [u233.out, u234.out, u232.out] at p1271
                        obtain ⟨rfl, q1269, q1269s, q1269t⟩ := h1268
                        have u1272 : Hid (w1267 275 78 = w206 275 78 + 1) := Hid.mk (Eq.trans (q1269 275 78 (mTq_fld (by decide))) u225.out)
                        have u1273 : Hid (w1267 275 79 = w206 275 79) := Hid.mk (Eq.trans (q1269 275 79 (mTq_fld (by decide))) u226.out)
                        have u1274 : Hid (w1267 275 80 = w206 275 80) := Hid.mk (Eq.trans (q1269 275 80 (mTq_fld (by decide))) u227.out)
                        have u1276 : Hid (w1267 275 82 = w 275 82) := Hid.mk (Eq.trans (q1269 275 82 (mTq_fld (by decide))) u229.out)
                        have u1277 : Hid (w1267 275 83 = w206 275 83) := Hid.mk (Eq.trans (q1269 275 83 (mTq_fld (by decide))) u230.out)
                        have u1278 : Hid (w1267 275 88 = w206 275 88) := Hid.mk (Eq.trans (q1269 275 88 (mTq_fld (by decide))) u235.out)
                        have u1279 : Hid (w1267 275 94 = w206 275 94) := Hid.mk (Eq.trans (q1269 275 94 (mTq_fld (by decide))) u236.out)
                        have c1280 := cSt.tk c238 q1269 q1269s
                        have t1281 := tkS.lin c1280.2.2.2.1
                        have f1282 : e_fr (mStm (w 275 78) (w 275 79) (w 275 80) (w 275 94)) w w1267 := e_fr.trans f237 (e_fr.mono q1269 (fun c k g => mTq_St g))
                        have g1283 : Hid (w206 275 88 = 0 → GZ w1267 N (w206 275 78 + 1) (w206 275 94) (w206 275 79) (w206 275 80) P (3 * w 275 79) OW (o + 1)) := Hid.mk (fun z => GZ.pr (g244.out z) (prE.tk q1269))
                        have cf1286 : Hid (w1267 331 (w 275 79 + 3600) = w 275 81) := Hid.mk (Eq.trans (q1269 331 (w 275 79 + 3600) (mTq_not (by decide))) cf241.out)
                        have cf1287 : Hid (w1267 332 (w 275 79 + 3600) = (-1)) := Hid.mk (Eq.trans (q1269 332 (w 275 79 + 3600) (mTq_not (by decide))) cf242.out)
                        show e_Ok 20 elay ecode eI (d + 1) 352 (179, [(3, (0, w 275 79 + 3600)), (2, (0, w 275 79)), (1, (0, w 275 81)), (0, (1, 275))], [], w1267) _
                        refine e_Ok.run (t' := (183, [(3, (0, w 275 79 + 3600)), (2, (0, w 275 79)), (1, (0, w 275 81)), (0, (1, 275))], [(0, 58), (1, 275), (1, 275)], w1267)) 3 rfl ?_
                        refine e_Ok.callV rfl (Nat.le_trans (by decide) hdq) rfl rfl rfl rfl (c_331 c1280.1 (N := N) c1280.2.2.2.1) (fun r1289 w1290 h1291 => ?_)
                        obtain ⟨z1292, rfl, rfl, q1293⟩ := h1291
                        obtain ⟨rfl, q1293, q1293b⟩ | ⟨rfl, q1293n⟩ := q1293
                        · show e_Ok 20 elay ecode eI (d + 1) 352 (186, [(3, (0, w 275 79 + 3600)), (2, (0, w 275 79)), (1, (0, w 275 81)), (0, (1, 275))], [(0, 1), (1, 275)], w1267) _
                          refine e_Ok.callV rfl (Nat.le_trans (by decide) hdq) rfl rfl rfl rfl (c_334 (Nat.le_trans (by decide) hdq) c1280.1 c1280.2.1 c1280.2.2.1 hNr c1280.2.2.2.1 (by decide)) (fun r1294 w1295 h1296 => ?_)
                          obtain ⟨rfl, q1297⟩ := h1296
                          obtain ⟨rfl, q1297z⟩ | ⟨q1297z, q1297b, q1297, q1297s, q1297t⟩ | ⟨q1297z, q1297b, q1297, q1297T, q1297H, q1297r⟩ := q1297
                          · rw [u1278.out] at q1297z; exact absurd q1297z (by omega)
                          · show e_Ok 20 elay ecode eI (d + 1) 352 (189, [(3, (0, w 275 79 + 3600)), (2, (0, w 275 79)), (1, (0, w 275 81)), (0, (1, 275))], [], w1295) _
                            rw [u1278.out] at q1297z
                            have p1298 := tkS.pos c1280.2.2.2.1 (by omega)
                            have u1299 : Hid (w1295 275 78 = w206 275 78 + 1) := Hid.mk (Eq.trans (q1297 275 78 (mTq_fld (by decide))) u1272.out)
                            have u1300 : Hid (w1295 275 79 = w206 275 79) := Hid.mk (Eq.trans (q1297 275 79 (mTq_fld (by decide))) u1273.out)
                            have u1301 : Hid (w1295 275 80 = w206 275 80) := Hid.mk (Eq.trans (q1297 275 80 (mTq_fld (by decide))) u1274.out)
                            have u1303 : Hid (w1295 275 82 = w 275 82) := Hid.mk (Eq.trans (q1297 275 82 (mTq_fld (by decide))) u1276.out)
                            have u1304 : Hid (w1295 275 83 = w206 275 83) := Hid.mk (Eq.trans (q1297 275 83 (mTq_fld (by decide))) u1277.out)
                            have u1305 : Hid (w1295 275 88 = w206 275 88) := Hid.mk (Eq.trans (q1297 275 88 (mTq_fld (by decide))) u1278.out)
                            have u1306 : Hid (w1295 275 94 = w206 275 94) := Hid.mk (Eq.trans (q1297 275 94 (mTq_fld (by decide))) u1279.out)
                            have c1307 := cSt.tk c1280 q1297 q1297s
                            have t1308 := tkS.lin c1307.2.2.2.1
                            have f1309 : e_fr (mStm (w 275 78) (w 275 79) (w 275 80) (w 275 94)) w w1295 := e_fr.trans f1282 (e_fr.mono q1297 (fun c k g => mTq_St g))
                            have g1310 : Hid (w206 275 88 = 0 → GZ w1295 N (w206 275 78 + 1) (w206 275 94) (w206 275 79) (w206 275 80) P (3 * w 275 79) OW (o + 1)) := Hid.mk (fun z => GZ.pr (g1283.out z) (prE.tk q1297))
                            have cf1313 : Hid (w1295 331 (w 275 79 + 3600) = w 275 81) := Hid.mk (Eq.trans (q1297 331 (w 275 79 + 3600) (mTq_not (by decide))) cf1286.out)
                            have cf1314 : Hid (w1295 332 (w 275 79 + 3600) = (-1)) := Hid.mk (Eq.trans (q1297 332 (w 275 79 + 3600) (mTq_not (by decide))) cf1287.out)
                            refine e_Ok.run (t' := (192, [(3, (0, w 275 79 + 3600)), (2, (0, w 275 79)), (1, (0, w 275 81)), (0, (1, 275))], [(0, w 275 79), (0, 3), (1, 275)], w1295)) 3 rfl ?_
                            refine e_Ok.mul (z := 3 * w 275 79) rfl (by omega) (by omega) ?_
                            refine e_Ok.run (t' := (194, [(3, (0, w 275 79 + 3600)), (2, (0, w 275 79)), (1, (0, w 275 81)), (0, (1, 275))], [(0, 2), (0, 3 * w 275 79), (1, 275)], w1295)) 1 rfl ?_
                            refine e_Ok.add (z := 3 * w 275 79 + 2) rfl (by omega) (by omega) ?_
                            refine e_Ok.putf rfl (el_o rfl) rfl rfl ?_
                            generalize hw1316 : e_up w1295 275 81 (3 * w 275 79 + 2) = w1316
                            have f1317 : e_fr (mStm (w 275 78) (w 275 79) (w 275 80) (w 275 94)) w w1316 := e_fr.up f1309 hw1316 (by unfold mStm; omega)
                            have u1318 : Hid (w1316 275 78 = w206 275 78 + 1) := Hid.mk (Eq.trans (by rw [← hw1316]; exact e_up_ne _ _ (Or.inr (by decide))) u1299.out)
                            have u1319 : Hid (w1316 275 79 = w206 275 79) := Hid.mk (Eq.trans (by rw [← hw1316]; exact e_up_ne _ _ (Or.inr (by decide))) u1300.out)
                            have u1320 : Hid (w1316 275 80 = w206 275 80) := Hid.mk (Eq.trans (by rw [← hw1316]; exact e_up_ne _ _ (Or.inr (by decide))) u1301.out)
                            have u1321 : Hid (w1316 275 81 = 3 * w 275 79 + 2) := Hid.mk (by rw [← hw1316]; exact e_up_eq _ _ _ _)
                            have u1322 : Hid (w1316 275 82 = w 275 82) := Hid.mk (Eq.trans (by rw [← hw1316]; exact e_up_ne _ _ (Or.inr (by decide))) u1303.out)
                            have u1323 : Hid (w1316 275 83 = w206 275 83) := Hid.mk (Eq.trans (by rw [← hw1316]; exact e_up_ne _ _ (Or.inr (by decide))) u1304.out)
                            have u1326 : Hid (w1316 275 86 = w1295 275 86) := Hid.mk (by rw [← hw1316]; exact e_up_ne _ _ (Or.inr (by decide)))
                            have u1328 : Hid (w1316 275 88 = w206 275 88) := Hid.mk (Eq.trans (by rw [← hw1316]; exact e_up_ne _ _ (Or.inr (by decide))) u1305.out)
                            have u1329 : Hid (w1316 275 94 = w206 275 94) := Hid.mk (Eq.trans (by rw [← hw1316]; exact e_up_ne _ _ (Or.inr (by decide))) u1306.out)
                            have c1330 := cSt.wr c1307 hw1316 (Or.inr rfl) (by omega) rfl (fun _ => ⟨⟨by decide, by decide⟩, fun y => by omega⟩)
                            have cf1333 : Hid (w1316 331 (w 275 79 + 3600) = w 275 81) := Hid.mk (Eq.trans (by rw [← hw1316]; exact e_up_ne _ _ (Or.inl (by decide))) cf1313.out)
                            have cf1334 : Hid (w1316 332 (w 275 79 + 3600) = (-1)) := Hid.mk (Eq.trans (by rw [← hw1316]; exact e_up_ne _ _ (Or.inl (by decide))) cf1314.out)
                            have g1336 : Hid (w206 275 88 = 0 → GZ w1316 N (w206 275 78 + 1) (w206 275 94) (w206 275 79) (w206 275 80) P (3 * w 275 79) OW (o + 1)) := Hid.mk (fun z => GZ.pr (g1310.out z) (fun c k q => by rw [← hw1316]; exact e_up_ne _ _ (by omega)))
                            refine e_Ok.run (t' := (199, [(3, (0, w 275 79 + 3600)), (2, (0, w 275 79)), (1, (0, w 275 81)), (0, (1, 275))], [(1, 275)], w1316)) 1 rfl ?_
                            refine e_Ok.getr (z := 333) rfl (el_o rfl) rfl rfl ((f1317 275 70 (by unfold mStm; omega)).trans (e_Has.eq hc.1 rfl)) (by omega) ?_
                            refine e_Ok.run (t' := (204, [(3, (0, w 275 79 + 3600)), (2, (0, w 275 79)), (1, (0, w 275 81)), (0, (1, 275))], [(1, 275), (0, w 275 79 + 3600), (1, 333)], w1316)) 2 rfl ?_
                            refine e_Ok.getf (z := w206 275 78 + 1) rfl (el_o rfl) rfl rfl u1318.out (by omega) ?_
                            refine e_Ok.ast rfl (el_o rfl) rfl rfl (by omega) ?_
                            generalize hw1337 : e_up w1316 333 (w 275 79 + 3600) (w206 275 78 + 1) = w1337
                            have f1338 : e_fr (mStm (w 275 78) (w 275 79) (w 275 80) (w 275 94)) w w1337 := e_fr.up f1317 hw1337 (by unfold mStm; omega)
                            have u1339 : Hid (w1337 275 78 = w206 275 78 + 1) := Hid.mk (Eq.trans (by rw [← hw1337]; exact e_up_ne _ _ (Or.inl (by decide))) u1318.out)
                            have u1340 : Hid (w1337 275 79 = w206 275 79) := Hid.mk (Eq.trans (by rw [← hw1337]; exact e_up_ne _ _ (Or.inl (by decide))) u1319.out)
                            have u1341 : Hid (w1337 275 80 = w206 275 80) := Hid.mk (Eq.trans (by rw [← hw1337]; exact e_up_ne _ _ (Or.inl (by decide))) u1320.out)
                            have u1342 : Hid (w1337 275 81 = 3 * w 275 79 + 2) := Hid.mk (Eq.trans (by rw [← hw1337]; exact e_up_ne _ _ (Or.inl (by decide))) u1321.out)
                            have u1343 : Hid (w1337 275 82 = w 275 82) := Hid.mk (Eq.trans (by rw [← hw1337]; exact e_up_ne _ _ (Or.inl (by decide))) u1322.out)
                            have u1344 : Hid (w1337 275 83 = w206 275 83) := Hid.mk (Eq.trans (by rw [← hw1337]; exact e_up_ne _ _ (Or.inl (by decide))) u1323.out)
                            have u1347 : Hid (w1337 275 86 = w1295 275 86) := Hid.mk (Eq.trans (by rw [← hw1337]; exact e_up_ne _ _ (Or.inl (by decide))) u1326.out)
                            have u1349 : Hid (w1337 275 88 = w206 275 88) := Hid.mk (Eq.trans (by rw [← hw1337]; exact e_up_ne _ _ (Or.inl (by decide))) u1328.out)
                            have u1350 : Hid (w1337 275 94 = w206 275 94) := Hid.mk (Eq.trans (by rw [← hw1337]; exact e_up_ne _ _ (Or.inl (by decide))) u1329.out)
                            have c1351 := cSt.wr c1330 hw1337 (Or.inl rfl) (by omega) rfl (fun y => absurd y (by decide))
                            have cf1354 : Hid (w1337 331 (w 275 79 + 3600) = w 275 81) := Hid.mk (Eq.trans (by rw [← hw1337]; exact e_up_ne _ _ (Or.inl (by decide))) cf1333.out)
                            have cf1355 : Hid (w1337 332 (w 275 79 + 3600) = (-1)) := Hid.mk (Eq.trans (by rw [← hw1337]; exact e_up_ne _ _ (Or.inl (by decide))) cf1334.out)
                            have ev1356 : Hid (w1337 333 (w 275 79 + 3600) = w206 275 78 + 1) := Hid.mk (by rw [← hw1337]; exact e_up_eq _ _ _ _)
                            have ow1357 := (show Hid _ from GB.ow hG f1317)
                            have g1358 : Hid (w206 275 88 = 0 → GB w1337 N (w206 275 78 + 1) (w206 275 94) (w206 275 79) (w206 275 80) P (3 * (w 275 79) + 2) OW (o + 1)) := Hid.mk (fun z => GZ.fina (GZ.re (g1336.out (by omega)) rfl rfl rfl rfl (show _ = 3 * (w 275 79) + 0 from by omega)) (by omega) (by omega) (Eq.trans ev1356.out (by omega)) (by rw [cf1334.out]; omega) (fun c k y1 y2 => by rw [← hw1337]; exact e_up_ne _ _ (by omega)) (fun v y => by rw [cf1333.out]; exact ow1357.out.1 v y) (by rw [cf1333.out]; have := ow1357.out.2; omega))
                            have cf1359 : Hid (w1337 333 (w 275 79 + 3600) = w206 275 78 + 1) := Hid.mk (ev1356.out)
                            refine e_Ok.run (t' := (209, [(3, (0, w 275 79 + 3600)), (2, (0, w 275 79)), (1, (0, w 275 81)), (0, (1, 275))], [(1, 275)], w1337)) 1 rfl ?_
                            refine e_Ok.callV rfl (Nat.le_trans (by decide) hdq) rfl rfl rfl rfl ((hS (by omega) d rfl) w1337 N (o + 1) P OW c1351 hNr (by rw [u1349.out] <;> omega) (Eq.trans u1344.out (show _ = o + 1 from by omega)) (by rw [u1343.out] <;> exact hv.out) (by unfold stB; rw [u1339.out, u1347.out, u1350.out, u1340.out, u1341.out]; omega) (by omega) (by rw [u1339.out, u1350.out, u1340.out, u1341.out, u1342.out] <;> exact (GB.re (g1358.out (by omega)) rfl rfl rfl rfl (show _ = 3 * w 275 79 + 2 from by omega)))) (fun r1360 w1361 h1362 => ?_)
                            obtain ⟨rfl, q1363F, q1363c, q1363l, q1363w⟩ := h1362
                            unfold stL at q1363l
                            obtain ⟨q13631, q13632, q13633, q13634, q13635, q13636, q13637, q13638, q13639, q136310, q136311, q136312⟩ := q1363l
                            replace q13639 := (show Hid _ from q13639)
                            replace q136310 := (show Hid _ from q136310)
                            replace q1363F := (show Hid _ from q1363F)
                            rw [u1347.out] at q13631
                            rw [u1339.out] at q13632
                            rw [u1339.out, u1347.out, u1344.out, u1340.out, u1341.out] at q13633
                            rw [u1339.out, u1347.out] at q13634
                            rw [u1350.out] at q13635
                            rw [u1350.out, u1347.out] at q13636
                            rw [u1344.out] at q13637
                            rw [u1344.out] at q13638
                            rw [u1340.out] at q136311
                            rw [u1341.out] at q136312
                            have f1364 : Hid (e_fr (mStm (w206 275 78 + 1) (w206 275 79) (w206 275 80) (w206 275 94)) w1337 w1361) := Hid.mk (by have y := q1363F.out; rw [u1339.out, u1340.out, u1341.out, u1350.out] at y; exact y)
                            replace q1363w := (show Hid _ from q1363w)
                            have u1365 : Hid (w1361 275 81 = 3 * w 275 79 + 2) := Hid.mk (Eq.trans (q13639.out) u1342.out)
                            have u1366 : Hid (w1361 275 82 = w 275 82) := Hid.mk (Eq.trans (q136310.out) u1343.out)
                            have t1367 := tkS.lin q1363c.2.2.2.1
                            have t1368 := e_Has.get q1363c.2.1 (c := 275) (k := 88) (lo := 0) (hi := 7) rfl (by decide)
                            have f1369 : e_fr (mStm (w 275 78) (w 275 79) (w 275 80) (w 275 94)) w w1361 := e_fr.trans f1338 (e_fr.mono f1364.out (fun c k g => mSt_St (by omega) (by omega) (by omega) (by omega) g))
                            have g1370 : Hid (w1361 275 88 = 0 → GB w1361 N (w1361 275 78) (w1361 275 94) (w1361 275 79) (w1361 275 80) P (3 * w 275 79 + 2) OW (o + 1)) := Hid.mk (fun z => by have y := q1363w.out z; rw [u1365.out] at y; exact y)
                            have cf1373 : Hid (w1361 331 (w 275 79 + 3600) = w 275 81) := Hid.mk (Eq.trans (f1364.out 331 (w 275 79 + 3600) (by unfold mStm; omega)) cf1354.out)
                            have cf1374 : Hid (w1361 332 (w 275 79 + 3600) = (-1)) := Hid.mk (Eq.trans (f1364.out 332 (w 275 79 + 3600) (by unfold mStm; omega)) cf1355.out)
                            have cf1375 : Hid (w1361 333 (w 275 79 + 3600) = w206 275 78 + 1) := Hid.mk (Eq.trans (f1364.out 333 (w 275 79 + 3600) (by unfold mStm; omega)) cf1359.out)
                            show e_Ok 20 elay ecode eI (d + 1) 352 (212, [(3, (0, w 275 79 + 3600)), (2, (0, w 275 79)), (1, (0, w 275 81)), (0, (1, 275))], [], w1361) _
                            refine e_Ok.run (t' := (216, [(3, (0, w 275 79 + 3600)), (2, (0, w 275 79)), (1, (0, w 275 81)), (0, (1, 275))], [(0, w 275 79), (0, 51), (1, 275)], w1361)) 3 rfl ?_
                            refine e_Ok.callV rfl (Nat.le_trans (by decide) hdq) rfl rfl rfl rfl (c_336 q1363c.1 (n := w1361 275 78) rfl (by omega) (s := 3 * w 275 79 + 2) u1365.out (by omega)) (fun r1376 w1377 h1378 => ?_)
                            obtain ⟨rfl, q1379⟩ := h1378
                            replace q1379 := (show Hid (EM w1361 w1377 (w1361 275 78) 51 (w 275 79) (3 * w 275 79 + 2)) from q1379)
                            have u1380 : Hid (w1377 275 78 = w1361 275 78 + 1) := Hid.mk (Eq.trans q1379.out.2.2.2.2 (by omega))
                            have u1381 : Hid (w1377 275 79 = w1361 275 79) := Hid.mk (q1379.out.fld (by decide))
                            have u1382 : Hid (w1377 275 80 = w1361 275 80) := Hid.mk (q1379.out.fld (by decide))
                            have u1384 : Hid (w1377 275 82 = w 275 82) := Hid.mk (Eq.trans (q1379.out.fld (by decide)) u1366.out)
                            have u1385 : Hid (w1377 275 83 = w1361 275 83) := Hid.mk (q1379.out.fld (by decide))
                            have u1386 : Hid (w1377 275 84 = w1361 275 84) := Hid.mk (q1379.out.fld (by decide))
                            have u1387 : Hid (w1377 275 85 = w1361 275 85) := Hid.mk (q1379.out.fld (by decide))
                            have u1388 : Hid (w1377 275 86 = w1361 275 86) := Hid.mk (q1379.out.fld (by decide))
                            have u1389 : Hid (w1377 275 87 = w1361 275 87) := Hid.mk (q1379.out.fld (by decide))
                            have u1390 : Hid (w1377 275 88 = w1361 275 88) := Hid.mk (q1379.out.fld (by decide))
                            have u1391 : Hid (w1377 275 94 = w1361 275 94) := Hid.mk (q1379.out.fld (by decide))
                            have f1392 : e_fr (mStm (w 275 78) (w 275 79) (w 275 80) (w 275 94)) w w1377 := e_fr.trans f1369 (q1379.out.st (by omega))
                            have c1393 := cSt.em q1363c q1379.out (by decide) (by omega) (by omega)
                            have cf1396 : Hid (w1377 331 (w 275 79 + 3600) = w 275 81) := Hid.mk (Eq.trans (q1379.out.far (by decide)) cf1373.out)
                            have cf1397 : Hid (w1377 332 (w 275 79 + 3600) = (-1)) := Hid.mk (Eq.trans (q1379.out.far (by decide)) cf1374.out)
                            have cf1398 : Hid (w1377 333 (w 275 79 + 3600) = w206 275 78 + 1) := Hid.mk (Eq.trans (q1379.out.far (by decide)) cf1375.out)
                            have g1399 : Hid (w1361 275 88 = 0 → GZ w1377 N (w1361 275 78 + 1) (w1361 275 94) (w1361 275 79) (w1361 275 80) P (3 * w 275 79 + 2) OW (o + 1)) := Hid.mk (fun z => (GI.zz (g1370.out (by omega)).1 ((g1370.out (by omega)).2.2 51 (sg_no (by omega))) (g1370.out (by omega)).2.1 q1379.out (by omega) (fun y => absurd y (by decide)) (fun _ => ⟨⟨by omega, by omega⟩, by omega⟩)))
                            show e_Ok 20 elay ecode eI (d + 1) 352 (219, [(3, (0, w 275 79 + 3600)), (2, (0, w 275 79)), (1, (0, w 275 81)), (0, (1, 275))], [(0, w1361 275 78)], w1377) _
                            refine e_Ok.run (t' := (222, [(3, (0, w 275 79 + 3600)), (2, (0, w 275 79)), (1, (0, w 275 81)), (0, (1, 275))], [(0, w 275 81), (1, 275)], w1377)) 3 rfl ?_
                            refine e_Ok.putf rfl (el_o rfl) rfl rfl ?_
                            generalize hw1400 : e_up w1377 275 81 (w 275 81) = w1400
                            have f1401 : e_fr (mStm (w 275 78) (w 275 79) (w 275 80) (w 275 94)) w w1400 := e_fr.up f1392 hw1400 (by unfold mStm; omega)
                            have u1402 : Hid (w1400 275 78 = w1361 275 78 + 1) := Hid.mk (Eq.trans (by rw [← hw1400]; exact e_up_ne _ _ (Or.inr (by decide))) u1380.out)
                            have u1403 : Hid (w1400 275 79 = w1361 275 79) := Hid.mk (Eq.trans (by rw [← hw1400]; exact e_up_ne _ _ (Or.inr (by decide))) u1381.out)
                            have u1404 : Hid (w1400 275 80 = w1361 275 80) := Hid.mk (Eq.trans (by rw [← hw1400]; exact e_up_ne _ _ (Or.inr (by decide))) u1382.out)
                            have u1405 : Hid (w1400 275 81 = w 275 81) := Hid.mk (by rw [← hw1400]; exact e_up_eq _ _ _ _)
                            have u1406 : Hid (w1400 275 82 = w 275 82) := Hid.mk (Eq.trans (by rw [← hw1400]; exact e_up_ne _ _ (Or.inr (by decide))) u1384.out)
                            have u1407 : Hid (w1400 275 83 = w1361 275 83) := Hid.mk (Eq.trans (by rw [← hw1400]; exact e_up_ne _ _ (Or.inr (by decide))) u1385.out)
                            have u1408 : Hid (w1400 275 84 = w1361 275 84) := Hid.mk (Eq.trans (by rw [← hw1400]; exact e_up_ne _ _ (Or.inr (by decide))) u1386.out)
                            have u1409 : Hid (w1400 275 85 = w1361 275 85) := Hid.mk (Eq.trans (by rw [← hw1400]; exact e_up_ne _ _ (Or.inr (by decide))) u1387.out)
                            have u1410 : Hid (w1400 275 86 = w1361 275 86) := Hid.mk (Eq.trans (by rw [← hw1400]; exact e_up_ne _ _ (Or.inr (by decide))) u1388.out)
                            have u1411 : Hid (w1400 275 87 = w1361 275 87) := Hid.mk (Eq.trans (by rw [← hw1400]; exact e_up_ne _ _ (Or.inr (by decide))) u1389.out)
                            have u1412 : Hid (w1400 275 88 = w1361 275 88) := Hid.mk (Eq.trans (by rw [← hw1400]; exact e_up_ne _ _ (Or.inr (by decide))) u1390.out)
                            have u1413 : Hid (w1400 275 94 = w1361 275 94) := Hid.mk (Eq.trans (by rw [← hw1400]; exact e_up_ne _ _ (Or.inr (by decide))) u1391.out)
                            have c1414 := cSt.wr c1393 hw1400 (Or.inr rfl) (by omega) rfl (fun _ => ⟨⟨by decide, by decide⟩, fun y => by omega⟩)
                            have cf1417 : Hid (w1400 331 (w 275 79 + 3600) = w 275 81) := Hid.mk (Eq.trans (by rw [← hw1400]; exact e_up_ne _ _ (Or.inl (by decide))) cf1396.out)
                            have cf1418 : Hid (w1400 332 (w 275 79 + 3600) = (-1)) := Hid.mk (Eq.trans (by rw [← hw1400]; exact e_up_ne _ _ (Or.inl (by decide))) cf1397.out)
                            have cf1419 : Hid (w1400 333 (w 275 79 + 3600) = w206 275 78 + 1) := Hid.mk (Eq.trans (by rw [← hw1400]; exact e_up_ne _ _ (Or.inl (by decide))) cf1398.out)
                            have g1420 : Hid (w1361 275 88 = 0 → GZ w1400 N (w1361 275 78 + 1) (w1361 275 94) (w1361 275 79) (w1361 275 80) P (3 * w 275 79 + 2) OW (o + 1)) := Hid.mk (fun z => GZ.pr (g1399.out z) (fun c k q => by rw [← hw1400]; exact e_up_ne _ _ (by omega)))
                            refine e_Ok.run (t' := (226, [(3, (0, w 275 79 + 3600)), (2, (0, w 275 79)), (1, (0, w 275 81)), (0, (1, 275))], [(1, 275)], w1400)) 1 rfl ?_
                            refine e_Ok.getr (z := 334) rfl (el_o rfl) rfl rfl ((f1401 275 71 (by unfold mStm; omega)).trans (e_Has.eq hc.1 rfl)) (by omega) ?_
                            refine e_Ok.run (t' := (231, [(3, (0, w 275 79 + 3600)), (2, (0, w 275 79)), (1, (0, w 275 81)), (0, (1, 275))], [(1, 275), (0, w 275 79 + 3600), (1, 334)], w1400)) 2 rfl ?_
                            refine e_Ok.getf (z := w1361 275 78 + 1) rfl (el_o rfl) rfl rfl u1402.out (by omega) ?_
                            refine e_Ok.ast rfl (el_o rfl) rfl rfl (by omega) ?_
                            generalize hw1421 : e_up w1400 334 (w 275 79 + 3600) (w1361 275 78 + 1) = w1421
                            have f1422 : e_fr (mStm (w 275 78) (w 275 79) (w 275 80) (w 275 94)) w w1421 := e_fr.up f1401 hw1421 (by unfold mStm; omega)
                            have u1423 : Hid (w1421 275 78 = w1361 275 78 + 1) := Hid.mk (Eq.trans (by rw [← hw1421]; exact e_up_ne _ _ (Or.inl (by decide))) u1402.out)
                            have u1424 : Hid (w1421 275 79 = w1361 275 79) := Hid.mk (Eq.trans (by rw [← hw1421]; exact e_up_ne _ _ (Or.inl (by decide))) u1403.out)
                            have u1425 : Hid (w1421 275 80 = w1361 275 80) := Hid.mk (Eq.trans (by rw [← hw1421]; exact e_up_ne _ _ (Or.inl (by decide))) u1404.out)
                            have u1426 : Hid (w1421 275 81 = w 275 81) := Hid.mk (Eq.trans (by rw [← hw1421]; exact e_up_ne _ _ (Or.inl (by decide))) u1405.out)
                            have u1427 : Hid (w1421 275 82 = w 275 82) := Hid.mk (Eq.trans (by rw [← hw1421]; exact e_up_ne _ _ (Or.inl (by decide))) u1406.out)
                            have u1428 : Hid (w1421 275 83 = w1361 275 83) := Hid.mk (Eq.trans (by rw [← hw1421]; exact e_up_ne _ _ (Or.inl (by decide))) u1407.out)
                            have u1429 : Hid (w1421 275 84 = w1361 275 84) := Hid.mk (Eq.trans (by rw [← hw1421]; exact e_up_ne _ _ (Or.inl (by decide))) u1408.out)
                            have u1430 : Hid (w1421 275 85 = w1361 275 85) := Hid.mk (Eq.trans (by rw [← hw1421]; exact e_up_ne _ _ (Or.inl (by decide))) u1409.out)
                            have u1431 : Hid (w1421 275 86 = w1361 275 86) := Hid.mk (Eq.trans (by rw [← hw1421]; exact e_up_ne _ _ (Or.inl (by decide))) u1410.out)
                            have u1432 : Hid (w1421 275 87 = w1361 275 87) := Hid.mk (Eq.trans (by rw [← hw1421]; exact e_up_ne _ _ (Or.inl (by decide))) u1411.out)
                            have u1433 : Hid (w1421 275 88 = w1361 275 88) := Hid.mk (Eq.trans (by rw [← hw1421]; exact e_up_ne _ _ (Or.inl (by decide))) u1412.out)
                            have u1434 : Hid (w1421 275 94 = w1361 275 94) := Hid.mk (Eq.trans (by rw [← hw1421]; exact e_up_ne _ _ (Or.inl (by decide))) u1413.out)
                            have c1435 := cSt.wr c1414 hw1421 (Or.inl rfl) (by omega) rfl (fun y => absurd y (by decide))
                            have ev1441 : Hid (w1421 334 (w 275 79 + 3600) = w1361 275 78 + 1) := Hid.mk (by rw [← hw1421]; exact e_up_eq _ _ _ _)
                            have ow1442 := (show Hid _ from GB.ow hG f1401)
                            have p1443 : Hid (piR w1421 (w 275 81) ≤ O) := Hid.mk (GB.ow hG f1422).2
                            have g1444 : Hid (w1361 275 88 = 0 → GB w1421 N (w1361 275 78 + 1) (w1361 275 94) (w1361 275 79) (w1361 275 80) P (w 275 81) OW O) := Hid.mk (fun z => GB.oo (GB.re (GZ.over (GZ.re (g1420.out (by omega)) rfl rfl rfl rfl (show _ = 3 * (w 275 79) + 2 from by omega)) (by omega) (by omega) (Eq.trans ev1441.out (by omega)) (by rw [cf1418.out, cf1419.out]; omega) (fun c k y1 y2 => by rw [← hw1421]; exact e_up_ne _ _ (by omega)) (fun v y => by rw [cf1417.out]; exact ow1442.out.1 v y) (by rw [cf1417.out]; have := ow1442.out.2; omega)) rfl rfl rfl rfl cf1417.out) p1443.out)
                            refine e_Ok.run (t' := (238, [(3, (0, w 275 79 + 3600)), (2, (0, w 275 79)), (1, (0, w 275 81)), (0, (1, 275))], [(0, 2), (1, 275), (1, 275)], w1421)) 3 rfl ?_
                            refine e_Ok.callV rfl (Nat.le_trans (by decide) hdq) rfl rfl rfl rfl (c_332 c1435.1 (N := N) c1435.2.2.2.1) (fun r1445 w1446 h1447 => ?_)
                            obtain ⟨z1448, rfl, rfl, q1449⟩ := h1447
                            obtain ⟨rfl, q1449, q1449b⟩ | ⟨rfl, q1449n⟩ := q1449
                            · show e_Ok 20 elay ecode eI (d + 1) 352 (241, [(3, (0, w 275 79 + 3600)), (2, (0, w 275 79)), (1, (0, w 275 81)), (0, (1, 275))], [(0, 1), (1, 275)], w1421) _
                              rw [u1429.out] at q1449
                              rw [u1430.out] at q1449b
                              refine e_Ok.callV rfl (Nat.le_trans (by decide) hdq) rfl rfl rfl rfl (c_334 (Nat.le_trans (by decide) hdq) c1435.1 c1435.2.1 c1435.2.2.1 hNr c1435.2.2.2.1 (by decide)) (fun r1450 w1451 h1452 => ?_)
                              obtain ⟨rfl, q1453⟩ := h1452
                              obtain ⟨rfl, q1453z⟩ | ⟨q1453z, q1453b, q1453, q1453s, q1453t⟩ | ⟨q1453z, q1453b, q1453, q1453T, q1453H, q1453r⟩ := q1453
                              · show e_Ok 20 elay ecode eI (d + 1) 352 (244, [(3, (0, w 275 79 + 3600)), (2, (0, w 275 79)), (1, (0, w 275 81)), (0, (1, 275))], [], w1421) _
                                rw [u1433.out] at q1453z
                                clear q13633
                                refine e_Ok.run (t' := (246, [(3, (0, w 275 79 + 3600)), (2, (0, w 275 79)), (1, (0, w 275 81)), (0, (1, 275))], [(1, 275), (1, 275)], w1421)) 2 rfl ?_
                                refine e_Ok.getf (z := w1361 275 83) rfl (el_o rfl) rfl rfl u1428.out (by omega) ?_
                                refine e_Ok.run (t' := (250, [(3, (0, w 275 79 + 3600)), (2, (0, w 275 79)), (1, (0, w 275 81)), (0, (1, 275))], [(0, 1), (0, w1361 275 83), (1, 275)], w1421)) 1 rfl ?_
                                refine e_Ok.sub' (z := w1361 275 83 - 1) rfl (by omega) (by omega) ?_
                                refine e_Ok.putf rfl (el_o rfl) rfl rfl ?_
                                generalize hw1454 : e_up w1421 275 83 (w1361 275 83 - 1) = w1454
                                have f1455 : e_fr (mStm (w 275 78) (w 275 79) (w 275 80) (w 275 94)) w w1454 := e_fr.up f1422 hw1454 (by unfold mStm; omega)
                                have e1456 := up83 hw1454
                                replace e1456 := (show Hid _ from e1456)
                                have u1457 : Hid (w1454 275 78 = w1361 275 78 + 1) := Hid.mk (Eq.trans (e1456.out.1 275 78 (by decide)) u1423.out)
                                have u1458 : Hid (w1454 275 79 = w1361 275 79) := Hid.mk (Eq.trans (e1456.out.1 275 79 (by decide)) u1424.out)
                                have u1459 : Hid (w1454 275 80 = w1361 275 80) := Hid.mk (Eq.trans (e1456.out.1 275 80 (by decide)) u1425.out)
                                have u1460 : Hid (w1454 275 81 = w 275 81) := Hid.mk (Eq.trans (e1456.out.1 275 81 (by decide)) u1426.out)
                                have u1461 : Hid (w1454 275 82 = w 275 82) := Hid.mk (Eq.trans (e1456.out.1 275 82 (by decide)) u1427.out)
                                have u1462 : Hid (w1454 275 83 = w1361 275 83 - 1) := Hid.mk (e1456.out.2)
                                have u1465 : Hid (w1454 275 86 = w1361 275 86) := Hid.mk (Eq.trans (e1456.out.1 275 86 (by decide)) u1431.out)
                                have u1467 : Hid (w1454 275 88 = w1361 275 88) := Hid.mk (Eq.trans (e1456.out.1 275 88 (by decide)) u1433.out)
                                have u1468 : Hid (w1454 275 94 = w1361 275 94) := Hid.mk (Eq.trans (e1456.out.1 275 94 (by decide)) u1434.out)
                                have c1469 := cSt.up c1435 hw1454
                                refine e_Ok.rets rfl rfl ?_
                                exact ⟨rfl, f1455, c1469, (by unfold stL; rw [u1457.out, u1458.out, u1459.out, u1460.out, u1461.out, u1462.out, u1465.out, u1467.out, u1468.out]; omega), (fun z => by rw [u1467.out] at z; exact absurd z (by omega))⟩
                              · show e_Ok 20 elay ecode eI (d + 1) 352 (244, [(3, (0, w 275 79 + 3600)), (2, (0, w 275 79)), (1, (0, w 275 81)), (0, (1, 275))], [], w1451) _
                                rw [u1433.out] at q1453z
                                rw [u1432.out] at q1453t
                                replace q13633 := q13633 (by omega)
                                have p1470 := tkS.pos c1435.2.2.2.1 (by rw [u1429.out] <;> omega)
                                rw [u1431.out, u1432.out] at p1470
                                have p1471 := tkS.key c1435.2.2.2.1 (by rw [u1429.out] <;> omega)
                                rw [u1431.out, u1432.out, u1430.out] at p1471
                                have u1472 : Hid (w1451 275 78 = w1361 275 78 + 1) := Hid.mk (Eq.trans (q1453 275 78 (mTq_fld (by decide))) u1423.out)
                                have u1473 : Hid (w1451 275 79 = w1361 275 79) := Hid.mk (Eq.trans (q1453 275 79 (mTq_fld (by decide))) u1424.out)
                                have u1474 : Hid (w1451 275 80 = w1361 275 80) := Hid.mk (Eq.trans (q1453 275 80 (mTq_fld (by decide))) u1425.out)
                                have u1475 : Hid (w1451 275 81 = w 275 81) := Hid.mk (Eq.trans (q1453 275 81 (mTq_fld (by decide))) u1426.out)
                                have u1476 : Hid (w1451 275 82 = w 275 82) := Hid.mk (Eq.trans (q1453 275 82 (mTq_fld (by decide))) u1427.out)
                                have u1477 : Hid (w1451 275 83 = w1361 275 83) := Hid.mk (Eq.trans (q1453 275 83 (mTq_fld (by decide))) u1428.out)
                                have u1478 : Hid (w1451 275 88 = w1361 275 88) := Hid.mk (Eq.trans (q1453 275 88 (mTq_fld (by decide))) u1433.out)
                                have u1479 : Hid (w1451 275 94 = w1361 275 94) := Hid.mk (Eq.trans (q1453 275 94 (mTq_fld (by decide))) u1434.out)
                                have c1480 := cSt.tk c1435 q1453 q1453s
                                have t1481 := tkS.lin c1480.2.2.2.1
                                have f1482 : e_fr (mStm (w 275 78) (w 275 79) (w 275 80) (w 275 94)) w w1451 := e_fr.trans f1422 (e_fr.mono q1453 (fun c k g => mTq_St g))
                                have g1483 : Hid (w1361 275 88 = 0 → GB w1451 N (w1361 275 78 + 1) (w1361 275 94) (w1361 275 79) (w1361 275 80) P (w 275 81) OW O) := Hid.mk (fun z => GB.pr (g1444.out z) (prE.tk q1453))
                                refine e_Ok.run (t' := (246, [(3, (0, w 275 79 + 3600)), (2, (0, w 275 79)), (1, (0, w 275 81)), (0, (1, 275))], [(1, 275), (1, 275)], w1451)) 2 rfl ?_
                                refine e_Ok.getf (z := w1361 275 83) rfl (el_o rfl) rfl rfl u1477.out (by omega) ?_
                                refine e_Ok.run (t' := (250, [(3, (0, w 275 79 + 3600)), (2, (0, w 275 79)), (1, (0, w 275 81)), (0, (1, 275))], [(0, 1), (0, w1361 275 83), (1, 275)], w1451)) 1 rfl ?_
                                refine e_Ok.sub' (z := w1361 275 83 - 1) rfl (by omega) (by omega) ?_
                                refine e_Ok.putf rfl (el_o rfl) rfl rfl ?_
                                generalize hw1489 : e_up w1451 275 83 (w1361 275 83 - 1) = w1489
                                have f1490 : e_fr (mStm (w 275 78) (w 275 79) (w 275 80) (w 275 94)) w w1489 := e_fr.up f1482 hw1489 (by unfold mStm; omega)
                                have e1491 := up83 hw1489
                                replace e1491 := (show Hid _ from e1491)
                                have u1492 : Hid (w1489 275 78 = w1361 275 78 + 1) := Hid.mk (Eq.trans (e1491.out.1 275 78 (by decide)) u1472.out)
                                have u1493 : Hid (w1489 275 79 = w1361 275 79) := Hid.mk (Eq.trans (e1491.out.1 275 79 (by decide)) u1473.out)
                                have u1494 : Hid (w1489 275 80 = w1361 275 80) := Hid.mk (Eq.trans (e1491.out.1 275 80 (by decide)) u1474.out)
                                have u1495 : Hid (w1489 275 81 = w 275 81) := Hid.mk (Eq.trans (e1491.out.1 275 81 (by decide)) u1475.out)
                                have u1496 : Hid (w1489 275 82 = w 275 82) := Hid.mk (Eq.trans (e1491.out.1 275 82 (by decide)) u1476.out)
                                have u1497 : Hid (w1489 275 83 = w1361 275 83 - 1) := Hid.mk (e1491.out.2)
                                have u1500 : Hid (w1489 275 86 = w1451 275 86) := Hid.mk (e1491.out.1 275 86 (by decide))
                                have u1502 : Hid (w1489 275 88 = w1361 275 88) := Hid.mk (Eq.trans (e1491.out.1 275 88 (by decide)) u1478.out)
                                have u1503 : Hid (w1489 275 94 = w1361 275 94) := Hid.mk (Eq.trans (e1491.out.1 275 94 (by decide)) u1479.out)
                                have c1504 := cSt.up c1480 hw1489
                                have g1505 : Hid (w1361 275 88 = 0 → GB w1489 N (w1361 275 78 + 1) (w1361 275 94) (w1361 275 79) (w1361 275 80) P (w 275 81) OW O) := Hid.mk (fun z => GB.pr (g1483.out z) (prE.up hw1489))
                                refine e_Ok.rets rfl rfl ?_
                                exact ⟨rfl, f1490, c1504, (by unfold stL; rw [u1492.out, u1493.out, u1494.out, u1495.out, u1496.out, u1497.out, u1500.out, u1502.out, u1503.out]; omega), (fun z => by rw [u1502.out] at z; rw [u1492.out, u1503.out, u1493.out, u1494.out, u1495.out]; exact (g1505.out (by omega)))⟩
                              · exact absurd q1453b (by decide)
                            · show e_Ok 20 elay ecode eI (d + 1) 352 (241, [(3, (0, w 275 79 + 3600)), (2, (0, w 275 79)), (1, (0, w 275 81)), (0, (1, 275))], [(0, 0), (1, 275)], w1421) _
                              clear q1449n
                              refine e_Ok.callV rfl (Nat.le_trans (by decide) hdq) rfl rfl rfl rfl (c_334 (Nat.le_trans (by decide) hdq) c1435.1 c1435.2.1 c1435.2.2.1 hNr c1435.2.2.2.1 (by decide)) (fun r1511 w1512 h1513 => ?_)
                              obtain ⟨rfl, q1514⟩ := h1513
                              obtain ⟨rfl, q1514z⟩ | ⟨q1514z, q1514b, q1514, q1514s, q1514t⟩ | ⟨q1514z, q1514b, q1514, q1514T, q1514H, q1514r⟩ := q1514
                              · show e_Ok 20 elay ecode eI (d + 1) 352 (244, [(3, (0, w 275 79 + 3600)), (2, (0, w 275 79)), (1, (0, w 275 81)), (0, (1, 275))], [], w1421) _
                                rw [u1433.out] at q1514z
                                clear q13633
                                refine e_Ok.run (t' := (246, [(3, (0, w 275 79 + 3600)), (2, (0, w 275 79)), (1, (0, w 275 81)), (0, (1, 275))], [(1, 275), (1, 275)], w1421)) 2 rfl ?_
                                refine e_Ok.getf (z := w1361 275 83) rfl (el_o rfl) rfl rfl u1428.out (by omega) ?_
                                refine e_Ok.run (t' := (250, [(3, (0, w 275 79 + 3600)), (2, (0, w 275 79)), (1, (0, w 275 81)), (0, (1, 275))], [(0, 1), (0, w1361 275 83), (1, 275)], w1421)) 1 rfl ?_
                                refine e_Ok.sub' (z := w1361 275 83 - 1) rfl (by omega) (by omega) ?_
                                refine e_Ok.putf rfl (el_o rfl) rfl rfl ?_
                                generalize hw1515 : e_up w1421 275 83 (w1361 275 83 - 1) = w1515
                                have f1516 : e_fr (mStm (w 275 78) (w 275 79) (w 275 80) (w 275 94)) w w1515 := e_fr.up f1422 hw1515 (by unfold mStm; omega)
                                have e1517 := up83 hw1515
                                replace e1517 := (show Hid _ from e1517)
                                have u1518 : Hid (w1515 275 78 = w1361 275 78 + 1) := Hid.mk (Eq.trans (e1517.out.1 275 78 (by decide)) u1423.out)
                                have u1519 : Hid (w1515 275 79 = w1361 275 79) := Hid.mk (Eq.trans (e1517.out.1 275 79 (by decide)) u1424.out)
                                have u1520 : Hid (w1515 275 80 = w1361 275 80) := Hid.mk (Eq.trans (e1517.out.1 275 80 (by decide)) u1425.out)
                                have u1521 : Hid (w1515 275 81 = w 275 81) := Hid.mk (Eq.trans (e1517.out.1 275 81 (by decide)) u1426.out)
                                have u1522 : Hid (w1515 275 82 = w 275 82) := Hid.mk (Eq.trans (e1517.out.1 275 82 (by decide)) u1427.out)
                                have u1523 : Hid (w1515 275 83 = w1361 275 83 - 1) := Hid.mk (e1517.out.2)
                                have u1526 : Hid (w1515 275 86 = w1361 275 86) := Hid.mk (Eq.trans (e1517.out.1 275 86 (by decide)) u1431.out)
                                have u1528 : Hid (w1515 275 88 = w1361 275 88) := Hid.mk (Eq.trans (e1517.out.1 275 88 (by decide)) u1433.out)
                                have u1529 : Hid (w1515 275 94 = w1361 275 94) := Hid.mk (Eq.trans (e1517.out.1 275 94 (by decide)) u1434.out)
                                have c1530 := cSt.up c1435 hw1515
                                refine e_Ok.rets rfl rfl ?_
                                exact ⟨rfl, f1516, c1530, (by unfold stL; rw [u1518.out, u1519.out, u1520.out, u1521.out, u1522.out, u1523.out, u1526.out, u1528.out, u1529.out]; omega), (fun z => by rw [u1528.out] at z; exact absurd z (by omega))⟩
                              · exact absurd q1514b (by decide)
                              · show e_Ok 20 elay ecode eI (d + 1) 352 (244, [(3, (0, w 275 79 + 3600)), (2, (0, w 275 79)), (1, (0, w 275 81)), (0, (1, 275))], [], w1512) _
                                rw [u1433.out] at q1514z
                                replace q13633 := q13633 (by omega)
                                have u1531 : Hid (w1512 275 78 = w1361 275 78 + 1) := Hid.mk (Eq.trans (q1514 275 78 (mRf_fld (by decide))) u1423.out)
                                have u1532 : Hid (w1512 275 79 = w1361 275 79) := Hid.mk (Eq.trans (q1514 275 79 (mRf_fld (by decide))) u1424.out)
                                have u1533 : Hid (w1512 275 80 = w1361 275 80) := Hid.mk (Eq.trans (q1514 275 80 (mRf_fld (by decide))) u1425.out)
                                have u1534 : Hid (w1512 275 81 = w 275 81) := Hid.mk (Eq.trans (q1514 275 81 (mRf_fld (by decide))) u1426.out)
                                have u1535 : Hid (w1512 275 82 = w 275 82) := Hid.mk (Eq.trans (q1514 275 82 (mRf_fld (by decide))) u1427.out)
                                have u1536 : Hid (w1512 275 83 = w1361 275 83) := Hid.mk (Eq.trans (q1514 275 83 (mRf_fld (by decide))) u1428.out)
                                have u1539 : Hid (w1512 275 86 = w1361 275 86) := Hid.mk (Eq.trans (q1514 275 86 (mRf_fld (by decide))) u1431.out)
                                have u1541 : Hid (w1512 275 94 = w1361 275 94) := Hid.mk (Eq.trans (q1514 275 94 (mRf_fld (by decide))) u1434.out)
                                have c1542 := cSt.rf c1435 q1514 q1514T q1514H
                                have f1543 : e_fr (mStm (w 275 78) (w 275 79) (w 275 80) (w 275 94)) w w1512 := e_fr.trans f1422 (e_fr.mono q1514 (fun c k g => mRf_St g))
                                refine e_Ok.run (t' := (246, [(3, (0, w 275 79 + 3600)), (2, (0, w 275 79)), (1, (0, w 275 81)), (0, (1, 275))], [(1, 275), (1, 275)], w1512)) 2 rfl ?_
                                refine e_Ok.getf (z := w1361 275 83) rfl (el_o rfl) rfl rfl u1536.out (by omega) ?_
                                refine e_Ok.run (t' := (250, [(3, (0, w 275 79 + 3600)), (2, (0, w 275 79)), (1, (0, w 275 81)), (0, (1, 275))], [(0, 1), (0, w1361 275 83), (1, 275)], w1512)) 1 rfl ?_
                                refine e_Ok.sub' (z := w1361 275 83 - 1) rfl (by omega) (by omega) ?_
                                refine e_Ok.putf rfl (el_o rfl) rfl rfl ?_
                                generalize hw1544 : e_up w1512 275 83 (w1361 275 83 - 1) = w1544
                                have f1545 : e_fr (mStm (w 275 78) (w 275 79) (w 275 80) (w 275 94)) w w1544 := e_fr.up f1543 hw1544 (by unfold mStm; omega)
                                have e1546 := up83 hw1544
                                replace e1546 := (show Hid _ from e1546)
                                have u1547 : Hid (w1544 275 78 = w1361 275 78 + 1) := Hid.mk (Eq.trans (e1546.out.1 275 78 (by decide)) u1531.out)
                                have u1548 : Hid (w1544 275 79 = w1361 275 79) := Hid.mk (Eq.trans (e1546.out.1 275 79 (by decide)) u1532.out)
                                have u1549 : Hid (w1544 275 80 = w1361 275 80) := Hid.mk (Eq.trans (e1546.out.1 275 80 (by decide)) u1533.out)
                                have u1550 : Hid (w1544 275 81 = w 275 81) := Hid.mk (Eq.trans (e1546.out.1 275 81 (by decide)) u1534.out)
                                have u1551 : Hid (w1544 275 82 = w 275 82) := Hid.mk (Eq.trans (e1546.out.1 275 82 (by decide)) u1535.out)
                                have u1552 : Hid (w1544 275 83 = w1361 275 83 - 1) := Hid.mk (e1546.out.2)
                                have u1555 : Hid (w1544 275 86 = w1361 275 86) := Hid.mk (Eq.trans (e1546.out.1 275 86 (by decide)) u1539.out)
                                have u1557 : Hid (w1544 275 88 = w1512 275 88) := Hid.mk (e1546.out.1 275 88 (by decide))
                                have u1558 : Hid (w1544 275 94 = w1361 275 94) := Hid.mk (Eq.trans (e1546.out.1 275 94 (by decide)) u1541.out)
                                have c1559 := cSt.up c1542 hw1544
                                refine e_Ok.rets rfl rfl ?_
                                exact ⟨rfl, f1545, c1559, (by unfold stL; rw [u1547.out, u1548.out, u1549.out, u1550.out, u1551.out, u1552.out, u1555.out, u1557.out, u1558.out]; omega), (fun z => by rw [u1557.out] at z; exact absurd z (by omega))⟩
                          · exact absurd q1297b (by decide)
                        · show e_Ok 20 elay ecode eI (d + 1) 352 (186, [(3, (0, w 275 79 + 3600)), (2, (0, w 275 79)), (1, (0, w 275 81)), (0, (1, 275))], [(0, 0), (1, 275)], w1267) _
                          clear q1293n
                          refine e_Ok.callV rfl (Nat.le_trans (by decide) hdq) rfl rfl rfl rfl (c_334 (Nat.le_trans (by decide) hdq) c1280.1 c1280.2.1 c1280.2.2.1 hNr c1280.2.2.2.1 (by decide)) (fun r1560 w1561 h1562 => ?_)
                          obtain ⟨rfl, q1563⟩ := h1562
                          obtain ⟨rfl, q1563z⟩ | ⟨q1563z, q1563b, q1563, q1563s, q1563t⟩ | ⟨q1563z, q1563b, q1563, q1563T, q1563H, q1563r⟩ := q1563
                          · rw [u1278.out] at q1563z; exact absurd q1563z (by omega)
                          · exact absurd q1563b (by decide)
                          · show e_Ok 20 elay ecode eI (d + 1) 352 (189, [(3, (0, w 275 79 + 3600)), (2, (0, w 275 79)), (1, (0, w 275 81)), (0, (1, 275))], [], w1561) _
                            rw [u1278.out] at q1563z
                            have u1564 : Hid (w1561 275 78 = w206 275 78 + 1) := Hid.mk (Eq.trans (q1563 275 78 (mRf_fld (by decide))) u1272.out)
                            have u1565 : Hid (w1561 275 79 = w206 275 79) := Hid.mk (Eq.trans (q1563 275 79 (mRf_fld (by decide))) u1273.out)
                            have u1566 : Hid (w1561 275 80 = w206 275 80) := Hid.mk (Eq.trans (q1563 275 80 (mRf_fld (by decide))) u1274.out)
                            have u1568 : Hid (w1561 275 82 = w 275 82) := Hid.mk (Eq.trans (q1563 275 82 (mRf_fld (by decide))) u1276.out)
                            have u1569 : Hid (w1561 275 83 = w206 275 83) := Hid.mk (Eq.trans (q1563 275 83 (mRf_fld (by decide))) u1277.out)
                            have u1570 : Hid (w1561 275 84 = w1267 275 84) := Hid.mk (q1563 275 84 (mRf_fld (by decide)))
                            have u1571 : Hid (w1561 275 85 = w1267 275 85) := Hid.mk (q1563 275 85 (mRf_fld (by decide)))
                            have u1572 : Hid (w1561 275 86 = w1267 275 86) := Hid.mk (q1563 275 86 (mRf_fld (by decide)))
                            have u1574 : Hid (w1561 275 94 = w206 275 94) := Hid.mk (Eq.trans (q1563 275 94 (mRf_fld (by decide))) u1279.out)
                            have c1575 := cSt.rf c1280 q1563 q1563T q1563H
                            have f1576 : e_fr (mStm (w 275 78) (w 275 79) (w 275 80) (w 275 94)) w w1561 := e_fr.trans f1282 (e_fr.mono q1563 (fun c k g => mRf_St g))
                            refine e_Ok.run (t' := (192, [(3, (0, w 275 79 + 3600)), (2, (0, w 275 79)), (1, (0, w 275 81)), (0, (1, 275))], [(0, w 275 79), (0, 3), (1, 275)], w1561)) 3 rfl ?_
                            refine e_Ok.mul (z := 3 * w 275 79) rfl (by omega) (by omega) ?_
                            refine e_Ok.run (t' := (194, [(3, (0, w 275 79 + 3600)), (2, (0, w 275 79)), (1, (0, w 275 81)), (0, (1, 275))], [(0, 2), (0, 3 * w 275 79), (1, 275)], w1561)) 1 rfl ?_
                            refine e_Ok.add (z := 3 * w 275 79 + 2) rfl (by omega) (by omega) ?_
                            refine e_Ok.putf rfl (el_o rfl) rfl rfl ?_
                            generalize hw1577 : e_up w1561 275 81 (3 * w 275 79 + 2) = w1577
                            have f1578 : e_fr (mStm (w 275 78) (w 275 79) (w 275 80) (w 275 94)) w w1577 := e_fr.up f1576 hw1577 (by unfold mStm; omega)
                            have u1579 : Hid (w1577 275 78 = w206 275 78 + 1) := Hid.mk (Eq.trans (by rw [← hw1577]; exact e_up_ne _ _ (Or.inr (by decide))) u1564.out)
                            have u1580 : Hid (w1577 275 79 = w206 275 79) := Hid.mk (Eq.trans (by rw [← hw1577]; exact e_up_ne _ _ (Or.inr (by decide))) u1565.out)
                            have u1581 : Hid (w1577 275 80 = w206 275 80) := Hid.mk (Eq.trans (by rw [← hw1577]; exact e_up_ne _ _ (Or.inr (by decide))) u1566.out)
                            have u1582 : Hid (w1577 275 81 = 3 * w 275 79 + 2) := Hid.mk (by rw [← hw1577]; exact e_up_eq _ _ _ _)
                            have u1583 : Hid (w1577 275 82 = w 275 82) := Hid.mk (Eq.trans (by rw [← hw1577]; exact e_up_ne _ _ (Or.inr (by decide))) u1568.out)
                            have u1584 : Hid (w1577 275 83 = w206 275 83) := Hid.mk (Eq.trans (by rw [← hw1577]; exact e_up_ne _ _ (Or.inr (by decide))) u1569.out)
                            have u1585 : Hid (w1577 275 84 = w1267 275 84) := Hid.mk (Eq.trans (by rw [← hw1577]; exact e_up_ne _ _ (Or.inr (by decide))) u1570.out)
                            have u1586 : Hid (w1577 275 85 = w1267 275 85) := Hid.mk (Eq.trans (by rw [← hw1577]; exact e_up_ne _ _ (Or.inr (by decide))) u1571.out)
                            have u1587 : Hid (w1577 275 86 = w1267 275 86) := Hid.mk (Eq.trans (by rw [← hw1577]; exact e_up_ne _ _ (Or.inr (by decide))) u1572.out)
                            have u1589 : Hid (w1577 275 88 = w1561 275 88) := Hid.mk (by rw [← hw1577]; exact e_up_ne _ _ (Or.inr (by decide)))
                            have u1590 : Hid (w1577 275 94 = w206 275 94) := Hid.mk (Eq.trans (by rw [← hw1577]; exact e_up_ne _ _ (Or.inr (by decide))) u1574.out)
                            have c1591 := cSt.wr c1575 hw1577 (Or.inr rfl) (by omega) rfl (fun _ => ⟨⟨by decide, by decide⟩, fun y => by omega⟩)
                            refine e_Ok.run (t' := (199, [(3, (0, w 275 79 + 3600)), (2, (0, w 275 79)), (1, (0, w 275 81)), (0, (1, 275))], [(1, 275)], w1577)) 1 rfl ?_
                            refine e_Ok.getr (z := 333) rfl (el_o rfl) rfl rfl ((f1578 275 70 (by unfold mStm; omega)).trans (e_Has.eq hc.1 rfl)) (by omega) ?_
                            refine e_Ok.run (t' := (204, [(3, (0, w 275 79 + 3600)), (2, (0, w 275 79)), (1, (0, w 275 81)), (0, (1, 275))], [(1, 275), (0, w 275 79 + 3600), (1, 333)], w1577)) 2 rfl ?_
                            refine e_Ok.getf (z := w206 275 78 + 1) rfl (el_o rfl) rfl rfl u1579.out (by omega) ?_
                            refine e_Ok.ast rfl (el_o rfl) rfl rfl (by omega) ?_
                            generalize hw1592 : e_up w1577 333 (w 275 79 + 3600) (w206 275 78 + 1) = w1592
                            have f1593 : e_fr (mStm (w 275 78) (w 275 79) (w 275 80) (w 275 94)) w w1592 := e_fr.up f1578 hw1592 (by unfold mStm; omega)
                            have u1594 : Hid (w1592 275 78 = w206 275 78 + 1) := Hid.mk (Eq.trans (by rw [← hw1592]; exact e_up_ne _ _ (Or.inl (by decide))) u1579.out)
                            have u1595 : Hid (w1592 275 79 = w206 275 79) := Hid.mk (Eq.trans (by rw [← hw1592]; exact e_up_ne _ _ (Or.inl (by decide))) u1580.out)
                            have u1596 : Hid (w1592 275 80 = w206 275 80) := Hid.mk (Eq.trans (by rw [← hw1592]; exact e_up_ne _ _ (Or.inl (by decide))) u1581.out)
                            have u1597 : Hid (w1592 275 81 = 3 * w 275 79 + 2) := Hid.mk (Eq.trans (by rw [← hw1592]; exact e_up_ne _ _ (Or.inl (by decide))) u1582.out)
                            have u1598 : Hid (w1592 275 82 = w 275 82) := Hid.mk (Eq.trans (by rw [← hw1592]; exact e_up_ne _ _ (Or.inl (by decide))) u1583.out)
                            have u1599 : Hid (w1592 275 83 = w206 275 83) := Hid.mk (Eq.trans (by rw [← hw1592]; exact e_up_ne _ _ (Or.inl (by decide))) u1584.out)
                            have u1600 : Hid (w1592 275 84 = w1267 275 84) := Hid.mk (Eq.trans (by rw [← hw1592]; exact e_up_ne _ _ (Or.inl (by decide))) u1585.out)
                            have u1601 : Hid (w1592 275 85 = w1267 275 85) := Hid.mk (Eq.trans (by rw [← hw1592]; exact e_up_ne _ _ (Or.inl (by decide))) u1586.out)
                            have u1602 : Hid (w1592 275 86 = w1267 275 86) := Hid.mk (Eq.trans (by rw [← hw1592]; exact e_up_ne _ _ (Or.inl (by decide))) u1587.out)
                            have u1604 : Hid (w1592 275 88 = w1561 275 88) := Hid.mk (Eq.trans (by rw [← hw1592]; exact e_up_ne _ _ (Or.inl (by decide))) u1589.out)
                            have u1605 : Hid (w1592 275 94 = w206 275 94) := Hid.mk (Eq.trans (by rw [← hw1592]; exact e_up_ne _ _ (Or.inl (by decide))) u1590.out)
                            have c1606 := cSt.wr c1591 hw1592 (Or.inl rfl) (by omega) rfl (fun y => absurd y (by decide))
                            refine e_Ok.run (t' := (209, [(3, (0, w 275 79 + 3600)), (2, (0, w 275 79)), (1, (0, w 275 81)), (0, (1, 275))], [(1, 275)], w1592)) 1 rfl ?_
                            refine e_Ok.callV rfl (Nat.le_trans (by decide) hdq) rfl rfl rfl rfl (c_348_0 (Nat.le_trans (by decide) hdq) c1606 (by rw [u1604.out] <;> omega)) (fun r1607 w1608 h1609 => ?_)
                            obtain ⟨rfl, rfl⟩ := h1609
                            show e_Ok 20 elay ecode eI (d + 1) 352 (212, [(3, (0, w 275 79 + 3600)), (2, (0, w 275 79)), (1, (0, w 275 81)), (0, (1, 275))], [], w1592) _
                            refine e_Ok.run (t' := (216, [(3, (0, w 275 79 + 3600)), (2, (0, w 275 79)), (1, (0, w 275 81)), (0, (1, 275))], [(0, w 275 79), (0, 51), (1, 275)], w1592)) 3 rfl ?_
                            refine e_Ok.callV rfl (Nat.le_trans (by decide) hdq) rfl rfl rfl rfl (c_336 c1606.1 (n := w206 275 78 + 1) u1594.out (by omega) (s := 3 * w 275 79 + 2) u1597.out (by omega)) (fun r1610 w1611 h1612 => ?_)
                            obtain ⟨rfl, q1613⟩ := h1612
                            replace q1613 := (show Hid (EM w1592 w1611 (w206 275 78 + 1) 51 (w 275 79) (3 * w 275 79 + 2)) from q1613)
                            have u1614 : Hid (w1611 275 78 = w206 275 78 + 2) := Hid.mk (Eq.trans q1613.out.2.2.2.2 (by omega))
                            have u1615 : Hid (w1611 275 79 = w206 275 79) := Hid.mk (Eq.trans (q1613.out.fld (by decide)) u1595.out)
                            have u1616 : Hid (w1611 275 80 = w206 275 80) := Hid.mk (Eq.trans (q1613.out.fld (by decide)) u1596.out)
                            have u1618 : Hid (w1611 275 82 = w 275 82) := Hid.mk (Eq.trans (q1613.out.fld (by decide)) u1598.out)
                            have u1619 : Hid (w1611 275 83 = w206 275 83) := Hid.mk (Eq.trans (q1613.out.fld (by decide)) u1599.out)
                            have u1620 : Hid (w1611 275 84 = w1267 275 84) := Hid.mk (Eq.trans (q1613.out.fld (by decide)) u1600.out)
                            have u1621 : Hid (w1611 275 85 = w1267 275 85) := Hid.mk (Eq.trans (q1613.out.fld (by decide)) u1601.out)
                            have u1622 : Hid (w1611 275 86 = w1267 275 86) := Hid.mk (Eq.trans (q1613.out.fld (by decide)) u1602.out)
                            have u1624 : Hid (w1611 275 88 = w1561 275 88) := Hid.mk (Eq.trans (q1613.out.fld (by decide)) u1604.out)
                            have u1625 : Hid (w1611 275 94 = w206 275 94) := Hid.mk (Eq.trans (q1613.out.fld (by decide)) u1605.out)
                            have f1626 : e_fr (mStm (w 275 78) (w 275 79) (w 275 80) (w 275 94)) w w1611 := e_fr.trans f1593 (q1613.out.st (by omega))
                            have c1627 := cSt.em c1606 q1613.out (by decide) (by omega) (by omega)
                            show e_Ok 20 elay ecode eI (d + 1) 352 (219, [(3, (0, w 275 79 + 3600)), (2, (0, w 275 79)), (1, (0, w 275 81)), (0, (1, 275))], [(0, w206 275 78 + 1)], w1611) _
                            refine e_Ok.run (t' := (222, [(3, (0, w 275 79 + 3600)), (2, (0, w 275 79)), (1, (0, w 275 81)), (0, (1, 275))], [(0, w 275 81), (1, 275)], w1611)) 3 rfl ?_
                            refine e_Ok.putf rfl (el_o rfl) rfl rfl ?_
                            generalize hw1628 : e_up w1611 275 81 (w 275 81) = w1628
                            have f1629 : e_fr (mStm (w 275 78) (w 275 79) (w 275 80) (w 275 94)) w w1628 := e_fr.up f1626 hw1628 (by unfold mStm; omega)
                            have u1630 : Hid (w1628 275 78 = w206 275 78 + 2) := Hid.mk (Eq.trans (by rw [← hw1628]; exact e_up_ne _ _ (Or.inr (by decide))) u1614.out)
                            have u1631 : Hid (w1628 275 79 = w206 275 79) := Hid.mk (Eq.trans (by rw [← hw1628]; exact e_up_ne _ _ (Or.inr (by decide))) u1615.out)
                            have u1632 : Hid (w1628 275 80 = w206 275 80) := Hid.mk (Eq.trans (by rw [← hw1628]; exact e_up_ne _ _ (Or.inr (by decide))) u1616.out)
                            have u1633 : Hid (w1628 275 81 = w 275 81) := Hid.mk (by rw [← hw1628]; exact e_up_eq _ _ _ _)
                            have u1634 : Hid (w1628 275 82 = w 275 82) := Hid.mk (Eq.trans (by rw [← hw1628]; exact e_up_ne _ _ (Or.inr (by decide))) u1618.out)
                            have u1635 : Hid (w1628 275 83 = w206 275 83) := Hid.mk (Eq.trans (by rw [← hw1628]; exact e_up_ne _ _ (Or.inr (by decide))) u1619.out)
                            have u1636 : Hid (w1628 275 84 = w1267 275 84) := Hid.mk (Eq.trans (by rw [← hw1628]; exact e_up_ne _ _ (Or.inr (by decide))) u1620.out)
                            have u1637 : Hid (w1628 275 85 = w1267 275 85) := Hid.mk (Eq.trans (by rw [← hw1628]; exact e_up_ne _ _ (Or.inr (by decide))) u1621.out)
                            have u1638 : Hid (w1628 275 86 = w1267 275 86) := Hid.mk (Eq.trans (by rw [← hw1628]; exact e_up_ne _ _ (Or.inr (by decide))) u1622.out)
                            have u1640 : Hid (w1628 275 88 = w1561 275 88) := Hid.mk (Eq.trans (by rw [← hw1628]; exact e_up_ne _ _ (Or.inr (by decide))) u1624.out)
                            have u1641 : Hid (w1628 275 94 = w206 275 94) := Hid.mk (Eq.trans (by rw [← hw1628]; exact e_up_ne _ _ (Or.inr (by decide))) u1625.out)
                            have c1642 := cSt.wr c1627 hw1628 (Or.inr rfl) (by omega) rfl (fun _ => ⟨⟨by decide, by decide⟩, fun y => by omega⟩)
                            refine e_Ok.run (t' := (226, [(3, (0, w 275 79 + 3600)), (2, (0, w 275 79)), (1, (0, w 275 81)), (0, (1, 275))], [(1, 275)], w1628)) 1 rfl ?_
                            refine e_Ok.getr (z := 334) rfl (el_o rfl) rfl rfl ((f1629 275 71 (by unfold mStm; omega)).trans (e_Has.eq hc.1 rfl)) (by omega) ?_
                            refine e_Ok.run (t' := (231, [(3, (0, w 275 79 + 3600)), (2, (0, w 275 79)), (1, (0, w 275 81)), (0, (1, 275))], [(1, 275), (0, w 275 79 + 3600), (1, 334)], w1628)) 2 rfl ?_
                            refine e_Ok.getf (z := w206 275 78 + 2) rfl (el_o rfl) rfl rfl u1630.out (by omega) ?_
                            refine e_Ok.ast rfl (el_o rfl) rfl rfl (by omega) ?_
                            generalize hw1643 : e_up w1628 334 (w 275 79 + 3600) (w206 275 78 + 2) = w1643
                            have f1644 : e_fr (mStm (w 275 78) (w 275 79) (w 275 80) (w 275 94)) w w1643 := e_fr.up f1629 hw1643 (by unfold mStm; omega)
                            have u1645 : Hid (w1643 275 78 = w206 275 78 + 2) := Hid.mk (Eq.trans (by rw [← hw1643]; exact e_up_ne _ _ (Or.inl (by decide))) u1630.out)
                            have u1646 : Hid (w1643 275 79 = w206 275 79) := Hid.mk (Eq.trans (by rw [← hw1643]; exact e_up_ne _ _ (Or.inl (by decide))) u1631.out)
                            have u1647 : Hid (w1643 275 80 = w206 275 80) := Hid.mk (Eq.trans (by rw [← hw1643]; exact e_up_ne _ _ (Or.inl (by decide))) u1632.out)
                            have u1648 : Hid (w1643 275 81 = w 275 81) := Hid.mk (Eq.trans (by rw [← hw1643]; exact e_up_ne _ _ (Or.inl (by decide))) u1633.out)
                            have u1649 : Hid (w1643 275 82 = w 275 82) := Hid.mk (Eq.trans (by rw [← hw1643]; exact e_up_ne _ _ (Or.inl (by decide))) u1634.out)
                            have u1650 : Hid (w1643 275 83 = w206 275 83) := Hid.mk (Eq.trans (by rw [← hw1643]; exact e_up_ne _ _ (Or.inl (by decide))) u1635.out)
                            have u1651 : Hid (w1643 275 84 = w1267 275 84) := Hid.mk (Eq.trans (by rw [← hw1643]; exact e_up_ne _ _ (Or.inl (by decide))) u1636.out)
                            have u1652 : Hid (w1643 275 85 = w1267 275 85) := Hid.mk (Eq.trans (by rw [← hw1643]; exact e_up_ne _ _ (Or.inl (by decide))) u1637.out)
                            have u1653 : Hid (w1643 275 86 = w1267 275 86) := Hid.mk (Eq.trans (by rw [← hw1643]; exact e_up_ne _ _ (Or.inl (by decide))) u1638.out)
                            have u1655 : Hid (w1643 275 88 = w1561 275 88) := Hid.mk (Eq.trans (by rw [← hw1643]; exact e_up_ne _ _ (Or.inl (by decide))) u1640.out)
                            have u1656 : Hid (w1643 275 94 = w206 275 94) := Hid.mk (Eq.trans (by rw [← hw1643]; exact e_up_ne _ _ (Or.inl (by decide))) u1641.out)
                            have c1657 := cSt.wr c1642 hw1643 (Or.inl rfl) (by omega) rfl (fun y => absurd y (by decide))
                            refine e_Ok.run (t' := (238, [(3, (0, w 275 79 + 3600)), (2, (0, w 275 79)), (1, (0, w 275 81)), (0, (1, 275))], [(0, 2), (1, 275), (1, 275)], w1643)) 3 rfl ?_
                            refine e_Ok.callV rfl (Nat.le_trans (by decide) hdq) rfl rfl rfl rfl (c_332 c1657.1 (N := N) c1657.2.2.2.1) (fun r1658 w1659 h1660 => ?_)
                            obtain ⟨z1661, rfl, rfl, q1662⟩ := h1660
                            obtain ⟨rfl, q1662, q1662b⟩ | ⟨rfl, q1662n⟩ := q1662
                            · show e_Ok 20 elay ecode eI (d + 1) 352 (241, [(3, (0, w 275 79 + 3600)), (2, (0, w 275 79)), (1, (0, w 275 81)), (0, (1, 275))], [(0, 1), (1, 275)], w1643) _
                              rw [u1651.out] at q1662
                              rw [u1652.out] at q1662b
                              refine e_Ok.callV rfl (Nat.le_trans (by decide) hdq) rfl rfl rfl rfl (c_334 (Nat.le_trans (by decide) hdq) c1657.1 c1657.2.1 c1657.2.2.1 hNr c1657.2.2.2.1 (by decide)) (fun r1663 w1664 h1665 => ?_)
                              obtain ⟨rfl, q1666⟩ := h1665
                              obtain ⟨rfl, q1666z⟩ | ⟨q1666z, q1666b, q1666, q1666s, q1666t⟩ | ⟨q1666z, q1666b, q1666, q1666T, q1666H, q1666r⟩ := q1666
                              · show e_Ok 20 elay ecode eI (d + 1) 352 (244, [(3, (0, w 275 79 + 3600)), (2, (0, w 275 79)), (1, (0, w 275 81)), (0, (1, 275))], [], w1643) _
                                rw [u1655.out] at q1666z
                                refine e_Ok.run (t' := (246, [(3, (0, w 275 79 + 3600)), (2, (0, w 275 79)), (1, (0, w 275 81)), (0, (1, 275))], [(1, 275), (1, 275)], w1643)) 2 rfl ?_
                                refine e_Ok.getf (z := w206 275 83) rfl (el_o rfl) rfl rfl u1650.out (by omega) ?_
                                refine e_Ok.run (t' := (250, [(3, (0, w 275 79 + 3600)), (2, (0, w 275 79)), (1, (0, w 275 81)), (0, (1, 275))], [(0, 1), (0, w206 275 83), (1, 275)], w1643)) 1 rfl ?_
                                refine e_Ok.sub' (z := w206 275 83 - 1) rfl (by omega) (by omega) ?_
                                refine e_Ok.putf rfl (el_o rfl) rfl rfl ?_
                                generalize hw1667 : e_up w1643 275 83 (w206 275 83 - 1) = w1667
                                have f1668 : e_fr (mStm (w 275 78) (w 275 79) (w 275 80) (w 275 94)) w w1667 := e_fr.up f1644 hw1667 (by unfold mStm; omega)
                                have e1669 := up83 hw1667
                                replace e1669 := (show Hid _ from e1669)
                                have u1670 : Hid (w1667 275 78 = w206 275 78 + 2) := Hid.mk (Eq.trans (e1669.out.1 275 78 (by decide)) u1645.out)
                                have u1671 : Hid (w1667 275 79 = w206 275 79) := Hid.mk (Eq.trans (e1669.out.1 275 79 (by decide)) u1646.out)
                                have u1672 : Hid (w1667 275 80 = w206 275 80) := Hid.mk (Eq.trans (e1669.out.1 275 80 (by decide)) u1647.out)
                                have u1673 : Hid (w1667 275 81 = w 275 81) := Hid.mk (Eq.trans (e1669.out.1 275 81 (by decide)) u1648.out)
                                have u1674 : Hid (w1667 275 82 = w 275 82) := Hid.mk (Eq.trans (e1669.out.1 275 82 (by decide)) u1649.out)
                                have u1675 : Hid (w1667 275 83 = w206 275 83 - 1) := Hid.mk (e1669.out.2)
                                have u1678 : Hid (w1667 275 86 = w1267 275 86) := Hid.mk (Eq.trans (e1669.out.1 275 86 (by decide)) u1653.out)
                                have u1680 : Hid (w1667 275 88 = w1561 275 88) := Hid.mk (Eq.trans (e1669.out.1 275 88 (by decide)) u1655.out)
                                have u1681 : Hid (w1667 275 94 = w206 275 94) := Hid.mk (Eq.trans (e1669.out.1 275 94 (by decide)) u1656.out)
                                have c1682 := cSt.up c1657 hw1667
                                refine e_Ok.rets rfl rfl ?_
                                exact ⟨rfl, f1668, c1682, (by unfold stL; rw [u1670.out, u1671.out, u1672.out, u1673.out, u1674.out, u1675.out, u1678.out, u1680.out, u1681.out]; omega), (fun z => by rw [u1680.out] at z; exact absurd z (by omega))⟩
                              · rw [u1655.out] at q1666z; exact absurd q1666z (by omega)
                              · rw [u1655.out] at q1666z; exact absurd q1666z (by omega)
                            · show e_Ok 20 elay ecode eI (d + 1) 352 (241, [(3, (0, w 275 79 + 3600)), (2, (0, w 275 79)), (1, (0, w 275 81)), (0, (1, 275))], [(0, 0), (1, 275)], w1643) _
                              clear q1662n
                              refine e_Ok.callV rfl (Nat.le_trans (by decide) hdq) rfl rfl rfl rfl (c_334 (Nat.le_trans (by decide) hdq) c1657.1 c1657.2.1 c1657.2.2.1 hNr c1657.2.2.2.1 (by decide)) (fun r1683 w1684 h1685 => ?_)
                              obtain ⟨rfl, q1686⟩ := h1685
                              obtain ⟨rfl, q1686z⟩ | ⟨q1686z, q1686b, q1686, q1686s, q1686t⟩ | ⟨q1686z, q1686b, q1686, q1686T, q1686H, q1686r⟩ := q1686
                              · show e_Ok 20 elay ecode eI (d + 1) 352 (244, [(3, (0, w 275 79 + 3600)), (2, (0, w 275 79)), (1, (0, w 275 81)), (0, (1, 275))], [], w1643) _
                                rw [u1655.out] at q1686z
                                refine e_Ok.run (t' := (246, [(3, (0, w 275 79 + 3600)), (2, (0, w 275 79)), (1, (0, w 275 81)), (0, (1, 275))], [(1, 275), (1, 275)], w1643)) 2 rfl ?_
                                refine e_Ok.getf (z := w206 275 83) rfl (el_o rfl) rfl rfl u1650.out (by omega) ?_
                                refine e_Ok.run (t' := (250, [(3, (0, w 275 79 + 3600)), (2, (0, w 275 79)), (1, (0, w 275 81)), (0, (1, 275))], [(0, 1), (0, w206 275 83), (1, 275)], w1643)) 1 rfl ?_
                                refine e_Ok.sub' (z := w206 275 83 - 1) rfl (by omega) (by omega) ?_
                                refine e_Ok.putf rfl (el_o rfl) rfl rfl ?_
                                generalize hw1687 : e_up w1643 275 83 (w206 275 83 - 1) = w1687
                                have f1688 : e_fr (mStm (w 275 78) (w 275 79) (w 275 80) (w 275 94)) w w1687 := e_fr.up f1644 hw1687 (by unfold mStm; omega)
                                have e1689 := up83 hw1687
                                replace e1689 := (show Hid _ from e1689)
                                have u1690 : Hid (w1687 275 78 = w206 275 78 + 2) := Hid.mk (Eq.trans (e1689.out.1 275 78 (by decide)) u1645.out)
                                have u1691 : Hid (w1687 275 79 = w206 275 79) := Hid.mk (Eq.trans (e1689.out.1 275 79 (by decide)) u1646.out)
                                have u1692 : Hid (w1687 275 80 = w206 275 80) := Hid.mk (Eq.trans (e1689.out.1 275 80 (by decide)) u1647.out)
                                have u1693 : Hid (w1687 275 81 = w 275 81) := Hid.mk (Eq.trans (e1689.out.1 275 81 (by decide)) u1648.out)
                                have u1694 : Hid (w1687 275 82 = w 275 82) := Hid.mk (Eq.trans (e1689.out.1 275 82 (by decide)) u1649.out)
                                have u1695 : Hid (w1687 275 83 = w206 275 83 - 1) := Hid.mk (e1689.out.2)
                                have u1698 : Hid (w1687 275 86 = w1267 275 86) := Hid.mk (Eq.trans (e1689.out.1 275 86 (by decide)) u1653.out)
                                have u1700 : Hid (w1687 275 88 = w1561 275 88) := Hid.mk (Eq.trans (e1689.out.1 275 88 (by decide)) u1655.out)
                                have u1701 : Hid (w1687 275 94 = w206 275 94) := Hid.mk (Eq.trans (e1689.out.1 275 94 (by decide)) u1656.out)
                                have c1702 := cSt.up c1657 hw1687
                                refine e_Ok.rets rfl rfl ?_
                                exact ⟨rfl, f1688, c1702, (by unfold stL; rw [u1690.out, u1691.out, u1692.out, u1693.out, u1694.out, u1695.out, u1698.out, u1700.out, u1701.out]; omega), (fun z => by rw [u1700.out] at z; exact absurd z (by omega))⟩
                              · rw [u1655.out] at q1686z; exact absurd q1686z (by omega)
                              · rw [u1655.out] at q1686z; exact absurd q1686z (by omega)
                    · show e_Ok 20 elay ecode eI (d + 1) 352 (172, [(3, (0, w 275 79 + 3600)), (2, (0, w 275 79)), (1, (0, w 275 81)), (0, (1, 275))], [(0, 0)], w222) _
                      clear q1264n
                      refine e_Ok.if1 rfl (fun h1703 => ?_) (fun h1703 => ?_)
                      · replace h1703 : (0 : Int) = 0 := h1703
                        refine e_Ok.run (t' := (222, [(3, (0, w 275 79 + 3600)), (2, (0, w 275 79)), (1, (0, w 275 81)), (0, (1, 275))], [(0, w 275 81), (1, 275)], w222)) 2 rfl ?_
                        refine e_Ok.putf rfl (el_o rfl) rfl rfl ?_
                        generalize hw1704 : e_up w222 275 81 (w 275 81) = w1704
                        have f1705 : e_fr (mStm (w 275 78) (w 275 79) (w 275 80) (w 275 94)) w w1704 := e_fr.up f237 hw1704 (by unfold mStm; omega)
                        have u1706 : Hid (w1704 275 78 = w206 275 78 + 1) := Hid.mk (Eq.trans (by rw [← hw1704]; exact e_up_ne _ _ (Or.inr (by decide))) u225.out)
                        have u1707 : Hid (w1704 275 79 = w206 275 79) := Hid.mk (Eq.trans (by rw [← hw1704]; exact e_up_ne _ _ (Or.inr (by decide))) u226.out)
                        have u1708 : Hid (w1704 275 80 = w206 275 80) := Hid.mk (Eq.trans (by rw [← hw1704]; exact e_up_ne _ _ (Or.inr (by decide))) u227.out)
                        have u1709 : Hid (w1704 275 81 = w 275 81) := Hid.mk (by rw [← hw1704]; exact e_up_eq _ _ _ _)
                        have u1710 : Hid (w1704 275 82 = w 275 82) := Hid.mk (Eq.trans (by rw [← hw1704]; exact e_up_ne _ _ (Or.inr (by decide))) u229.out)
                        have u1711 : Hid (w1704 275 83 = w206 275 83) := Hid.mk (Eq.trans (by rw [← hw1704]; exact e_up_ne _ _ (Or.inr (by decide))) u230.out)
                        have u1712 : Hid (w1704 275 84 = w206 275 84) := Hid.mk (Eq.trans (by rw [← hw1704]; exact e_up_ne _ _ (Or.inr (by decide))) u231.out)
                        have u1713 : Hid (w1704 275 85 = w206 275 85) := Hid.mk (Eq.trans (by rw [← hw1704]; exact e_up_ne _ _ (Or.inr (by decide))) u232.out)
                        have u1714 : Hid (w1704 275 86 = w206 275 86) := Hid.mk (Eq.trans (by rw [← hw1704]; exact e_up_ne _ _ (Or.inr (by decide))) u233.out)
                        have u1715 : Hid (w1704 275 87 = w206 275 87) := Hid.mk (Eq.trans (by rw [← hw1704]; exact e_up_ne _ _ (Or.inr (by decide))) u234.out)
                        have u1716 : Hid (w1704 275 88 = w206 275 88) := Hid.mk (Eq.trans (by rw [← hw1704]; exact e_up_ne _ _ (Or.inr (by decide))) u235.out)
                        have u1717 : Hid (w1704 275 94 = w206 275 94) := Hid.mk (Eq.trans (by rw [← hw1704]; exact e_up_ne _ _ (Or.inr (by decide))) u236.out)
                        have c1718 := cSt.wr c238 hw1704 (Or.inr rfl) (by omega) rfl (fun _ => ⟨⟨by decide, by decide⟩, fun y => by omega⟩)
                        have cf1721 : Hid (w1704 331 (w 275 79 + 3600) = w 275 81) := Hid.mk (Eq.trans (by rw [← hw1704]; exact e_up_ne _ _ (Or.inl (by decide))) cf241.out)
                        have cf1722 : Hid (w1704 332 (w 275 79 + 3600) = (-1)) := Hid.mk (Eq.trans (by rw [← hw1704]; exact e_up_ne _ _ (Or.inl (by decide))) cf242.out)
                        have cf1723 : Hid (w1704 333 (w 275 79 + 3600) = (-1)) := Hid.mk (Eq.trans (by rw [← hw1704]; exact e_up_ne _ _ (Or.inl (by decide))) cf243.out)
                        have g1724 : Hid (w206 275 88 = 0 → GZ w1704 N (w206 275 78 + 1) (w206 275 94) (w206 275 79) (w206 275 80) P (3 * w 275 79) OW (o + 1)) := Hid.mk (fun z => GZ.pr (g244.out z) (fun c k q => by rw [← hw1704]; exact e_up_ne _ _ (by omega)))
                        refine e_Ok.run (t' := (226, [(3, (0, w 275 79 + 3600)), (2, (0, w 275 79)), (1, (0, w 275 81)), (0, (1, 275))], [(1, 275)], w1704)) 1 rfl ?_
                        refine e_Ok.getr (z := 334) rfl (el_o rfl) rfl rfl ((f1705 275 71 (by unfold mStm; omega)).trans (e_Has.eq hc.1 rfl)) (by omega) ?_
                        refine e_Ok.run (t' := (231, [(3, (0, w 275 79 + 3600)), (2, (0, w 275 79)), (1, (0, w 275 81)), (0, (1, 275))], [(1, 275), (0, w 275 79 + 3600), (1, 334)], w1704)) 2 rfl ?_
                        refine e_Ok.getf (z := w206 275 78 + 1) rfl (el_o rfl) rfl rfl u1706.out (by omega) ?_
                        refine e_Ok.ast rfl (el_o rfl) rfl rfl (by omega) ?_
                        generalize hw1725 : e_up w1704 334 (w 275 79 + 3600) (w206 275 78 + 1) = w1725
                        have f1726 : e_fr (mStm (w 275 78) (w 275 79) (w 275 80) (w 275 94)) w w1725 := e_fr.up f1705 hw1725 (by unfold mStm; omega)
                        have u1727 : Hid (w1725 275 78 = w206 275 78 + 1) := Hid.mk (Eq.trans (by rw [← hw1725]; exact e_up_ne _ _ (Or.inl (by decide))) u1706.out)
                        have u1728 : Hid (w1725 275 79 = w206 275 79) := Hid.mk (Eq.trans (by rw [← hw1725]; exact e_up_ne _ _ (Or.inl (by decide))) u1707.out)
                        have u1729 : Hid (w1725 275 80 = w206 275 80) := Hid.mk (Eq.trans (by rw [← hw1725]; exact e_up_ne _ _ (Or.inl (by decide))) u1708.out)
                        have u1730 : Hid (w1725 275 81 = w 275 81) := Hid.mk (Eq.trans (by rw [← hw1725]; exact e_up_ne _ _ (Or.inl (by decide))) u1709.out)
                        have u1731 : Hid (w1725 275 82 = w 275 82) := Hid.mk (Eq.trans (by rw [← hw1725]; exact e_up_ne _ _ (Or.inl (by decide))) u1710.out)
                        have u1732 : Hid (w1725 275 83 = w206 275 83) := Hid.mk (Eq.trans (by rw [← hw1725]; exact e_up_ne _ _ (Or.inl (by decide))) u1711.out)
                        have u1733 : Hid (w1725 275 84 = w206 275 84) := Hid.mk (Eq.trans (by rw [← hw1725]; exact e_up_ne _ _ (Or.inl (by decide))) u1712.out)
                        have u1734 : Hid (w1725 275 85 = w206 275 85) := Hid.mk (Eq.trans (by rw [← hw1725]; exact e_up_ne _ _ (Or.inl (by decide))) u1713.out)
                        have u1735 : Hid (w1725 275 86 = w206 275 86) := Hid.mk (Eq.trans (by rw [← hw1725]; exact e_up_ne _ _ (Or.inl (by decide))) u1714.out)
                        have u1736 : Hid (w1725 275 87 = w206 275 87) := Hid.mk (Eq.trans (by rw [← hw1725]; exact e_up_ne _ _ (Or.inl (by decide))) u1715.out)
                        have u1737 : Hid (w1725 275 88 = w206 275 88) := Hid.mk (Eq.trans (by rw [← hw1725]; exact e_up_ne _ _ (Or.inl (by decide))) u1716.out)
                        have u1738 : Hid (w1725 275 94 = w206 275 94) := Hid.mk (Eq.trans (by rw [← hw1725]; exact e_up_ne _ _ (Or.inl (by decide))) u1717.out)
                        have c1739 := cSt.wr c1718 hw1725 (Or.inl rfl) (by omega) rfl (fun y => absurd y (by decide))
                        have ev1745 : Hid (w1725 334 (w 275 79 + 3600) = w206 275 78 + 1) := Hid.mk (by rw [← hw1725]; exact e_up_eq _ _ _ _)
                        have ow1746 := (show Hid _ from GB.ow hG f1705)
                        have p1747 : Hid (piR w1725 (w 275 81) ≤ O) := Hid.mk (GB.ow hG f1726).2
                        have g1748 : Hid (w206 275 88 = 0 → GB w1725 N (w206 275 78 + 1) (w206 275 94) (w206 275 79) (w206 275 80) P (w 275 81) OW O) := Hid.mk (fun z => GB.oo (GB.re (GZ.over (GZ.re (g1724.out (by omega)) rfl rfl rfl rfl (show _ = 3 * (w 275 79) + 0 from by omega)) (by omega) (by omega) (Eq.trans ev1745.out (by omega)) (by rw [cf1722.out, cf1723.out]; omega) (fun c k y1 y2 => by rw [← hw1725]; exact e_up_ne _ _ (by omega)) (fun v y => by rw [cf1721.out]; exact ow1746.out.1 v y) (by rw [cf1721.out]; have := ow1746.out.2; omega)) rfl rfl rfl rfl cf1721.out) p1747.out)
                        refine e_Ok.run (t' := (238, [(3, (0, w 275 79 + 3600)), (2, (0, w 275 79)), (1, (0, w 275 81)), (0, (1, 275))], [(0, 2), (1, 275), (1, 275)], w1725)) 3 rfl ?_
                        refine e_Ok.callV rfl (Nat.le_trans (by decide) hdq) rfl rfl rfl rfl (c_332 c1739.1 (N := N) c1739.2.2.2.1) (fun r1749 w1750 h1751 => ?_)
                        obtain ⟨z1752, rfl, rfl, q1753⟩ := h1751
                        obtain ⟨rfl, q1753, q1753b⟩ | ⟨rfl, q1753n⟩ := q1753
                        · show e_Ok 20 elay ecode eI (d + 1) 352 (241, [(3, (0, w 275 79 + 3600)), (2, (0, w 275 79)), (1, (0, w 275 81)), (0, (1, 275))], [(0, 1), (1, 275)], w1725) _
                          rw [u1733.out] at q1753
                          rw [u1734.out] at q1753b
                          refine e_Ok.callV rfl (Nat.le_trans (by decide) hdq) rfl rfl rfl rfl (c_334 (Nat.le_trans (by decide) hdq) c1739.1 c1739.2.1 c1739.2.2.1 hNr c1739.2.2.2.1 (by decide)) (fun r1754 w1755 h1756 => ?_)
                          obtain ⟨rfl, q1757⟩ := h1756
                          obtain ⟨rfl, q1757z⟩ | ⟨q1757z, q1757b, q1757, q1757s, q1757t⟩ | ⟨q1757z, q1757b, q1757, q1757T, q1757H, q1757r⟩ := q1757
                          · rw [u1737.out] at q1757z; exact absurd q1757z (by omega)
                          · show e_Ok 20 elay ecode eI (d + 1) 352 (244, [(3, (0, w 275 79 + 3600)), (2, (0, w 275 79)), (1, (0, w 275 81)), (0, (1, 275))], [], w1755) _
                            rw [u1737.out] at q1757z
                            rw [u1736.out] at q1757t
                            have p1758 := tkS.pos c1739.2.2.2.1 (by rw [u1733.out] <;> omega)
                            rw [u1735.out, u1736.out] at p1758
                            have p1759 := tkS.key c1739.2.2.2.1 (by rw [u1733.out] <;> omega)
                            rw [u1735.out, u1736.out, u1734.out] at p1759
                            have u1760 : Hid (w1755 275 78 = w206 275 78 + 1) := Hid.mk (Eq.trans (q1757 275 78 (mTq_fld (by decide))) u1727.out)
                            have u1761 : Hid (w1755 275 79 = w206 275 79) := Hid.mk (Eq.trans (q1757 275 79 (mTq_fld (by decide))) u1728.out)
                            have u1762 : Hid (w1755 275 80 = w206 275 80) := Hid.mk (Eq.trans (q1757 275 80 (mTq_fld (by decide))) u1729.out)
                            have u1763 : Hid (w1755 275 81 = w 275 81) := Hid.mk (Eq.trans (q1757 275 81 (mTq_fld (by decide))) u1730.out)
                            have u1764 : Hid (w1755 275 82 = w 275 82) := Hid.mk (Eq.trans (q1757 275 82 (mTq_fld (by decide))) u1731.out)
                            have u1765 : Hid (w1755 275 83 = w206 275 83) := Hid.mk (Eq.trans (q1757 275 83 (mTq_fld (by decide))) u1732.out)
                            have u1766 : Hid (w1755 275 88 = w206 275 88) := Hid.mk (Eq.trans (q1757 275 88 (mTq_fld (by decide))) u1737.out)
                            have u1767 : Hid (w1755 275 94 = w206 275 94) := Hid.mk (Eq.trans (q1757 275 94 (mTq_fld (by decide))) u1738.out)
                            have c1768 := cSt.tk c1739 q1757 q1757s
                            have t1769 := tkS.lin c1768.2.2.2.1
                            have f1770 : e_fr (mStm (w 275 78) (w 275 79) (w 275 80) (w 275 94)) w w1755 := e_fr.trans f1726 (e_fr.mono q1757 (fun c k g => mTq_St g))
                            have g1771 : Hid (w206 275 88 = 0 → GB w1755 N (w206 275 78 + 1) (w206 275 94) (w206 275 79) (w206 275 80) P (w 275 81) OW O) := Hid.mk (fun z => GB.pr (g1748.out z) (prE.tk q1757))
                            refine e_Ok.run (t' := (246, [(3, (0, w 275 79 + 3600)), (2, (0, w 275 79)), (1, (0, w 275 81)), (0, (1, 275))], [(1, 275), (1, 275)], w1755)) 2 rfl ?_
                            refine e_Ok.getf (z := w206 275 83) rfl (el_o rfl) rfl rfl u1765.out (by omega) ?_
                            refine e_Ok.run (t' := (250, [(3, (0, w 275 79 + 3600)), (2, (0, w 275 79)), (1, (0, w 275 81)), (0, (1, 275))], [(0, 1), (0, w206 275 83), (1, 275)], w1755)) 1 rfl ?_
                            refine e_Ok.sub' (z := w206 275 83 - 1) rfl (by omega) (by omega) ?_
                            refine e_Ok.putf rfl (el_o rfl) rfl rfl ?_
                            generalize hw1777 : e_up w1755 275 83 (w206 275 83 - 1) = w1777
                            have f1778 : e_fr (mStm (w 275 78) (w 275 79) (w 275 80) (w 275 94)) w w1777 := e_fr.up f1770 hw1777 (by unfold mStm; omega)
                            have e1779 := up83 hw1777
                            replace e1779 := (show Hid _ from e1779)
                            have u1780 : Hid (w1777 275 78 = w206 275 78 + 1) := Hid.mk (Eq.trans (e1779.out.1 275 78 (by decide)) u1760.out)
                            have u1781 : Hid (w1777 275 79 = w206 275 79) := Hid.mk (Eq.trans (e1779.out.1 275 79 (by decide)) u1761.out)
                            have u1782 : Hid (w1777 275 80 = w206 275 80) := Hid.mk (Eq.trans (e1779.out.1 275 80 (by decide)) u1762.out)
                            have u1783 : Hid (w1777 275 81 = w 275 81) := Hid.mk (Eq.trans (e1779.out.1 275 81 (by decide)) u1763.out)
                            have u1784 : Hid (w1777 275 82 = w 275 82) := Hid.mk (Eq.trans (e1779.out.1 275 82 (by decide)) u1764.out)
                            have u1785 : Hid (w1777 275 83 = w206 275 83 - 1) := Hid.mk (e1779.out.2)
                            have u1788 : Hid (w1777 275 86 = w1755 275 86) := Hid.mk (e1779.out.1 275 86 (by decide))
                            have u1790 : Hid (w1777 275 88 = w206 275 88) := Hid.mk (Eq.trans (e1779.out.1 275 88 (by decide)) u1766.out)
                            have u1791 : Hid (w1777 275 94 = w206 275 94) := Hid.mk (Eq.trans (e1779.out.1 275 94 (by decide)) u1767.out)
                            have c1792 := cSt.up c1768 hw1777
                            have g1793 : Hid (w206 275 88 = 0 → GB w1777 N (w206 275 78 + 1) (w206 275 94) (w206 275 79) (w206 275 80) P (w 275 81) OW O) := Hid.mk (fun z => GB.pr (g1771.out z) (prE.up hw1777))
                            refine e_Ok.rets rfl rfl ?_
                            exact ⟨rfl, f1778, c1792, (by unfold stL; rw [u1780.out, u1781.out, u1782.out, u1783.out, u1784.out, u1785.out, u1788.out, u1790.out, u1791.out]; omega), (fun z => by rw [u1790.out] at z; rw [u1780.out, u1791.out, u1781.out, u1782.out, u1783.out]; exact (g1793.out (by omega)))⟩
                          · exact absurd q1757b (by decide)
                        · show e_Ok 20 elay ecode eI (d + 1) 352 (241, [(3, (0, w 275 79 + 3600)), (2, (0, w 275 79)), (1, (0, w 275 81)), (0, (1, 275))], [(0, 0), (1, 275)], w1725) _
                          clear q1753n
                          refine e_Ok.callV rfl (Nat.le_trans (by decide) hdq) rfl rfl rfl rfl (c_334 (Nat.le_trans (by decide) hdq) c1739.1 c1739.2.1 c1739.2.2.1 hNr c1739.2.2.2.1 (by decide)) (fun r1799 w1800 h1801 => ?_)
                          obtain ⟨rfl, q1802⟩ := h1801
                          obtain ⟨rfl, q1802z⟩ | ⟨q1802z, q1802b, q1802, q1802s, q1802t⟩ | ⟨q1802z, q1802b, q1802, q1802T, q1802H, q1802r⟩ := q1802
                          · rw [u1737.out] at q1802z; exact absurd q1802z (by omega)
                          · exact absurd q1802b (by decide)
                          · show e_Ok 20 elay ecode eI (d + 1) 352 (244, [(3, (0, w 275 79 + 3600)), (2, (0, w 275 79)), (1, (0, w 275 81)), (0, (1, 275))], [], w1800) _
                            rw [u1737.out] at q1802z
                            have u1803 : Hid (w1800 275 78 = w206 275 78 + 1) := Hid.mk (Eq.trans (q1802 275 78 (mRf_fld (by decide))) u1727.out)
                            have u1804 : Hid (w1800 275 79 = w206 275 79) := Hid.mk (Eq.trans (q1802 275 79 (mRf_fld (by decide))) u1728.out)
                            have u1805 : Hid (w1800 275 80 = w206 275 80) := Hid.mk (Eq.trans (q1802 275 80 (mRf_fld (by decide))) u1729.out)
                            have u1806 : Hid (w1800 275 81 = w 275 81) := Hid.mk (Eq.trans (q1802 275 81 (mRf_fld (by decide))) u1730.out)
                            have u1807 : Hid (w1800 275 82 = w 275 82) := Hid.mk (Eq.trans (q1802 275 82 (mRf_fld (by decide))) u1731.out)
                            have u1808 : Hid (w1800 275 83 = w206 275 83) := Hid.mk (Eq.trans (q1802 275 83 (mRf_fld (by decide))) u1732.out)
                            have u1811 : Hid (w1800 275 86 = w206 275 86) := Hid.mk (Eq.trans (q1802 275 86 (mRf_fld (by decide))) u1735.out)
                            have u1813 : Hid (w1800 275 94 = w206 275 94) := Hid.mk (Eq.trans (q1802 275 94 (mRf_fld (by decide))) u1738.out)
                            have c1814 := cSt.rf c1739 q1802 q1802T q1802H
                            have f1815 : e_fr (mStm (w 275 78) (w 275 79) (w 275 80) (w 275 94)) w w1800 := e_fr.trans f1726 (e_fr.mono q1802 (fun c k g => mRf_St g))
                            refine e_Ok.run (t' := (246, [(3, (0, w 275 79 + 3600)), (2, (0, w 275 79)), (1, (0, w 275 81)), (0, (1, 275))], [(1, 275), (1, 275)], w1800)) 2 rfl ?_
                            refine e_Ok.getf (z := w206 275 83) rfl (el_o rfl) rfl rfl u1808.out (by omega) ?_
                            refine e_Ok.run (t' := (250, [(3, (0, w 275 79 + 3600)), (2, (0, w 275 79)), (1, (0, w 275 81)), (0, (1, 275))], [(0, 1), (0, w206 275 83), (1, 275)], w1800)) 1 rfl ?_
                            refine e_Ok.sub' (z := w206 275 83 - 1) rfl (by omega) (by omega) ?_
                            refine e_Ok.putf rfl (el_o rfl) rfl rfl ?_
                            generalize hw1816 : e_up w1800 275 83 (w206 275 83 - 1) = w1816
                            have f1817 : e_fr (mStm (w 275 78) (w 275 79) (w 275 80) (w 275 94)) w w1816 := e_fr.up f1815 hw1816 (by unfold mStm; omega)
                            have e1818 := up83 hw1816
                            replace e1818 := (show Hid _ from e1818)
                            have u1819 : Hid (w1816 275 78 = w206 275 78 + 1) := Hid.mk (Eq.trans (e1818.out.1 275 78 (by decide)) u1803.out)
                            have u1820 : Hid (w1816 275 79 = w206 275 79) := Hid.mk (Eq.trans (e1818.out.1 275 79 (by decide)) u1804.out)
                            have u1821 : Hid (w1816 275 80 = w206 275 80) := Hid.mk (Eq.trans (e1818.out.1 275 80 (by decide)) u1805.out)
                            have u1822 : Hid (w1816 275 81 = w 275 81) := Hid.mk (Eq.trans (e1818.out.1 275 81 (by decide)) u1806.out)
                            have u1823 : Hid (w1816 275 82 = w 275 82) := Hid.mk (Eq.trans (e1818.out.1 275 82 (by decide)) u1807.out)
                            have u1824 : Hid (w1816 275 83 = w206 275 83 - 1) := Hid.mk (e1818.out.2)
                            have u1827 : Hid (w1816 275 86 = w206 275 86) := Hid.mk (Eq.trans (e1818.out.1 275 86 (by decide)) u1811.out)
                            have u1829 : Hid (w1816 275 88 = w1800 275 88) := Hid.mk (e1818.out.1 275 88 (by decide))
                            have u1830 : Hid (w1816 275 94 = w206 275 94) := Hid.mk (Eq.trans (e1818.out.1 275 94 (by decide)) u1813.out)
                            have c1831 := cSt.up c1814 hw1816
                            refine e_Ok.rets rfl rfl ?_
                            exact ⟨rfl, f1817, c1831, (by unfold stL; rw [u1819.out, u1820.out, u1821.out, u1822.out, u1823.out, u1824.out, u1827.out, u1829.out, u1830.out]; omega), (fun z => by rw [u1829.out] at z; exact absurd z (by omega))⟩
                      · replace h1703 : (0 : Int) ≠ 0 := by have q : ¬ ((0 : Int) = 0) := h1703; omega
                        exfalso; omega
                · replace h1258 : (0 : Int) ≠ 0 := by have q : ¬ ((0 : Int) = 0) := h1258; omega
                  exfalso; omega
          · exact absurd q165b (by decide)
        · show e_Ok 20 elay ecode eI (d + 1) 352 (76, [(3, (0, w 275 79 + 3600)), (2, (0, w 275 79)), (1, (0, w 275 81)), (0, (1, 275))], [(0, 0), (1, 275)], w135) _
          clear q161n
          refine e_Ok.callV rfl (Nat.le_trans (by decide) hdq) rfl rfl rfl rfl (c_334 (Nat.le_trans (by decide) hdq) c148.1 c148.2.1 c148.2.2.1 hNr c148.2.2.2.1 (by decide)) (fun r1832 w1833 h1834 => ?_)
          obtain ⟨rfl, q1835⟩ := h1834
          obtain ⟨rfl, q1835z⟩ | ⟨q1835z, q1835b, q1835, q1835s, q1835t⟩ | ⟨q1835z, q1835b, q1835, q1835T, q1835H, q1835r⟩ := q1835
          · rw [u146.out] at q1835z; exact absurd q1835z (by omega)
          · exact absurd q1835b (by decide)
          · show e_Ok 20 elay ecode eI (d + 1) 352 (79, [(3, (0, w 275 79 + 3600)), (2, (0, w 275 79)), (1, (0, w 275 81)), (0, (1, 275))], [], w1833) _
            rw [u146.out] at q1835z
            have u1836 : Hid (w1833 275 78 = w 275 78 + 1) := Hid.mk (Eq.trans (q1835 275 78 (mRf_fld (by decide))) u140.out)
            have u1837 : Hid (w1833 275 79 = w 275 79 + 1) := Hid.mk (Eq.trans (q1835 275 79 (mRf_fld (by decide))) u141.out)
            have u1838 : Hid (w1833 275 80 = w 275 80) := Hid.mk (Eq.trans (q1835 275 80 (mRf_fld (by decide))) u142.out)
            have u1840 : Hid (w1833 275 82 = w 275 82) := Hid.mk (Eq.trans (q1835 275 82 (mRf_fld (by decide))) u144.out)
            have u1841 : Hid (w1833 275 83 = w 275 83 + 1) := Hid.mk (Eq.trans (q1835 275 83 (mRf_fld (by decide))) u145.out)
            have u1842 : Hid (w1833 275 84 = w135 275 84) := Hid.mk (q1835 275 84 (mRf_fld (by decide)))
            have u1843 : Hid (w1833 275 85 = w135 275 85) := Hid.mk (q1835 275 85 (mRf_fld (by decide)))
            have u1844 : Hid (w1833 275 86 = w135 275 86) := Hid.mk (q1835 275 86 (mRf_fld (by decide)))
            have u1846 : Hid (w1833 275 94 = w 275 94) := Hid.mk (Eq.trans (q1835 275 94 (mRf_fld (by decide))) u147.out)
            have c1847 := cSt.rf c148 q1835 q1835T q1835H
            have f1848 : e_fr (mStm (w 275 78) (w 275 79) (w 275 80) (w 275 94)) w w1833 := e_fr.trans f150 (e_fr.mono q1835 (fun c k g => mRf_St g))
            refine e_Ok.run (t' := (82, [(3, (0, w 275 79 + 3600)), (2, (0, w 275 79)), (1, (0, w 275 81)), (0, (1, 275))], [(0, w 275 79), (0, 3), (1, 275)], w1833)) 3 rfl ?_
            refine e_Ok.mul (z := 3 * w 275 79) rfl (by omega) (by omega) ?_
            refine e_Ok.putf rfl (el_o rfl) rfl rfl ?_
            generalize hw1849 : e_up w1833 275 81 (3 * w 275 79) = w1849
            have f1850 : e_fr (mStm (w 275 78) (w 275 79) (w 275 80) (w 275 94)) w w1849 := e_fr.up f1848 hw1849 (by unfold mStm; omega)
            have u1851 : Hid (w1849 275 78 = w 275 78 + 1) := Hid.mk (Eq.trans (by rw [← hw1849]; exact e_up_ne _ _ (Or.inr (by decide))) u1836.out)
            have u1852 : Hid (w1849 275 79 = w 275 79 + 1) := Hid.mk (Eq.trans (by rw [← hw1849]; exact e_up_ne _ _ (Or.inr (by decide))) u1837.out)
            have u1853 : Hid (w1849 275 80 = w 275 80) := Hid.mk (Eq.trans (by rw [← hw1849]; exact e_up_ne _ _ (Or.inr (by decide))) u1838.out)
            have u1854 : Hid (w1849 275 81 = 3 * w 275 79) := Hid.mk (by rw [← hw1849]; exact e_up_eq _ _ _ _)
            have u1855 : Hid (w1849 275 82 = w 275 82) := Hid.mk (Eq.trans (by rw [← hw1849]; exact e_up_ne _ _ (Or.inr (by decide))) u1840.out)
            have u1856 : Hid (w1849 275 83 = w 275 83 + 1) := Hid.mk (Eq.trans (by rw [← hw1849]; exact e_up_ne _ _ (Or.inr (by decide))) u1841.out)
            have u1857 : Hid (w1849 275 84 = w135 275 84) := Hid.mk (Eq.trans (by rw [← hw1849]; exact e_up_ne _ _ (Or.inr (by decide))) u1842.out)
            have u1858 : Hid (w1849 275 85 = w135 275 85) := Hid.mk (Eq.trans (by rw [← hw1849]; exact e_up_ne _ _ (Or.inr (by decide))) u1843.out)
            have u1859 : Hid (w1849 275 86 = w135 275 86) := Hid.mk (Eq.trans (by rw [← hw1849]; exact e_up_ne _ _ (Or.inr (by decide))) u1844.out)
            have u1861 : Hid (w1849 275 88 = w1833 275 88) := Hid.mk (by rw [← hw1849]; exact e_up_ne _ _ (Or.inr (by decide)))
            have u1862 : Hid (w1849 275 94 = w 275 94) := Hid.mk (Eq.trans (by rw [← hw1849]; exact e_up_ne _ _ (Or.inr (by decide))) u1846.out)
            have c1863 := cSt.wr c1847 hw1849 (Or.inr rfl) (by omega) rfl (fun _ => ⟨⟨by decide, by decide⟩, fun y => by omega⟩)
            refine e_Ok.run (t' := (87, [(3, (0, w 275 79 + 3600)), (2, (0, w 275 79)), (1, (0, w 275 81)), (0, (1, 275))], [(1, 275)], w1849)) 1 rfl ?_
            refine e_Ok.callV rfl (Nat.le_trans (by decide) hdq) rfl rfl rfl rfl (c_348_0 (Nat.le_trans (by decide) hdq) c1863 (by rw [u1861.out] <;> omega)) (fun r1864 w1865 h1866 => ?_)
            obtain ⟨rfl, rfl⟩ := h1866
            show e_Ok 20 elay ecode eI (d + 1) 352 (90, [(3, (0, w 275 79 + 3600)), (2, (0, w 275 79)), (1, (0, w 275 81)), (0, (1, 275))], [], w1849) _
            refine e_Ok.run (t' := (94, [(3, (0, w 275 79 + 3600)), (2, (0, w 275 79)), (1, (0, w 275 81)), (0, (1, 275))], [(0, w 275 79), (0, 49), (1, 275)], w1849)) 3 rfl ?_
            refine e_Ok.callV rfl (Nat.le_trans (by decide) hdq) rfl rfl rfl rfl (c_336 c1863.1 (n := w 275 78 + 1) u1851.out (by omega) (s := 3 * w 275 79) u1854.out (by omega)) (fun r1867 w1868 h1869 => ?_)
            obtain ⟨rfl, q1870⟩ := h1869
            replace q1870 := (show Hid (EM w1849 w1868 (w 275 78 + 1) 49 (w 275 79) (3 * w 275 79)) from q1870)
            have u1871 : Hid (w1868 275 78 = w 275 78 + 2) := Hid.mk (Eq.trans q1870.out.2.2.2.2 (by omega))
            have u1872 : Hid (w1868 275 79 = w 275 79 + 1) := Hid.mk (Eq.trans (q1870.out.fld (by decide)) u1852.out)
            have u1873 : Hid (w1868 275 80 = w 275 80) := Hid.mk (Eq.trans (q1870.out.fld (by decide)) u1853.out)
            have u1875 : Hid (w1868 275 82 = w 275 82) := Hid.mk (Eq.trans (q1870.out.fld (by decide)) u1855.out)
            have u1876 : Hid (w1868 275 83 = w 275 83 + 1) := Hid.mk (Eq.trans (q1870.out.fld (by decide)) u1856.out)
            have u1877 : Hid (w1868 275 84 = w135 275 84) := Hid.mk (Eq.trans (q1870.out.fld (by decide)) u1857.out)
            have u1878 : Hid (w1868 275 85 = w135 275 85) := Hid.mk (Eq.trans (q1870.out.fld (by decide)) u1858.out)
            have u1879 : Hid (w1868 275 86 = w135 275 86) := Hid.mk (Eq.trans (q1870.out.fld (by decide)) u1859.out)
            have u1881 : Hid (w1868 275 88 = w1833 275 88) := Hid.mk (Eq.trans (q1870.out.fld (by decide)) u1861.out)
            have u1882 : Hid (w1868 275 94 = w 275 94) := Hid.mk (Eq.trans (q1870.out.fld (by decide)) u1862.out)
            have f1883 : e_fr (mStm (w 275 78) (w 275 79) (w 275 80) (w 275 94)) w w1868 := e_fr.trans f1850 (q1870.out.st (by omega))
            have c1884 := cSt.em c1863 q1870.out (by decide) (by omega) (by omega)
            show e_Ok 20 elay ecode eI (d + 1) 352 (97, [(3, (0, w 275 79 + 3600)), (2, (0, w 275 79)), (1, (0, w 275 81)), (0, (1, 275))], [(0, w 275 78 + 1)], w1868) _
            refine e_Ok.run (t' := (99, [(3, (0, w 275 79 + 3600)), (2, (0, w 275 79)), (1, (0, w 275 81)), (0, (1, 275))], [(1, 275)], w1868)) 2 rfl ?_
            refine e_Ok.getf (z := w1833 275 88) rfl (el_o rfl) rfl rfl u1881.out (by omega) ?_
            refine e_Ok.if1 rfl (fun h1885 => ?_) (fun h1885 => ?_)
            · replace h1885 : (w1833 275 88 : Int) ≠ 0 := h1885
              refine e_Ok.run (t' := (160, [(3, (0, w 275 79 + 3600)), (2, (0, w 275 79)), (1, (0, w 275 81)), (0, (1, 275))], [(1, 275)], w1868)) 1 rfl ?_
              refine e_Ok.getf (z := w1833 275 88) rfl (el_o rfl) rfl rfl u1881.out (by omega) ?_
              refine e_Ok.if1 rfl (fun h1886 => ?_) (fun h1886 => ?_)
              · replace h1886 : (w1833 275 88 : Int) ≠ 0 := h1886
                refine e_Ok.run (t' := (222, [(3, (0, w 275 79 + 3600)), (2, (0, w 275 79)), (1, (0, w 275 81)), (0, (1, 275))], [(0, w 275 81), (1, 275)], w1868)) 2 rfl ?_
                refine e_Ok.putf rfl (el_o rfl) rfl rfl ?_
                generalize hw1887 : e_up w1868 275 81 (w 275 81) = w1887
                have f1888 : e_fr (mStm (w 275 78) (w 275 79) (w 275 80) (w 275 94)) w w1887 := e_fr.up f1883 hw1887 (by unfold mStm; omega)
                have u1889 : Hid (w1887 275 78 = w 275 78 + 2) := Hid.mk (Eq.trans (by rw [← hw1887]; exact e_up_ne _ _ (Or.inr (by decide))) u1871.out)
                have u1890 : Hid (w1887 275 79 = w 275 79 + 1) := Hid.mk (Eq.trans (by rw [← hw1887]; exact e_up_ne _ _ (Or.inr (by decide))) u1872.out)
                have u1891 : Hid (w1887 275 80 = w 275 80) := Hid.mk (Eq.trans (by rw [← hw1887]; exact e_up_ne _ _ (Or.inr (by decide))) u1873.out)
                have u1892 : Hid (w1887 275 81 = w 275 81) := Hid.mk (by rw [← hw1887]; exact e_up_eq _ _ _ _)
                have u1893 : Hid (w1887 275 82 = w 275 82) := Hid.mk (Eq.trans (by rw [← hw1887]; exact e_up_ne _ _ (Or.inr (by decide))) u1875.out)
                have u1894 : Hid (w1887 275 83 = w 275 83 + 1) := Hid.mk (Eq.trans (by rw [← hw1887]; exact e_up_ne _ _ (Or.inr (by decide))) u1876.out)
                have u1895 : Hid (w1887 275 84 = w135 275 84) := Hid.mk (Eq.trans (by rw [← hw1887]; exact e_up_ne _ _ (Or.inr (by decide))) u1877.out)
                have u1896 : Hid (w1887 275 85 = w135 275 85) := Hid.mk (Eq.trans (by rw [← hw1887]; exact e_up_ne _ _ (Or.inr (by decide))) u1878.out)
                have u1897 : Hid (w1887 275 86 = w135 275 86) := Hid.mk (Eq.trans (by rw [← hw1887]; exact e_up_ne _ _ (Or.inr (by decide))) u1879.out)
                have u1899 : Hid (w1887 275 88 = w1833 275 88) := Hid.mk (Eq.trans (by rw [← hw1887]; exact e_up_ne _ _ (Or.inr (by decide))) u1881.out)
                have u1900 : Hid (w1887 275 94 = w 275 94) := Hid.mk (Eq.trans (by rw [← hw1887]; exact e_up_ne _ _ (Or.inr (by decide))) u1882.out)
                have c1901 := cSt.wr c1884 hw1887 (Or.inr rfl) (by omega) rfl (fun _ => ⟨⟨by decide, by decide⟩, fun y => by omega⟩)
                refine e_Ok.run (t' := (226, [(3, (0, w 275 79 + 3600)), (2, (0, w 275 79)), (1, (0, w 275 81)), (0, (1, 275))], [(1, 275)], w1887)) 1 rfl ?_
                refine e_Ok.getr (z := 334) rfl (el_o rfl) rfl rfl ((f1888 275 71 (by unfold mStm; omega)).trans (e_Has.eq hc.1 rfl)) (by omega) ?_
                refine e_Ok.run (t' := (231, [(3, (0, w 275 79 + 3600)), (2, (0, w 275 79)), (1, (0, w 275 81)), (0, (1, 275))], [(1, 275), (0, w 275 79 + 3600), (1, 334)], w1887)) 2 rfl ?_
                refine e_Ok.getf (z := w 275 78 + 2) rfl (el_o rfl) rfl rfl u1889.out (by omega) ?_
                refine e_Ok.ast rfl (el_o rfl) rfl rfl (by omega) ?_
                generalize hw1902 : e_up w1887 334 (w 275 79 + 3600) (w 275 78 + 2) = w1902
                have f1903 : e_fr (mStm (w 275 78) (w 275 79) (w 275 80) (w 275 94)) w w1902 := e_fr.up f1888 hw1902 (by unfold mStm; omega)
                have u1904 : Hid (w1902 275 78 = w 275 78 + 2) := Hid.mk (Eq.trans (by rw [← hw1902]; exact e_up_ne _ _ (Or.inl (by decide))) u1889.out)
                have u1905 : Hid (w1902 275 79 = w 275 79 + 1) := Hid.mk (Eq.trans (by rw [← hw1902]; exact e_up_ne _ _ (Or.inl (by decide))) u1890.out)
                have u1906 : Hid (w1902 275 80 = w 275 80) := Hid.mk (Eq.trans (by rw [← hw1902]; exact e_up_ne _ _ (Or.inl (by decide))) u1891.out)
                have u1907 : Hid (w1902 275 81 = w 275 81) := Hid.mk (Eq.trans (by rw [← hw1902]; exact e_up_ne _ _ (Or.inl (by decide))) u1892.out)
                have u1908 : Hid (w1902 275 82 = w 275 82) := Hid.mk (Eq.trans (by rw [← hw1902]; exact e_up_ne _ _ (Or.inl (by decide))) u1893.out)
                have u1909 : Hid (w1902 275 83 = w 275 83 + 1) := Hid.mk (Eq.trans (by rw [← hw1902]; exact e_up_ne _ _ (Or.inl (by decide))) u1894.out)
                have u1910 : Hid (w1902 275 84 = w135 275 84) := Hid.mk (Eq.trans (by rw [← hw1902]; exact e_up_ne _ _ (Or.inl (by decide))) u1895.out)
                have u1911 : Hid (w1902 275 85 = w135 275 85) := Hid.mk (Eq.trans (by rw [← hw1902]; exact e_up_ne _ _ (Or.inl (by decide))) u1896.out)
                have u1912 : Hid (w1902 275 86 = w135 275 86) := Hid.mk (Eq.trans (by rw [← hw1902]; exact e_up_ne _ _ (Or.inl (by decide))) u1897.out)
                have u1914 : Hid (w1902 275 88 = w1833 275 88) := Hid.mk (Eq.trans (by rw [← hw1902]; exact e_up_ne _ _ (Or.inl (by decide))) u1899.out)
                have u1915 : Hid (w1902 275 94 = w 275 94) := Hid.mk (Eq.trans (by rw [← hw1902]; exact e_up_ne _ _ (Or.inl (by decide))) u1900.out)
                have c1916 := cSt.wr c1901 hw1902 (Or.inl rfl) (by omega) rfl (fun y => absurd y (by decide))
                refine e_Ok.run (t' := (238, [(3, (0, w 275 79 + 3600)), (2, (0, w 275 79)), (1, (0, w 275 81)), (0, (1, 275))], [(0, 2), (1, 275), (1, 275)], w1902)) 3 rfl ?_
                refine e_Ok.callV rfl (Nat.le_trans (by decide) hdq) rfl rfl rfl rfl (c_332 c1916.1 (N := N) c1916.2.2.2.1) (fun r1917 w1918 h1919 => ?_)
                obtain ⟨z1920, rfl, rfl, q1921⟩ := h1919
                obtain ⟨rfl, q1921, q1921b⟩ | ⟨rfl, q1921n⟩ := q1921
                · show e_Ok 20 elay ecode eI (d + 1) 352 (241, [(3, (0, w 275 79 + 3600)), (2, (0, w 275 79)), (1, (0, w 275 81)), (0, (1, 275))], [(0, 1), (1, 275)], w1902) _
                  rw [u1910.out] at q1921
                  rw [u1911.out] at q1921b
                  refine e_Ok.callV rfl (Nat.le_trans (by decide) hdq) rfl rfl rfl rfl (c_334 (Nat.le_trans (by decide) hdq) c1916.1 c1916.2.1 c1916.2.2.1 hNr c1916.2.2.2.1 (by decide)) (fun r1922 w1923 h1924 => ?_)
                  obtain ⟨rfl, q1925⟩ := h1924
                  obtain ⟨rfl, q1925z⟩ | ⟨q1925z, q1925b, q1925, q1925s, q1925t⟩ | ⟨q1925z, q1925b, q1925, q1925T, q1925H, q1925r⟩ := q1925
                  · show e_Ok 20 elay ecode eI (d + 1) 352 (244, [(3, (0, w 275 79 + 3600)), (2, (0, w 275 79)), (1, (0, w 275 81)), (0, (1, 275))], [], w1902) _
                    rw [u1914.out] at q1925z
                    refine e_Ok.run (t' := (246, [(3, (0, w 275 79 + 3600)), (2, (0, w 275 79)), (1, (0, w 275 81)), (0, (1, 275))], [(1, 275), (1, 275)], w1902)) 2 rfl ?_
                    refine e_Ok.getf (z := w 275 83 + 1) rfl (el_o rfl) rfl rfl u1909.out (by omega) ?_
                    refine e_Ok.run (t' := (250, [(3, (0, w 275 79 + 3600)), (2, (0, w 275 79)), (1, (0, w 275 81)), (0, (1, 275))], [(0, 1), (0, w 275 83 + 1), (1, 275)], w1902)) 1 rfl ?_
                    refine e_Ok.sub' (z := w 275 83) rfl (by omega) (by omega) ?_
                    refine e_Ok.putf rfl (el_o rfl) rfl rfl ?_
                    generalize hw1926 : e_up w1902 275 83 (w 275 83) = w1926
                    have f1927 : e_fr (mStm (w 275 78) (w 275 79) (w 275 80) (w 275 94)) w w1926 := e_fr.up f1903 hw1926 (by unfold mStm; omega)
                    have e1928 := up83 hw1926
                    replace e1928 := (show Hid _ from e1928)
                    have u1929 : Hid (w1926 275 78 = w 275 78 + 2) := Hid.mk (Eq.trans (e1928.out.1 275 78 (by decide)) u1904.out)
                    have u1930 : Hid (w1926 275 79 = w 275 79 + 1) := Hid.mk (Eq.trans (e1928.out.1 275 79 (by decide)) u1905.out)
                    have u1931 : Hid (w1926 275 80 = w 275 80) := Hid.mk (Eq.trans (e1928.out.1 275 80 (by decide)) u1906.out)
                    have u1932 : Hid (w1926 275 81 = w 275 81) := Hid.mk (Eq.trans (e1928.out.1 275 81 (by decide)) u1907.out)
                    have u1933 : Hid (w1926 275 82 = w 275 82) := Hid.mk (Eq.trans (e1928.out.1 275 82 (by decide)) u1908.out)
                    have u1934 : Hid (w1926 275 83 = w 275 83) := Hid.mk (e1928.out.2)
                    have u1937 : Hid (w1926 275 86 = w135 275 86) := Hid.mk (Eq.trans (e1928.out.1 275 86 (by decide)) u1912.out)
                    have u1939 : Hid (w1926 275 88 = w1833 275 88) := Hid.mk (Eq.trans (e1928.out.1 275 88 (by decide)) u1914.out)
                    have u1940 : Hid (w1926 275 94 = w 275 94) := Hid.mk (Eq.trans (e1928.out.1 275 94 (by decide)) u1915.out)
                    have c1941 := cSt.up c1916 hw1926
                    refine e_Ok.rets rfl rfl ?_
                    exact ⟨rfl, f1927, c1941, (by unfold stL; rw [u1929.out, u1930.out, u1931.out, u1932.out, u1933.out, u1934.out, u1937.out, u1939.out, u1940.out]; omega), (fun z => by rw [u1939.out] at z; exact absurd z (by omega))⟩
                  · rw [u1914.out] at q1925z; exact absurd q1925z (by omega)
                  · rw [u1914.out] at q1925z; exact absurd q1925z (by omega)
                · show e_Ok 20 elay ecode eI (d + 1) 352 (241, [(3, (0, w 275 79 + 3600)), (2, (0, w 275 79)), (1, (0, w 275 81)), (0, (1, 275))], [(0, 0), (1, 275)], w1902) _
                  clear q1921n
                  refine e_Ok.callV rfl (Nat.le_trans (by decide) hdq) rfl rfl rfl rfl (c_334 (Nat.le_trans (by decide) hdq) c1916.1 c1916.2.1 c1916.2.2.1 hNr c1916.2.2.2.1 (by decide)) (fun r1942 w1943 h1944 => ?_)
                  obtain ⟨rfl, q1945⟩ := h1944
                  obtain ⟨rfl, q1945z⟩ | ⟨q1945z, q1945b, q1945, q1945s, q1945t⟩ | ⟨q1945z, q1945b, q1945, q1945T, q1945H, q1945r⟩ := q1945
                  · show e_Ok 20 elay ecode eI (d + 1) 352 (244, [(3, (0, w 275 79 + 3600)), (2, (0, w 275 79)), (1, (0, w 275 81)), (0, (1, 275))], [], w1902) _
                    rw [u1914.out] at q1945z
                    refine e_Ok.run (t' := (246, [(3, (0, w 275 79 + 3600)), (2, (0, w 275 79)), (1, (0, w 275 81)), (0, (1, 275))], [(1, 275), (1, 275)], w1902)) 2 rfl ?_
                    refine e_Ok.getf (z := w 275 83 + 1) rfl (el_o rfl) rfl rfl u1909.out (by omega) ?_
                    refine e_Ok.run (t' := (250, [(3, (0, w 275 79 + 3600)), (2, (0, w 275 79)), (1, (0, w 275 81)), (0, (1, 275))], [(0, 1), (0, w 275 83 + 1), (1, 275)], w1902)) 1 rfl ?_
                    refine e_Ok.sub' (z := w 275 83) rfl (by omega) (by omega) ?_
                    refine e_Ok.putf rfl (el_o rfl) rfl rfl ?_
                    generalize hw1946 : e_up w1902 275 83 (w 275 83) = w1946
                    have f1947 : e_fr (mStm (w 275 78) (w 275 79) (w 275 80) (w 275 94)) w w1946 := e_fr.up f1903 hw1946 (by unfold mStm; omega)
                    have e1948 := up83 hw1946
                    replace e1948 := (show Hid _ from e1948)
                    have u1949 : Hid (w1946 275 78 = w 275 78 + 2) := Hid.mk (Eq.trans (e1948.out.1 275 78 (by decide)) u1904.out)
                    have u1950 : Hid (w1946 275 79 = w 275 79 + 1) := Hid.mk (Eq.trans (e1948.out.1 275 79 (by decide)) u1905.out)
                    have u1951 : Hid (w1946 275 80 = w 275 80) := Hid.mk (Eq.trans (e1948.out.1 275 80 (by decide)) u1906.out)
                    have u1952 : Hid (w1946 275 81 = w 275 81) := Hid.mk (Eq.trans (e1948.out.1 275 81 (by decide)) u1907.out)
                    have u1953 : Hid (w1946 275 82 = w 275 82) := Hid.mk (Eq.trans (e1948.out.1 275 82 (by decide)) u1908.out)
                    have u1954 : Hid (w1946 275 83 = w 275 83) := Hid.mk (e1948.out.2)
                    have u1957 : Hid (w1946 275 86 = w135 275 86) := Hid.mk (Eq.trans (e1948.out.1 275 86 (by decide)) u1912.out)
                    have u1959 : Hid (w1946 275 88 = w1833 275 88) := Hid.mk (Eq.trans (e1948.out.1 275 88 (by decide)) u1914.out)
                    have u1960 : Hid (w1946 275 94 = w 275 94) := Hid.mk (Eq.trans (e1948.out.1 275 94 (by decide)) u1915.out)
                    have c1961 := cSt.up c1916 hw1946
                    refine e_Ok.rets rfl rfl ?_
                    exact ⟨rfl, f1947, c1961, (by unfold stL; rw [u1949.out, u1950.out, u1951.out, u1952.out, u1953.out, u1954.out, u1957.out, u1959.out, u1960.out]; omega), (fun z => by rw [u1959.out] at z; exact absurd z (by omega))⟩
                  · rw [u1914.out] at q1945z; exact absurd q1945z (by omega)
                  · rw [u1914.out] at q1945z; exact absurd q1945z (by omega)
              · replace h1886 : (w1833 275 88 : Int) = 0 := by have q : ¬ ((w1833 275 88 : Int) ≠ 0) := h1886; omega
                exfalso; omega
            · replace h1885 : (w1833 275 88 : Int) = 0 := by have q : ¬ ((w1833 275 88 : Int) ≠ 0) := h1885; omega
              exfalso; omega
      · exact absurd q137b (by decide)
    · show e_Ok 20 elay ecode eI (d + 1) 352 (66, [(3, (0, w 275 79 + 3600)), (2, (0, w 275 79)), (1, (0, w 275 81)), (0, (1, 275))], [(0, 0), (1, 275)], w107) _
      clear q133n
      refine e_Ok.callV rfl (Nat.le_trans (by decide) hdq) rfl rfl rfl rfl (c_334 (Nat.le_trans (by decide) hdq) c121.1 c121.2.1 c121.2.2.1 hNr c121.2.2.2.1 (by decide)) (fun r1962 w1963 h1964 => ?_)
      obtain ⟨rfl, q1965⟩ := h1964
      obtain ⟨rfl, q1965z⟩ | ⟨q1965z, q1965b, q1965, q1965s, q1965t⟩ | ⟨q1965z, q1965b, q1965, q1965T, q1965H, q1965r⟩ := q1965
      · rw [u119.out] at q1965z; exact absurd q1965z (by omega)
      · exact absurd q1965b (by decide)
      · show e_Ok 20 elay ecode eI (d + 1) 352 (69, [(3, (0, w 275 79 + 3600)), (2, (0, w 275 79)), (1, (0, w 275 81)), (0, (1, 275))], [], w1963) _
        rw [u119.out] at q1965z
        have u1966 : Hid (w1963 275 78 = w 275 78 + 1) := Hid.mk (Eq.trans (q1965 275 78 (mRf_fld (by decide))) u109.out)
        have u1967 : Hid (w1963 275 79 = w 275 79 + 1) := Hid.mk (Eq.trans (q1965 275 79 (mRf_fld (by decide))) u110.out)
        have u1968 : Hid (w1963 275 80 = w 275 80) := Hid.mk (Eq.trans (q1965 275 80 (mRf_fld (by decide))) u111.out)
        have u1970 : Hid (w1963 275 82 = w 275 82) := Hid.mk (Eq.trans (q1965 275 82 (mRf_fld (by decide))) u113.out)
        have u1971 : Hid (w1963 275 83 = w 275 83 + 1) := Hid.mk (Eq.trans (q1965 275 83 (mRf_fld (by decide))) u114.out)
        have u1972 : Hid (w1963 275 84 = w 275 84) := Hid.mk (Eq.trans (q1965 275 84 (mRf_fld (by decide))) u115.out)
        have u1973 : Hid (w1963 275 85 = w 275 85) := Hid.mk (Eq.trans (q1965 275 85 (mRf_fld (by decide))) u116.out)
        have u1974 : Hid (w1963 275 86 = w 275 86) := Hid.mk (Eq.trans (q1965 275 86 (mRf_fld (by decide))) u117.out)
        have u1976 : Hid (w1963 275 94 = w 275 94) := Hid.mk (Eq.trans (q1965 275 94 (mRf_fld (by decide))) u120.out)
        have c1977 := cSt.rf c121 q1965 q1965T q1965H
        have f1978 : e_fr (mStm (w 275 78) (w 275 79) (w 275 80) (w 275 94)) w w1963 := e_fr.trans f108 (e_fr.mono q1965 (fun c k g => mRf_St g))
        refine e_Ok.run (t' := (73, [(3, (0, w 275 79 + 3600)), (2, (0, w 275 79)), (1, (0, w 275 81)), (0, (1, 275))], [(0, 58), (1, 275), (1, 275)], w1963)) 3 rfl ?_
        refine e_Ok.callV rfl (Nat.le_trans (by decide) hdq) rfl rfl rfl rfl (c_331 c1977.1 (N := N) c1977.2.2.2.1) (fun r1979 w1980 h1981 => ?_)
        obtain ⟨z1982, rfl, rfl, q1983⟩ := h1981
        obtain ⟨rfl, q1983, q1983b⟩ | ⟨rfl, q1983n⟩ := q1983
        · show e_Ok 20 elay ecode eI (d + 1) 352 (76, [(3, (0, w 275 79 + 3600)), (2, (0, w 275 79)), (1, (0, w 275 81)), (0, (1, 275))], [(0, 1), (1, 275)], w1963) _
          rw [u1972.out] at q1983
          rw [u1973.out] at q1983b
          refine e_Ok.callV rfl (Nat.le_trans (by decide) hdq) rfl rfl rfl rfl (c_334 (Nat.le_trans (by decide) hdq) c1977.1 c1977.2.1 c1977.2.2.1 hNr c1977.2.2.2.1 (by decide)) (fun r1984 w1985 h1986 => ?_)
          obtain ⟨rfl, q1987⟩ := h1986
          obtain ⟨rfl, q1987z⟩ | ⟨q1987z, q1987b, q1987, q1987s, q1987t⟩ | ⟨q1987z, q1987b, q1987, q1987T, q1987H, q1987r⟩ := q1987
          · show e_Ok 20 elay ecode eI (d + 1) 352 (79, [(3, (0, w 275 79 + 3600)), (2, (0, w 275 79)), (1, (0, w 275 81)), (0, (1, 275))], [], w1963) _
            refine e_Ok.run (t' := (82, [(3, (0, w 275 79 + 3600)), (2, (0, w 275 79)), (1, (0, w 275 81)), (0, (1, 275))], [(0, w 275 79), (0, 3), (1, 275)], w1963)) 3 rfl ?_
            refine e_Ok.mul (z := 3 * w 275 79) rfl (by omega) (by omega) ?_
            refine e_Ok.putf rfl (el_o rfl) rfl rfl ?_
            generalize hw1988 : e_up w1963 275 81 (3 * w 275 79) = w1988
            have f1989 : e_fr (mStm (w 275 78) (w 275 79) (w 275 80) (w 275 94)) w w1988 := e_fr.up f1978 hw1988 (by unfold mStm; omega)
            have u1990 : Hid (w1988 275 78 = w 275 78 + 1) := Hid.mk (Eq.trans (by rw [← hw1988]; exact e_up_ne _ _ (Or.inr (by decide))) u1966.out)
            have u1991 : Hid (w1988 275 79 = w 275 79 + 1) := Hid.mk (Eq.trans (by rw [← hw1988]; exact e_up_ne _ _ (Or.inr (by decide))) u1967.out)
            have u1992 : Hid (w1988 275 80 = w 275 80) := Hid.mk (Eq.trans (by rw [← hw1988]; exact e_up_ne _ _ (Or.inr (by decide))) u1968.out)
            have u1993 : Hid (w1988 275 81 = 3 * w 275 79) := Hid.mk (by rw [← hw1988]; exact e_up_eq _ _ _ _)
            have u1994 : Hid (w1988 275 82 = w 275 82) := Hid.mk (Eq.trans (by rw [← hw1988]; exact e_up_ne _ _ (Or.inr (by decide))) u1970.out)
            have u1995 : Hid (w1988 275 83 = w 275 83 + 1) := Hid.mk (Eq.trans (by rw [← hw1988]; exact e_up_ne _ _ (Or.inr (by decide))) u1971.out)
            have u1996 : Hid (w1988 275 84 = w 275 84) := Hid.mk (Eq.trans (by rw [← hw1988]; exact e_up_ne _ _ (Or.inr (by decide))) u1972.out)
            have u1997 : Hid (w1988 275 85 = w 275 85) := Hid.mk (Eq.trans (by rw [← hw1988]; exact e_up_ne _ _ (Or.inr (by decide))) u1973.out)
            have u1998 : Hid (w1988 275 86 = w 275 86) := Hid.mk (Eq.trans (by rw [← hw1988]; exact e_up_ne _ _ (Or.inr (by decide))) u1974.out)
            have u2000 : Hid (w1988 275 88 = w1963 275 88) := Hid.mk (by rw [← hw1988]; exact e_up_ne _ _ (Or.inr (by decide)))
            have u2001 : Hid (w1988 275 94 = w 275 94) := Hid.mk (Eq.trans (by rw [← hw1988]; exact e_up_ne _ _ (Or.inr (by decide))) u1976.out)
            have c2002 := cSt.wr c1977 hw1988 (Or.inr rfl) (by omega) rfl (fun _ => ⟨⟨by decide, by decide⟩, fun y => by omega⟩)
            refine e_Ok.run (t' := (87, [(3, (0, w 275 79 + 3600)), (2, (0, w 275 79)), (1, (0, w 275 81)), (0, (1, 275))], [(1, 275)], w1988)) 1 rfl ?_
            refine e_Ok.callV rfl (Nat.le_trans (by decide) hdq) rfl rfl rfl rfl (c_348_0 (Nat.le_trans (by decide) hdq) c2002 (by rw [u2000.out] <;> omega)) (fun r2003 w2004 h2005 => ?_)
            obtain ⟨rfl, rfl⟩ := h2005
            show e_Ok 20 elay ecode eI (d + 1) 352 (90, [(3, (0, w 275 79 + 3600)), (2, (0, w 275 79)), (1, (0, w 275 81)), (0, (1, 275))], [], w1988) _
            refine e_Ok.run (t' := (94, [(3, (0, w 275 79 + 3600)), (2, (0, w 275 79)), (1, (0, w 275 81)), (0, (1, 275))], [(0, w 275 79), (0, 49), (1, 275)], w1988)) 3 rfl ?_
            refine e_Ok.callV rfl (Nat.le_trans (by decide) hdq) rfl rfl rfl rfl (c_336 c2002.1 (n := w 275 78 + 1) u1990.out (by omega) (s := 3 * w 275 79) u1993.out (by omega)) (fun r2006 w2007 h2008 => ?_)
            obtain ⟨rfl, q2009⟩ := h2008
            replace q2009 := (show Hid (EM w1988 w2007 (w 275 78 + 1) 49 (w 275 79) (3 * w 275 79)) from q2009)
            have u2010 : Hid (w2007 275 78 = w 275 78 + 2) := Hid.mk (Eq.trans q2009.out.2.2.2.2 (by omega))
            have u2011 : Hid (w2007 275 79 = w 275 79 + 1) := Hid.mk (Eq.trans (q2009.out.fld (by decide)) u1991.out)
            have u2012 : Hid (w2007 275 80 = w 275 80) := Hid.mk (Eq.trans (q2009.out.fld (by decide)) u1992.out)
            have u2014 : Hid (w2007 275 82 = w 275 82) := Hid.mk (Eq.trans (q2009.out.fld (by decide)) u1994.out)
            have u2015 : Hid (w2007 275 83 = w 275 83 + 1) := Hid.mk (Eq.trans (q2009.out.fld (by decide)) u1995.out)
            have u2016 : Hid (w2007 275 84 = w 275 84) := Hid.mk (Eq.trans (q2009.out.fld (by decide)) u1996.out)
            have u2017 : Hid (w2007 275 85 = w 275 85) := Hid.mk (Eq.trans (q2009.out.fld (by decide)) u1997.out)
            have u2018 : Hid (w2007 275 86 = w 275 86) := Hid.mk (Eq.trans (q2009.out.fld (by decide)) u1998.out)
            have u2020 : Hid (w2007 275 88 = w1963 275 88) := Hid.mk (Eq.trans (q2009.out.fld (by decide)) u2000.out)
            have u2021 : Hid (w2007 275 94 = w 275 94) := Hid.mk (Eq.trans (q2009.out.fld (by decide)) u2001.out)
            have f2022 : e_fr (mStm (w 275 78) (w 275 79) (w 275 80) (w 275 94)) w w2007 := e_fr.trans f1989 (q2009.out.st (by omega))
            have c2023 := cSt.em c2002 q2009.out (by decide) (by omega) (by omega)
            show e_Ok 20 elay ecode eI (d + 1) 352 (97, [(3, (0, w 275 79 + 3600)), (2, (0, w 275 79)), (1, (0, w 275 81)), (0, (1, 275))], [(0, w 275 78 + 1)], w2007) _
            refine e_Ok.run (t' := (99, [(3, (0, w 275 79 + 3600)), (2, (0, w 275 79)), (1, (0, w 275 81)), (0, (1, 275))], [(1, 275)], w2007)) 2 rfl ?_
            refine e_Ok.getf (z := w1963 275 88) rfl (el_o rfl) rfl rfl u2020.out (by omega) ?_
            refine e_Ok.if1 rfl (fun h2024 => ?_) (fun h2024 => ?_)
            · replace h2024 : (w1963 275 88 : Int) ≠ 0 := h2024
              refine e_Ok.run (t' := (160, [(3, (0, w 275 79 + 3600)), (2, (0, w 275 79)), (1, (0, w 275 81)), (0, (1, 275))], [(1, 275)], w2007)) 1 rfl ?_
              refine e_Ok.getf (z := w1963 275 88) rfl (el_o rfl) rfl rfl u2020.out (by omega) ?_
              refine e_Ok.if1 rfl (fun h2025 => ?_) (fun h2025 => ?_)
              · replace h2025 : (w1963 275 88 : Int) ≠ 0 := h2025
                refine e_Ok.run (t' := (222, [(3, (0, w 275 79 + 3600)), (2, (0, w 275 79)), (1, (0, w 275 81)), (0, (1, 275))], [(0, w 275 81), (1, 275)], w2007)) 2 rfl ?_
                refine e_Ok.putf rfl (el_o rfl) rfl rfl ?_
                generalize hw2026 : e_up w2007 275 81 (w 275 81) = w2026
                have f2027 : e_fr (mStm (w 275 78) (w 275 79) (w 275 80) (w 275 94)) w w2026 := e_fr.up f2022 hw2026 (by unfold mStm; omega)
                have u2028 : Hid (w2026 275 78 = w 275 78 + 2) := Hid.mk (Eq.trans (by rw [← hw2026]; exact e_up_ne _ _ (Or.inr (by decide))) u2010.out)
                have u2029 : Hid (w2026 275 79 = w 275 79 + 1) := Hid.mk (Eq.trans (by rw [← hw2026]; exact e_up_ne _ _ (Or.inr (by decide))) u2011.out)
                have u2030 : Hid (w2026 275 80 = w 275 80) := Hid.mk (Eq.trans (by rw [← hw2026]; exact e_up_ne _ _ (Or.inr (by decide))) u2012.out)
                have u2031 : Hid (w2026 275 81 = w 275 81) := Hid.mk (by rw [← hw2026]; exact e_up_eq _ _ _ _)
                have u2032 : Hid (w2026 275 82 = w 275 82) := Hid.mk (Eq.trans (by rw [← hw2026]; exact e_up_ne _ _ (Or.inr (by decide))) u2014.out)
                have u2033 : Hid (w2026 275 83 = w 275 83 + 1) := Hid.mk (Eq.trans (by rw [← hw2026]; exact e_up_ne _ _ (Or.inr (by decide))) u2015.out)
                have u2034 : Hid (w2026 275 84 = w 275 84) := Hid.mk (Eq.trans (by rw [← hw2026]; exact e_up_ne _ _ (Or.inr (by decide))) u2016.out)
                have u2035 : Hid (w2026 275 85 = w 275 85) := Hid.mk (Eq.trans (by rw [← hw2026]; exact e_up_ne _ _ (Or.inr (by decide))) u2017.out)
                have u2036 : Hid (w2026 275 86 = w 275 86) := Hid.mk (Eq.trans (by rw [← hw2026]; exact e_up_ne _ _ (Or.inr (by decide))) u2018.out)
                have u2038 : Hid (w2026 275 88 = w1963 275 88) := Hid.mk (Eq.trans (by rw [← hw2026]; exact e_up_ne _ _ (Or.inr (by decide))) u2020.out)
                have u2039 : Hid (w2026 275 94 = w 275 94) := Hid.mk (Eq.trans (by rw [← hw2026]; exact e_up_ne _ _ (Or.inr (by decide))) u2021.out)
                have c2040 := cSt.wr c2023 hw2026 (Or.inr rfl) (by omega) rfl (fun _ => ⟨⟨by decide, by decide⟩, fun y => by omega⟩)
                refine e_Ok.run (t' := (226, [(3, (0, w 275 79 + 3600)), (2, (0, w 275 79)), (1, (0, w 275 81)), (0, (1, 275))], [(1, 275)], w2026)) 1 rfl ?_
                refine e_Ok.getr (z := 334) rfl (el_o rfl) rfl rfl ((f2027 275 71 (by unfold mStm; omega)).trans (e_Has.eq hc.1 rfl)) (by omega) ?_
                refine e_Ok.run (t' := (231, [(3, (0, w 275 79 + 3600)), (2, (0, w 275 79)), (1, (0, w 275 81)), (0, (1, 275))], [(1, 275), (0, w 275 79 + 3600), (1, 334)], w2026)) 2 rfl ?_
                refine e_Ok.getf (z := w 275 78 + 2) rfl (el_o rfl) rfl rfl u2028.out (by omega) ?_
                refine e_Ok.ast rfl (el_o rfl) rfl rfl (by omega) ?_
                generalize hw2041 : e_up w2026 334 (w 275 79 + 3600) (w 275 78 + 2) = w2041
                have f2042 : e_fr (mStm (w 275 78) (w 275 79) (w 275 80) (w 275 94)) w w2041 := e_fr.up f2027 hw2041 (by unfold mStm; omega)
                have u2043 : Hid (w2041 275 78 = w 275 78 + 2) := Hid.mk (Eq.trans (by rw [← hw2041]; exact e_up_ne _ _ (Or.inl (by decide))) u2028.out)
                have u2044 : Hid (w2041 275 79 = w 275 79 + 1) := Hid.mk (Eq.trans (by rw [← hw2041]; exact e_up_ne _ _ (Or.inl (by decide))) u2029.out)
                have u2045 : Hid (w2041 275 80 = w 275 80) := Hid.mk (Eq.trans (by rw [← hw2041]; exact e_up_ne _ _ (Or.inl (by decide))) u2030.out)
                have u2046 : Hid (w2041 275 81 = w 275 81) := Hid.mk (Eq.trans (by rw [← hw2041]; exact e_up_ne _ _ (Or.inl (by decide))) u2031.out)
                have u2047 : Hid (w2041 275 82 = w 275 82) := Hid.mk (Eq.trans (by rw [← hw2041]; exact e_up_ne _ _ (Or.inl (by decide))) u2032.out)
                have u2048 : Hid (w2041 275 83 = w 275 83 + 1) := Hid.mk (Eq.trans (by rw [← hw2041]; exact e_up_ne _ _ (Or.inl (by decide))) u2033.out)
                have u2049 : Hid (w2041 275 84 = w 275 84) := Hid.mk (Eq.trans (by rw [← hw2041]; exact e_up_ne _ _ (Or.inl (by decide))) u2034.out)
                have u2050 : Hid (w2041 275 85 = w 275 85) := Hid.mk (Eq.trans (by rw [← hw2041]; exact e_up_ne _ _ (Or.inl (by decide))) u2035.out)
                have u2051 : Hid (w2041 275 86 = w 275 86) := Hid.mk (Eq.trans (by rw [← hw2041]; exact e_up_ne _ _ (Or.inl (by decide))) u2036.out)
                have u2053 : Hid (w2041 275 88 = w1963 275 88) := Hid.mk (Eq.trans (by rw [← hw2041]; exact e_up_ne _ _ (Or.inl (by decide))) u2038.out)
                have u2054 : Hid (w2041 275 94 = w 275 94) := Hid.mk (Eq.trans (by rw [← hw2041]; exact e_up_ne _ _ (Or.inl (by decide))) u2039.out)
                have c2055 := cSt.wr c2040 hw2041 (Or.inl rfl) (by omega) rfl (fun y => absurd y (by decide))
                refine e_Ok.run (t' := (238, [(3, (0, w 275 79 + 3600)), (2, (0, w 275 79)), (1, (0, w 275 81)), (0, (1, 275))], [(0, 2), (1, 275), (1, 275)], w2041)) 3 rfl ?_
                refine e_Ok.callV rfl (Nat.le_trans (by decide) hdq) rfl rfl rfl rfl (c_332 c2055.1 (N := N) c2055.2.2.2.1) (fun r2056 w2057 h2058 => ?_)
                obtain ⟨z2059, rfl, rfl, q2060⟩ := h2058
                obtain ⟨rfl, q2060, q2060b⟩ | ⟨rfl, q2060n⟩ := q2060
                · show e_Ok 20 elay ecode eI (d + 1) 352 (241, [(3, (0, w 275 79 + 3600)), (2, (0, w 275 79)), (1, (0, w 275 81)), (0, (1, 275))], [(0, 1), (1, 275)], w2041) _
                  rw [u2049.out] at q2060
                  rw [u2050.out] at q2060b
                  refine e_Ok.callV rfl (Nat.le_trans (by decide) hdq) rfl rfl rfl rfl (c_334 (Nat.le_trans (by decide) hdq) c2055.1 c2055.2.1 c2055.2.2.1 hNr c2055.2.2.2.1 (by decide)) (fun r2061 w2062 h2063 => ?_)
                  obtain ⟨rfl, q2064⟩ := h2063
                  obtain ⟨rfl, q2064z⟩ | ⟨q2064z, q2064b, q2064, q2064s, q2064t⟩ | ⟨q2064z, q2064b, q2064, q2064T, q2064H, q2064r⟩ := q2064
                  · show e_Ok 20 elay ecode eI (d + 1) 352 (244, [(3, (0, w 275 79 + 3600)), (2, (0, w 275 79)), (1, (0, w 275 81)), (0, (1, 275))], [], w2041) _
                    rw [u2053.out] at q2064z
                    refine e_Ok.run (t' := (246, [(3, (0, w 275 79 + 3600)), (2, (0, w 275 79)), (1, (0, w 275 81)), (0, (1, 275))], [(1, 275), (1, 275)], w2041)) 2 rfl ?_
                    refine e_Ok.getf (z := w 275 83 + 1) rfl (el_o rfl) rfl rfl u2048.out (by omega) ?_
                    refine e_Ok.run (t' := (250, [(3, (0, w 275 79 + 3600)), (2, (0, w 275 79)), (1, (0, w 275 81)), (0, (1, 275))], [(0, 1), (0, w 275 83 + 1), (1, 275)], w2041)) 1 rfl ?_
                    refine e_Ok.sub' (z := w 275 83) rfl (by omega) (by omega) ?_
                    refine e_Ok.putf rfl (el_o rfl) rfl rfl ?_
                    generalize hw2065 : e_up w2041 275 83 (w 275 83) = w2065
                    have f2066 : e_fr (mStm (w 275 78) (w 275 79) (w 275 80) (w 275 94)) w w2065 := e_fr.up f2042 hw2065 (by unfold mStm; omega)
                    have e2067 := up83 hw2065
                    replace e2067 := (show Hid _ from e2067)
                    have u2068 : Hid (w2065 275 78 = w 275 78 + 2) := Hid.mk (Eq.trans (e2067.out.1 275 78 (by decide)) u2043.out)
                    have u2069 : Hid (w2065 275 79 = w 275 79 + 1) := Hid.mk (Eq.trans (e2067.out.1 275 79 (by decide)) u2044.out)
                    have u2070 : Hid (w2065 275 80 = w 275 80) := Hid.mk (Eq.trans (e2067.out.1 275 80 (by decide)) u2045.out)
                    have u2071 : Hid (w2065 275 81 = w 275 81) := Hid.mk (Eq.trans (e2067.out.1 275 81 (by decide)) u2046.out)
                    have u2072 : Hid (w2065 275 82 = w 275 82) := Hid.mk (Eq.trans (e2067.out.1 275 82 (by decide)) u2047.out)
                    have u2073 : Hid (w2065 275 83 = w 275 83) := Hid.mk (e2067.out.2)
                    have u2076 : Hid (w2065 275 86 = w 275 86) := Hid.mk (Eq.trans (e2067.out.1 275 86 (by decide)) u2051.out)
                    have u2078 : Hid (w2065 275 88 = w1963 275 88) := Hid.mk (Eq.trans (e2067.out.1 275 88 (by decide)) u2053.out)
                    have u2079 : Hid (w2065 275 94 = w 275 94) := Hid.mk (Eq.trans (e2067.out.1 275 94 (by decide)) u2054.out)
                    have c2080 := cSt.up c2055 hw2065
                    refine e_Ok.rets rfl rfl ?_
                    exact ⟨rfl, f2066, c2080, (by unfold stL; rw [u2068.out, u2069.out, u2070.out, u2071.out, u2072.out, u2073.out, u2076.out, u2078.out, u2079.out]; omega), (fun z => by rw [u2078.out] at z; exact absurd z (by omega))⟩
                  · rw [u2053.out] at q2064z; exact absurd q2064z (by omega)
                  · rw [u2053.out] at q2064z; exact absurd q2064z (by omega)
                · show e_Ok 20 elay ecode eI (d + 1) 352 (241, [(3, (0, w 275 79 + 3600)), (2, (0, w 275 79)), (1, (0, w 275 81)), (0, (1, 275))], [(0, 0), (1, 275)], w2041) _
                  clear q2060n
                  refine e_Ok.callV rfl (Nat.le_trans (by decide) hdq) rfl rfl rfl rfl (c_334 (Nat.le_trans (by decide) hdq) c2055.1 c2055.2.1 c2055.2.2.1 hNr c2055.2.2.2.1 (by decide)) (fun r2081 w2082 h2083 => ?_)
                  obtain ⟨rfl, q2084⟩ := h2083
                  obtain ⟨rfl, q2084z⟩ | ⟨q2084z, q2084b, q2084, q2084s, q2084t⟩ | ⟨q2084z, q2084b, q2084, q2084T, q2084H, q2084r⟩ := q2084
                  · show e_Ok 20 elay ecode eI (d + 1) 352 (244, [(3, (0, w 275 79 + 3600)), (2, (0, w 275 79)), (1, (0, w 275 81)), (0, (1, 275))], [], w2041) _
                    rw [u2053.out] at q2084z
                    refine e_Ok.run (t' := (246, [(3, (0, w 275 79 + 3600)), (2, (0, w 275 79)), (1, (0, w 275 81)), (0, (1, 275))], [(1, 275), (1, 275)], w2041)) 2 rfl ?_
                    refine e_Ok.getf (z := w 275 83 + 1) rfl (el_o rfl) rfl rfl u2048.out (by omega) ?_
                    refine e_Ok.run (t' := (250, [(3, (0, w 275 79 + 3600)), (2, (0, w 275 79)), (1, (0, w 275 81)), (0, (1, 275))], [(0, 1), (0, w 275 83 + 1), (1, 275)], w2041)) 1 rfl ?_
                    refine e_Ok.sub' (z := w 275 83) rfl (by omega) (by omega) ?_
                    refine e_Ok.putf rfl (el_o rfl) rfl rfl ?_
                    generalize hw2085 : e_up w2041 275 83 (w 275 83) = w2085
                    have f2086 : e_fr (mStm (w 275 78) (w 275 79) (w 275 80) (w 275 94)) w w2085 := e_fr.up f2042 hw2085 (by unfold mStm; omega)
                    have e2087 := up83 hw2085
                    replace e2087 := (show Hid _ from e2087)
                    have u2088 : Hid (w2085 275 78 = w 275 78 + 2) := Hid.mk (Eq.trans (e2087.out.1 275 78 (by decide)) u2043.out)
                    have u2089 : Hid (w2085 275 79 = w 275 79 + 1) := Hid.mk (Eq.trans (e2087.out.1 275 79 (by decide)) u2044.out)
                    have u2090 : Hid (w2085 275 80 = w 275 80) := Hid.mk (Eq.trans (e2087.out.1 275 80 (by decide)) u2045.out)
                    have u2091 : Hid (w2085 275 81 = w 275 81) := Hid.mk (Eq.trans (e2087.out.1 275 81 (by decide)) u2046.out)
                    have u2092 : Hid (w2085 275 82 = w 275 82) := Hid.mk (Eq.trans (e2087.out.1 275 82 (by decide)) u2047.out)
                    have u2093 : Hid (w2085 275 83 = w 275 83) := Hid.mk (e2087.out.2)
                    have u2096 : Hid (w2085 275 86 = w 275 86) := Hid.mk (Eq.trans (e2087.out.1 275 86 (by decide)) u2051.out)
                    have u2098 : Hid (w2085 275 88 = w1963 275 88) := Hid.mk (Eq.trans (e2087.out.1 275 88 (by decide)) u2053.out)
                    have u2099 : Hid (w2085 275 94 = w 275 94) := Hid.mk (Eq.trans (e2087.out.1 275 94 (by decide)) u2054.out)
                    have c2100 := cSt.up c2055 hw2085
                    refine e_Ok.rets rfl rfl ?_
                    exact ⟨rfl, f2086, c2100, (by unfold stL; rw [u2088.out, u2089.out, u2090.out, u2091.out, u2092.out, u2093.out, u2096.out, u2098.out, u2099.out]; omega), (fun z => by rw [u2098.out] at z; exact absurd z (by omega))⟩
                  · rw [u2053.out] at q2084z; exact absurd q2084z (by omega)
                  · rw [u2053.out] at q2084z; exact absurd q2084z (by omega)
              · replace h2025 : (w1963 275 88 : Int) = 0 := by have q : ¬ ((w1963 275 88 : Int) ≠ 0) := h2025; omega
                exfalso; omega
            · replace h2024 : (w1963 275 88 : Int) = 0 := by have q : ¬ ((w1963 275 88 : Int) ≠ 0) := h2024; omega
              exfalso; omega
          · exact absurd q1987z (by omega)
          · exact absurd q1987z (by omega)
        · show e_Ok 20 elay ecode eI (d + 1) 352 (76, [(3, (0, w 275 79 + 3600)), (2, (0, w 275 79)), (1, (0, w 275 81)), (0, (1, 275))], [(0, 0), (1, 275)], w1963) _
          clear q1983n
          refine e_Ok.callV rfl (Nat.le_trans (by decide) hdq) rfl rfl rfl rfl (c_334 (Nat.le_trans (by decide) hdq) c1977.1 c1977.2.1 c1977.2.2.1 hNr c1977.2.2.2.1 (by decide)) (fun r2101 w2102 h2103 => ?_)
          obtain ⟨rfl, q2104⟩ := h2103
          obtain ⟨rfl, q2104z⟩ | ⟨q2104z, q2104b, q2104, q2104s, q2104t⟩ | ⟨q2104z, q2104b, q2104, q2104T, q2104H, q2104r⟩ := q2104
          · show e_Ok 20 elay ecode eI (d + 1) 352 (79, [(3, (0, w 275 79 + 3600)), (2, (0, w 275 79)), (1, (0, w 275 81)), (0, (1, 275))], [], w1963) _
            refine e_Ok.run (t' := (82, [(3, (0, w 275 79 + 3600)), (2, (0, w 275 79)), (1, (0, w 275 81)), (0, (1, 275))], [(0, w 275 79), (0, 3), (1, 275)], w1963)) 3 rfl ?_
            refine e_Ok.mul (z := 3 * w 275 79) rfl (by omega) (by omega) ?_
            refine e_Ok.putf rfl (el_o rfl) rfl rfl ?_
            generalize hw2105 : e_up w1963 275 81 (3 * w 275 79) = w2105
            have f2106 : e_fr (mStm (w 275 78) (w 275 79) (w 275 80) (w 275 94)) w w2105 := e_fr.up f1978 hw2105 (by unfold mStm; omega)
            have u2107 : Hid (w2105 275 78 = w 275 78 + 1) := Hid.mk (Eq.trans (by rw [← hw2105]; exact e_up_ne _ _ (Or.inr (by decide))) u1966.out)
            have u2108 : Hid (w2105 275 79 = w 275 79 + 1) := Hid.mk (Eq.trans (by rw [← hw2105]; exact e_up_ne _ _ (Or.inr (by decide))) u1967.out)
            have u2109 : Hid (w2105 275 80 = w 275 80) := Hid.mk (Eq.trans (by rw [← hw2105]; exact e_up_ne _ _ (Or.inr (by decide))) u1968.out)
            have u2110 : Hid (w2105 275 81 = 3 * w 275 79) := Hid.mk (by rw [← hw2105]; exact e_up_eq _ _ _ _)
            have u2111 : Hid (w2105 275 82 = w 275 82) := Hid.mk (Eq.trans (by rw [← hw2105]; exact e_up_ne _ _ (Or.inr (by decide))) u1970.out)
            have u2112 : Hid (w2105 275 83 = w 275 83 + 1) := Hid.mk (Eq.trans (by rw [← hw2105]; exact e_up_ne _ _ (Or.inr (by decide))) u1971.out)
            have u2113 : Hid (w2105 275 84 = w 275 84) := Hid.mk (Eq.trans (by rw [← hw2105]; exact e_up_ne _ _ (Or.inr (by decide))) u1972.out)
            have u2114 : Hid (w2105 275 85 = w 275 85) := Hid.mk (Eq.trans (by rw [← hw2105]; exact e_up_ne _ _ (Or.inr (by decide))) u1973.out)
            have u2115 : Hid (w2105 275 86 = w 275 86) := Hid.mk (Eq.trans (by rw [← hw2105]; exact e_up_ne _ _ (Or.inr (by decide))) u1974.out)
            have u2117 : Hid (w2105 275 88 = w1963 275 88) := Hid.mk (by rw [← hw2105]; exact e_up_ne _ _ (Or.inr (by decide)))
            have u2118 : Hid (w2105 275 94 = w 275 94) := Hid.mk (Eq.trans (by rw [← hw2105]; exact e_up_ne _ _ (Or.inr (by decide))) u1976.out)
            have c2119 := cSt.wr c1977 hw2105 (Or.inr rfl) (by omega) rfl (fun _ => ⟨⟨by decide, by decide⟩, fun y => by omega⟩)
            refine e_Ok.run (t' := (87, [(3, (0, w 275 79 + 3600)), (2, (0, w 275 79)), (1, (0, w 275 81)), (0, (1, 275))], [(1, 275)], w2105)) 1 rfl ?_
            refine e_Ok.callV rfl (Nat.le_trans (by decide) hdq) rfl rfl rfl rfl (c_348_0 (Nat.le_trans (by decide) hdq) c2119 (by rw [u2117.out] <;> omega)) (fun r2120 w2121 h2122 => ?_)
            obtain ⟨rfl, rfl⟩ := h2122
            show e_Ok 20 elay ecode eI (d + 1) 352 (90, [(3, (0, w 275 79 + 3600)), (2, (0, w 275 79)), (1, (0, w 275 81)), (0, (1, 275))], [], w2105) _
            refine e_Ok.run (t' := (94, [(3, (0, w 275 79 + 3600)), (2, (0, w 275 79)), (1, (0, w 275 81)), (0, (1, 275))], [(0, w 275 79), (0, 49), (1, 275)], w2105)) 3 rfl ?_
            refine e_Ok.callV rfl (Nat.le_trans (by decide) hdq) rfl rfl rfl rfl (c_336 c2119.1 (n := w 275 78 + 1) u2107.out (by omega) (s := 3 * w 275 79) u2110.out (by omega)) (fun r2123 w2124 h2125 => ?_)
            obtain ⟨rfl, q2126⟩ := h2125
            replace q2126 := (show Hid (EM w2105 w2124 (w 275 78 + 1) 49 (w 275 79) (3 * w 275 79)) from q2126)
            have u2127 : Hid (w2124 275 78 = w 275 78 + 2) := Hid.mk (Eq.trans q2126.out.2.2.2.2 (by omega))
            have u2128 : Hid (w2124 275 79 = w 275 79 + 1) := Hid.mk (Eq.trans (q2126.out.fld (by decide)) u2108.out)
            have u2129 : Hid (w2124 275 80 = w 275 80) := Hid.mk (Eq.trans (q2126.out.fld (by decide)) u2109.out)
            have u2131 : Hid (w2124 275 82 = w 275 82) := Hid.mk (Eq.trans (q2126.out.fld (by decide)) u2111.out)
            have u2132 : Hid (w2124 275 83 = w 275 83 + 1) := Hid.mk (Eq.trans (q2126.out.fld (by decide)) u2112.out)
            have u2133 : Hid (w2124 275 84 = w 275 84) := Hid.mk (Eq.trans (q2126.out.fld (by decide)) u2113.out)
            have u2134 : Hid (w2124 275 85 = w 275 85) := Hid.mk (Eq.trans (q2126.out.fld (by decide)) u2114.out)
            have u2135 : Hid (w2124 275 86 = w 275 86) := Hid.mk (Eq.trans (q2126.out.fld (by decide)) u2115.out)
            have u2137 : Hid (w2124 275 88 = w1963 275 88) := Hid.mk (Eq.trans (q2126.out.fld (by decide)) u2117.out)
            have u2138 : Hid (w2124 275 94 = w 275 94) := Hid.mk (Eq.trans (q2126.out.fld (by decide)) u2118.out)
            have f2139 : e_fr (mStm (w 275 78) (w 275 79) (w 275 80) (w 275 94)) w w2124 := e_fr.trans f2106 (q2126.out.st (by omega))
            have c2140 := cSt.em c2119 q2126.out (by decide) (by omega) (by omega)
            show e_Ok 20 elay ecode eI (d + 1) 352 (97, [(3, (0, w 275 79 + 3600)), (2, (0, w 275 79)), (1, (0, w 275 81)), (0, (1, 275))], [(0, w 275 78 + 1)], w2124) _
            refine e_Ok.run (t' := (99, [(3, (0, w 275 79 + 3600)), (2, (0, w 275 79)), (1, (0, w 275 81)), (0, (1, 275))], [(1, 275)], w2124)) 2 rfl ?_
            refine e_Ok.getf (z := w1963 275 88) rfl (el_o rfl) rfl rfl u2137.out (by omega) ?_
            refine e_Ok.if1 rfl (fun h2141 => ?_) (fun h2141 => ?_)
            · replace h2141 : (w1963 275 88 : Int) ≠ 0 := h2141
              refine e_Ok.run (t' := (160, [(3, (0, w 275 79 + 3600)), (2, (0, w 275 79)), (1, (0, w 275 81)), (0, (1, 275))], [(1, 275)], w2124)) 1 rfl ?_
              refine e_Ok.getf (z := w1963 275 88) rfl (el_o rfl) rfl rfl u2137.out (by omega) ?_
              refine e_Ok.if1 rfl (fun h2142 => ?_) (fun h2142 => ?_)
              · replace h2142 : (w1963 275 88 : Int) ≠ 0 := h2142
                refine e_Ok.run (t' := (222, [(3, (0, w 275 79 + 3600)), (2, (0, w 275 79)), (1, (0, w 275 81)), (0, (1, 275))], [(0, w 275 81), (1, 275)], w2124)) 2 rfl ?_
                refine e_Ok.putf rfl (el_o rfl) rfl rfl ?_
                generalize hw2143 : e_up w2124 275 81 (w 275 81) = w2143
                have f2144 : e_fr (mStm (w 275 78) (w 275 79) (w 275 80) (w 275 94)) w w2143 := e_fr.up f2139 hw2143 (by unfold mStm; omega)
                have u2145 : Hid (w2143 275 78 = w 275 78 + 2) := Hid.mk (Eq.trans (by rw [← hw2143]; exact e_up_ne _ _ (Or.inr (by decide))) u2127.out)
                have u2146 : Hid (w2143 275 79 = w 275 79 + 1) := Hid.mk (Eq.trans (by rw [← hw2143]; exact e_up_ne _ _ (Or.inr (by decide))) u2128.out)
                have u2147 : Hid (w2143 275 80 = w 275 80) := Hid.mk (Eq.trans (by rw [← hw2143]; exact e_up_ne _ _ (Or.inr (by decide))) u2129.out)
                have u2148 : Hid (w2143 275 81 = w 275 81) := Hid.mk (by rw [← hw2143]; exact e_up_eq _ _ _ _)
                have u2149 : Hid (w2143 275 82 = w 275 82) := Hid.mk (Eq.trans (by rw [← hw2143]; exact e_up_ne _ _ (Or.inr (by decide))) u2131.out)
                have u2150 : Hid (w2143 275 83 = w 275 83 + 1) := Hid.mk (Eq.trans (by rw [← hw2143]; exact e_up_ne _ _ (Or.inr (by decide))) u2132.out)
                have u2151 : Hid (w2143 275 84 = w 275 84) := Hid.mk (Eq.trans (by rw [← hw2143]; exact e_up_ne _ _ (Or.inr (by decide))) u2133.out)
                have u2152 : Hid (w2143 275 85 = w 275 85) := Hid.mk (Eq.trans (by rw [← hw2143]; exact e_up_ne _ _ (Or.inr (by decide))) u2134.out)
                have u2153 : Hid (w2143 275 86 = w 275 86) := Hid.mk (Eq.trans (by rw [← hw2143]; exact e_up_ne _ _ (Or.inr (by decide))) u2135.out)
                have u2155 : Hid (w2143 275 88 = w1963 275 88) := Hid.mk (Eq.trans (by rw [← hw2143]; exact e_up_ne _ _ (Or.inr (by decide))) u2137.out)
                have u2156 : Hid (w2143 275 94 = w 275 94) := Hid.mk (Eq.trans (by rw [← hw2143]; exact e_up_ne _ _ (Or.inr (by decide))) u2138.out)
                have c2157 := cSt.wr c2140 hw2143 (Or.inr rfl) (by omega) rfl (fun _ => ⟨⟨by decide, by decide⟩, fun y => by omega⟩)
                refine e_Ok.run (t' := (226, [(3, (0, w 275 79 + 3600)), (2, (0, w 275 79)), (1, (0, w 275 81)), (0, (1, 275))], [(1, 275)], w2143)) 1 rfl ?_
                refine e_Ok.getr (z := 334) rfl (el_o rfl) rfl rfl ((f2144 275 71 (by unfold mStm; omega)).trans (e_Has.eq hc.1 rfl)) (by omega) ?_
                refine e_Ok.run (t' := (231, [(3, (0, w 275 79 + 3600)), (2, (0, w 275 79)), (1, (0, w 275 81)), (0, (1, 275))], [(1, 275), (0, w 275 79 + 3600), (1, 334)], w2143)) 2 rfl ?_
                refine e_Ok.getf (z := w 275 78 + 2) rfl (el_o rfl) rfl rfl u2145.out (by omega) ?_
                refine e_Ok.ast rfl (el_o rfl) rfl rfl (by omega) ?_
                generalize hw2158 : e_up w2143 334 (w 275 79 + 3600) (w 275 78 + 2) = w2158
                have f2159 : e_fr (mStm (w 275 78) (w 275 79) (w 275 80) (w 275 94)) w w2158 := e_fr.up f2144 hw2158 (by unfold mStm; omega)
                have u2160 : Hid (w2158 275 78 = w 275 78 + 2) := Hid.mk (Eq.trans (by rw [← hw2158]; exact e_up_ne _ _ (Or.inl (by decide))) u2145.out)
                have u2161 : Hid (w2158 275 79 = w 275 79 + 1) := Hid.mk (Eq.trans (by rw [← hw2158]; exact e_up_ne _ _ (Or.inl (by decide))) u2146.out)
                have u2162 : Hid (w2158 275 80 = w 275 80) := Hid.mk (Eq.trans (by rw [← hw2158]; exact e_up_ne _ _ (Or.inl (by decide))) u2147.out)
                have u2163 : Hid (w2158 275 81 = w 275 81) := Hid.mk (Eq.trans (by rw [← hw2158]; exact e_up_ne _ _ (Or.inl (by decide))) u2148.out)
                have u2164 : Hid (w2158 275 82 = w 275 82) := Hid.mk (Eq.trans (by rw [← hw2158]; exact e_up_ne _ _ (Or.inl (by decide))) u2149.out)
                have u2165 : Hid (w2158 275 83 = w 275 83 + 1) := Hid.mk (Eq.trans (by rw [← hw2158]; exact e_up_ne _ _ (Or.inl (by decide))) u2150.out)
                have u2166 : Hid (w2158 275 84 = w 275 84) := Hid.mk (Eq.trans (by rw [← hw2158]; exact e_up_ne _ _ (Or.inl (by decide))) u2151.out)
                have u2167 : Hid (w2158 275 85 = w 275 85) := Hid.mk (Eq.trans (by rw [← hw2158]; exact e_up_ne _ _ (Or.inl (by decide))) u2152.out)
                have u2168 : Hid (w2158 275 86 = w 275 86) := Hid.mk (Eq.trans (by rw [← hw2158]; exact e_up_ne _ _ (Or.inl (by decide))) u2153.out)
                have u2170 : Hid (w2158 275 88 = w1963 275 88) := Hid.mk (Eq.trans (by rw [← hw2158]; exact e_up_ne _ _ (Or.inl (by decide))) u2155.out)
                have u2171 : Hid (w2158 275 94 = w 275 94) := Hid.mk (Eq.trans (by rw [← hw2158]; exact e_up_ne _ _ (Or.inl (by decide))) u2156.out)
                have c2172 := cSt.wr c2157 hw2158 (Or.inl rfl) (by omega) rfl (fun y => absurd y (by decide))
                refine e_Ok.run (t' := (238, [(3, (0, w 275 79 + 3600)), (2, (0, w 275 79)), (1, (0, w 275 81)), (0, (1, 275))], [(0, 2), (1, 275), (1, 275)], w2158)) 3 rfl ?_
                refine e_Ok.callV rfl (Nat.le_trans (by decide) hdq) rfl rfl rfl rfl (c_332 c2172.1 (N := N) c2172.2.2.2.1) (fun r2173 w2174 h2175 => ?_)
                obtain ⟨z2176, rfl, rfl, q2177⟩ := h2175
                obtain ⟨rfl, q2177, q2177b⟩ | ⟨rfl, q2177n⟩ := q2177
                · show e_Ok 20 elay ecode eI (d + 1) 352 (241, [(3, (0, w 275 79 + 3600)), (2, (0, w 275 79)), (1, (0, w 275 81)), (0, (1, 275))], [(0, 1), (1, 275)], w2158) _
                  rw [u2166.out] at q2177
                  rw [u2167.out] at q2177b
                  refine e_Ok.callV rfl (Nat.le_trans (by decide) hdq) rfl rfl rfl rfl (c_334 (Nat.le_trans (by decide) hdq) c2172.1 c2172.2.1 c2172.2.2.1 hNr c2172.2.2.2.1 (by decide)) (fun r2178 w2179 h2180 => ?_)
                  obtain ⟨rfl, q2181⟩ := h2180
                  obtain ⟨rfl, q2181z⟩ | ⟨q2181z, q2181b, q2181, q2181s, q2181t⟩ | ⟨q2181z, q2181b, q2181, q2181T, q2181H, q2181r⟩ := q2181
                  · show e_Ok 20 elay ecode eI (d + 1) 352 (244, [(3, (0, w 275 79 + 3600)), (2, (0, w 275 79)), (1, (0, w 275 81)), (0, (1, 275))], [], w2158) _
                    rw [u2170.out] at q2181z
                    refine e_Ok.run (t' := (246, [(3, (0, w 275 79 + 3600)), (2, (0, w 275 79)), (1, (0, w 275 81)), (0, (1, 275))], [(1, 275), (1, 275)], w2158)) 2 rfl ?_
                    refine e_Ok.getf (z := w 275 83 + 1) rfl (el_o rfl) rfl rfl u2165.out (by omega) ?_
                    refine e_Ok.run (t' := (250, [(3, (0, w 275 79 + 3600)), (2, (0, w 275 79)), (1, (0, w 275 81)), (0, (1, 275))], [(0, 1), (0, w 275 83 + 1), (1, 275)], w2158)) 1 rfl ?_
                    refine e_Ok.sub' (z := w 275 83) rfl (by omega) (by omega) ?_
                    refine e_Ok.putf rfl (el_o rfl) rfl rfl ?_
                    generalize hw2182 : e_up w2158 275 83 (w 275 83) = w2182
                    have f2183 : e_fr (mStm (w 275 78) (w 275 79) (w 275 80) (w 275 94)) w w2182 := e_fr.up f2159 hw2182 (by unfold mStm; omega)
                    have e2184 := up83 hw2182
                    replace e2184 := (show Hid _ from e2184)
                    have u2185 : Hid (w2182 275 78 = w 275 78 + 2) := Hid.mk (Eq.trans (e2184.out.1 275 78 (by decide)) u2160.out)
                    have u2186 : Hid (w2182 275 79 = w 275 79 + 1) := Hid.mk (Eq.trans (e2184.out.1 275 79 (by decide)) u2161.out)
                    have u2187 : Hid (w2182 275 80 = w 275 80) := Hid.mk (Eq.trans (e2184.out.1 275 80 (by decide)) u2162.out)
                    have u2188 : Hid (w2182 275 81 = w 275 81) := Hid.mk (Eq.trans (e2184.out.1 275 81 (by decide)) u2163.out)
                    have u2189 : Hid (w2182 275 82 = w 275 82) := Hid.mk (Eq.trans (e2184.out.1 275 82 (by decide)) u2164.out)
                    have u2190 : Hid (w2182 275 83 = w 275 83) := Hid.mk (e2184.out.2)
                    have u2193 : Hid (w2182 275 86 = w 275 86) := Hid.mk (Eq.trans (e2184.out.1 275 86 (by decide)) u2168.out)
                    have u2195 : Hid (w2182 275 88 = w1963 275 88) := Hid.mk (Eq.trans (e2184.out.1 275 88 (by decide)) u2170.out)
                    have u2196 : Hid (w2182 275 94 = w 275 94) := Hid.mk (Eq.trans (e2184.out.1 275 94 (by decide)) u2171.out)
                    have c2197 := cSt.up c2172 hw2182
                    refine e_Ok.rets rfl rfl ?_
                    exact ⟨rfl, f2183, c2197, (by unfold stL; rw [u2185.out, u2186.out, u2187.out, u2188.out, u2189.out, u2190.out, u2193.out, u2195.out, u2196.out]; omega), (fun z => by rw [u2195.out] at z; exact absurd z (by omega))⟩
                  · rw [u2170.out] at q2181z; exact absurd q2181z (by omega)
                  · rw [u2170.out] at q2181z; exact absurd q2181z (by omega)
                · show e_Ok 20 elay ecode eI (d + 1) 352 (241, [(3, (0, w 275 79 + 3600)), (2, (0, w 275 79)), (1, (0, w 275 81)), (0, (1, 275))], [(0, 0), (1, 275)], w2158) _
                  clear q2177n
                  refine e_Ok.callV rfl (Nat.le_trans (by decide) hdq) rfl rfl rfl rfl (c_334 (Nat.le_trans (by decide) hdq) c2172.1 c2172.2.1 c2172.2.2.1 hNr c2172.2.2.2.1 (by decide)) (fun r2198 w2199 h2200 => ?_)
                  obtain ⟨rfl, q2201⟩ := h2200
                  obtain ⟨rfl, q2201z⟩ | ⟨q2201z, q2201b, q2201, q2201s, q2201t⟩ | ⟨q2201z, q2201b, q2201, q2201T, q2201H, q2201r⟩ := q2201
                  · show e_Ok 20 elay ecode eI (d + 1) 352 (244, [(3, (0, w 275 79 + 3600)), (2, (0, w 275 79)), (1, (0, w 275 81)), (0, (1, 275))], [], w2158) _
                    rw [u2170.out] at q2201z
                    refine e_Ok.run (t' := (246, [(3, (0, w 275 79 + 3600)), (2, (0, w 275 79)), (1, (0, w 275 81)), (0, (1, 275))], [(1, 275), (1, 275)], w2158)) 2 rfl ?_
                    refine e_Ok.getf (z := w 275 83 + 1) rfl (el_o rfl) rfl rfl u2165.out (by omega) ?_
                    refine e_Ok.run (t' := (250, [(3, (0, w 275 79 + 3600)), (2, (0, w 275 79)), (1, (0, w 275 81)), (0, (1, 275))], [(0, 1), (0, w 275 83 + 1), (1, 275)], w2158)) 1 rfl ?_
                    refine e_Ok.sub' (z := w 275 83) rfl (by omega) (by omega) ?_
                    refine e_Ok.putf rfl (el_o rfl) rfl rfl ?_
                    generalize hw2202 : e_up w2158 275 83 (w 275 83) = w2202
                    have f2203 : e_fr (mStm (w 275 78) (w 275 79) (w 275 80) (w 275 94)) w w2202 := e_fr.up f2159 hw2202 (by unfold mStm; omega)
                    have e2204 := up83 hw2202
                    replace e2204 := (show Hid _ from e2204)
                    have u2205 : Hid (w2202 275 78 = w 275 78 + 2) := Hid.mk (Eq.trans (e2204.out.1 275 78 (by decide)) u2160.out)
                    have u2206 : Hid (w2202 275 79 = w 275 79 + 1) := Hid.mk (Eq.trans (e2204.out.1 275 79 (by decide)) u2161.out)
                    have u2207 : Hid (w2202 275 80 = w 275 80) := Hid.mk (Eq.trans (e2204.out.1 275 80 (by decide)) u2162.out)
                    have u2208 : Hid (w2202 275 81 = w 275 81) := Hid.mk (Eq.trans (e2204.out.1 275 81 (by decide)) u2163.out)
                    have u2209 : Hid (w2202 275 82 = w 275 82) := Hid.mk (Eq.trans (e2204.out.1 275 82 (by decide)) u2164.out)
                    have u2210 : Hid (w2202 275 83 = w 275 83) := Hid.mk (e2204.out.2)
                    have u2213 : Hid (w2202 275 86 = w 275 86) := Hid.mk (Eq.trans (e2204.out.1 275 86 (by decide)) u2168.out)
                    have u2215 : Hid (w2202 275 88 = w1963 275 88) := Hid.mk (Eq.trans (e2204.out.1 275 88 (by decide)) u2170.out)
                    have u2216 : Hid (w2202 275 94 = w 275 94) := Hid.mk (Eq.trans (e2204.out.1 275 94 (by decide)) u2171.out)
                    have c2217 := cSt.up c2172 hw2202
                    refine e_Ok.rets rfl rfl ?_
                    exact ⟨rfl, f2203, c2217, (by unfold stL; rw [u2205.out, u2206.out, u2207.out, u2208.out, u2209.out, u2210.out, u2213.out, u2215.out, u2216.out]; omega), (fun z => by rw [u2215.out] at z; exact absurd z (by omega))⟩
                  · rw [u2170.out] at q2201z; exact absurd q2201z (by omega)
                  · rw [u2170.out] at q2201z; exact absurd q2201z (by omega)
              · replace h2142 : (w1963 275 88 : Int) = 0 := by have q : ¬ ((w1963 275 88 : Int) ≠ 0) := h2142; omega
                exfalso; omega
            · replace h2141 : (w1963 275 88 : Int) = 0 := by have q : ¬ ((w1963 275 88 : Int) ≠ 0) := h2141; omega
              exfalso; omega
          · exact absurd q2104z (by omega)
          · exact absurd q2104z (by omega)
  · show e_Ok 20 elay ecode eI (d + 1) 352 (4, [(0, (1, 275))], [], w2) _
    have u2218 : Hid (w5 275 78 = w 275 78) := Hid.mk (q4 275 78 (mRf_fld (by decide)))
    have u2219 : Hid (w5 275 79 = w 275 79) := Hid.mk (q4 275 79 (mRf_fld (by decide)))
    have u2220 : Hid (w5 275 80 = w 275 80) := Hid.mk (q4 275 80 (mRf_fld (by decide)))
    have u2221 : Hid (w5 275 81 = w 275 81) := Hid.mk (q4 275 81 (mRf_fld (by decide)))
    have u2222 : Hid (w5 275 82 = w 275 82) := Hid.mk (q4 275 82 (mRf_fld (by decide)))
    have u2224 : Hid (w5 275 84 = w 275 84) := Hid.mk (q4 275 84 (mRf_fld (by decide)))
    have u2225 : Hid (w5 275 85 = w 275 85) := Hid.mk (q4 275 85 (mRf_fld (by decide)))
    have u2226 : Hid (w5 275 86 = w 275 86) := Hid.mk (q4 275 86 (mRf_fld (by decide)))
    have u2228 : Hid (w5 275 94 = w 275 94) := Hid.mk (q4 275 94 (mRf_fld (by decide)))
    have c2229 := cSt.rf hc q4 q4T q4H
    have f2230 : e_fr (mStm (w 275 78) (w 275 79) (w 275 80) (w 275 94)) w w5 := e_fr.trans (e_fr.refl w) (e_fr.mono q4 (fun c k g => mRf_St g))
    have e2231 := up83 q4u
    replace e2231 := (show Hid _ from e2231)
    have u2232 : Hid (w2 275 78 = w 275 78) := Hid.mk (Eq.trans (e2231.out.1 275 78 (by decide)) u2218.out)
    have u2233 : Hid (w2 275 79 = w 275 79) := Hid.mk (Eq.trans (e2231.out.1 275 79 (by decide)) u2219.out)
    have u2234 : Hid (w2 275 80 = w 275 80) := Hid.mk (Eq.trans (e2231.out.1 275 80 (by decide)) u2220.out)
    have u2235 : Hid (w2 275 81 = w 275 81) := Hid.mk (Eq.trans (e2231.out.1 275 81 (by decide)) u2221.out)
    have u2236 : Hid (w2 275 82 = w 275 82) := Hid.mk (Eq.trans (e2231.out.1 275 82 (by decide)) u2222.out)
    have u2237 : Hid (w2 275 83 = w 275 83 + 1) := Hid.mk (e2231.out.2)
    have u2238 : Hid (w2 275 84 = w 275 84) := Hid.mk (Eq.trans (e2231.out.1 275 84 (by decide)) u2224.out)
    have u2239 : Hid (w2 275 85 = w 275 85) := Hid.mk (Eq.trans (e2231.out.1 275 85 (by decide)) u2225.out)
    have u2240 : Hid (w2 275 86 = w 275 86) := Hid.mk (Eq.trans (e2231.out.1 275 86 (by decide)) u2226.out)
    have u2242 : Hid (w2 275 88 = w5 275 88) := Hid.mk (e2231.out.1 275 88 (by decide))
    have u2243 : Hid (w2 275 94 = w 275 94) := Hid.mk (Eq.trans (e2231.out.1 275 94 (by decide)) u2228.out)
    have c2244 := cSt.up c2229 q4u
    have f2245 : e_fr (mStm (w 275 78) (w 275 79) (w 275 80) (w 275 94)) w w2 := e_fr.trans f2230 (fun c k g => e2231.out.1 c k (fun g2 => g (mU_St g2)))
    refine e_Ok.run (t' := (8, [(0, (1, 275))], [(0, 0), (0, 30), (1, 275)], w2)) 3 rfl ?_
    refine e_Ok.callV rfl (Nat.le_trans (by decide) hdq) rfl rfl rfl rfl (c_336 c2244.1 (n := w 275 78) u2232.out (by omega) (s := w 275 81) u2235.out (by omega)) (fun r2246 w2247 h2248 => ?_)
    obtain ⟨rfl, q2249⟩ := h2248
    replace q2249 := (show Hid (EM w2 w2247 (w 275 78) 30 (0) (w 275 81)) from q2249)
    have u2250 : Hid (w2247 275 78 = w 275 78 + 1) := Hid.mk (Eq.trans q2249.out.2.2.2.2 (by omega))
    have u2251 : Hid (w2247 275 79 = w 275 79) := Hid.mk (Eq.trans (q2249.out.fld (by decide)) u2233.out)
    have u2252 : Hid (w2247 275 80 = w 275 80) := Hid.mk (Eq.trans (q2249.out.fld (by decide)) u2234.out)
    have u2253 : Hid (w2247 275 81 = w 275 81) := Hid.mk (Eq.trans (q2249.out.fld (by decide)) u2235.out)
    have u2254 : Hid (w2247 275 82 = w 275 82) := Hid.mk (Eq.trans (q2249.out.fld (by decide)) u2236.out)
    have u2255 : Hid (w2247 275 83 = w 275 83 + 1) := Hid.mk (Eq.trans (q2249.out.fld (by decide)) u2237.out)
    have u2256 : Hid (w2247 275 84 = w 275 84) := Hid.mk (Eq.trans (q2249.out.fld (by decide)) u2238.out)
    have u2257 : Hid (w2247 275 85 = w 275 85) := Hid.mk (Eq.trans (q2249.out.fld (by decide)) u2239.out)
    have u2258 : Hid (w2247 275 86 = w 275 86) := Hid.mk (Eq.trans (q2249.out.fld (by decide)) u2240.out)
    have u2260 : Hid (w2247 275 88 = w5 275 88) := Hid.mk (Eq.trans (q2249.out.fld (by decide)) u2242.out)
    have u2261 : Hid (w2247 275 94 = w 275 94) := Hid.mk (Eq.trans (q2249.out.fld (by decide)) u2243.out)
    have f2262 : e_fr (mStm (w 275 78) (w 275 79) (w 275 80) (w 275 94)) w w2247 := e_fr.trans f2245 (q2249.out.st (by omega))
    have c2263 := cSt.em c2244 q2249.out (by decide) (by omega) (by omega)
    show e_Ok 20 elay ecode eI (d + 1) 352 (11, [(0, (1, 275))], [(0, w 275 78)], w2247) _
    refine e_Ok.run (t' := (13, [(0, (1, 275))], [(1, 275)], w2247)) 2 rfl ?_
    refine e_Ok.getf (z := w 275 81) rfl (el_o rfl) rfl rfl u2253.out (by omega) ?_
    refine e_Ok.run (t' := (18, [(1, (0, w 275 81)), (0, (1, 275))], [(1, 275)], w2247)) 2 rfl ?_
    refine e_Ok.getf (z := w 275 79) rfl (el_o rfl) rfl rfl u2251.out (by omega) ?_
    refine e_Ok.run (t' := (24, [(2, (0, w 275 79)), (1, (0, w 275 81)), (0, (1, 275))], [(1, 275), (1, 275)], w2247)) 3 rfl ?_
    refine e_Ok.getf (z := w 275 79) rfl (el_o rfl) rfl rfl u2251.out (by omega) ?_
    refine e_Ok.run (t' := (28, [(2, (0, w 275 79)), (1, (0, w 275 81)), (0, (1, 275))], [(0, 1), (0, w 275 79), (1, 275)], w2247)) 1 rfl ?_
    refine e_Ok.add (z := w 275 79 + 1) rfl (by omega) (by omega) ?_
    refine e_Ok.putf rfl (el_o rfl) rfl rfl ?_
    generalize hw2264 : e_up w2247 275 79 (w 275 79 + 1) = w2264
    have f2265 : e_fr (mStm (w 275 78) (w 275 79) (w 275 80) (w 275 94)) w w2264 := e_fr.up f2262 hw2264 (by unfold mStm; omega)
    have u2266 : Hid (w2264 275 78 = w 275 78 + 1) := Hid.mk (Eq.trans (by rw [← hw2264]; exact e_up_ne _ _ (Or.inr (by decide))) u2250.out)
    have u2267 : Hid (w2264 275 79 = w 275 79 + 1) := Hid.mk (by rw [← hw2264]; exact e_up_eq _ _ _ _)
    have u2268 : Hid (w2264 275 80 = w 275 80) := Hid.mk (Eq.trans (by rw [← hw2264]; exact e_up_ne _ _ (Or.inr (by decide))) u2252.out)
    have u2270 : Hid (w2264 275 82 = w 275 82) := Hid.mk (Eq.trans (by rw [← hw2264]; exact e_up_ne _ _ (Or.inr (by decide))) u2254.out)
    have u2271 : Hid (w2264 275 83 = w 275 83 + 1) := Hid.mk (Eq.trans (by rw [← hw2264]; exact e_up_ne _ _ (Or.inr (by decide))) u2255.out)
    have u2272 : Hid (w2264 275 84 = w 275 84) := Hid.mk (Eq.trans (by rw [← hw2264]; exact e_up_ne _ _ (Or.inr (by decide))) u2256.out)
    have u2273 : Hid (w2264 275 85 = w 275 85) := Hid.mk (Eq.trans (by rw [← hw2264]; exact e_up_ne _ _ (Or.inr (by decide))) u2257.out)
    have u2274 : Hid (w2264 275 86 = w 275 86) := Hid.mk (Eq.trans (by rw [← hw2264]; exact e_up_ne _ _ (Or.inr (by decide))) u2258.out)
    have u2276 : Hid (w2264 275 88 = w5 275 88) := Hid.mk (Eq.trans (by rw [← hw2264]; exact e_up_ne _ _ (Or.inr (by decide))) u2260.out)
    have u2277 : Hid (w2264 275 94 = w 275 94) := Hid.mk (Eq.trans (by rw [← hw2264]; exact e_up_ne _ _ (Or.inr (by decide))) u2261.out)
    have c2278 := cSt.wr c2263 hw2264 (Or.inr rfl) (by omega) rfl (fun _ => ⟨⟨by decide, by decide⟩, fun y => absurd y (by decide)⟩)
    refine e_Ok.run (t' := (36, [(2, (0, w 275 79)), (1, (0, w 275 81)), (0, (1, 275))], [(0, w 275 79), (0, 3600)], w2264)) 2 rfl ?_
    refine e_Ok.add (z := w 275 79 + 3600) rfl (by omega) (by omega) ?_
    refine e_Ok.run (t' := (39, [(3, (0, w 275 79 + 3600)), (2, (0, w 275 79)), (1, (0, w 275 81)), (0, (1, 275))], [(1, 275)], w2264)) 2 rfl ?_
    refine e_Ok.getr (z := 331) rfl (el_o rfl) rfl rfl ((f2265 275 68 (by unfold mStm; omega)).trans (e_Has.eq hc.1 rfl)) (by omega) ?_
    refine e_Ok.run (t' := (44, [(3, (0, w 275 79 + 3600)), (2, (0, w 275 79)), (1, (0, w 275 81)), (0, (1, 275))], [(0, w 275 81), (0, w 275 79 + 3600), (1, 331)], w2264)) 2 rfl ?_
    refine e_Ok.ast rfl (el_o rfl) rfl rfl (by omega) ?_
    generalize hw2279 : e_up w2264 331 (w 275 79 + 3600) (w 275 81) = w2279
    have f2280 : e_fr (mStm (w 275 78) (w 275 79) (w 275 80) (w 275 94)) w w2279 := e_fr.up f2265 hw2279 (by unfold mStm; omega)
    have u2281 : Hid (w2279 275 78 = w 275 78 + 1) := Hid.mk (Eq.trans (by rw [← hw2279]; exact e_up_ne _ _ (Or.inl (by decide))) u2266.out)
    have u2282 : Hid (w2279 275 79 = w 275 79 + 1) := Hid.mk (Eq.trans (by rw [← hw2279]; exact e_up_ne _ _ (Or.inl (by decide))) u2267.out)
    have u2283 : Hid (w2279 275 80 = w 275 80) := Hid.mk (Eq.trans (by rw [← hw2279]; exact e_up_ne _ _ (Or.inl (by decide))) u2268.out)
    have u2285 : Hid (w2279 275 82 = w 275 82) := Hid.mk (Eq.trans (by rw [← hw2279]; exact e_up_ne _ _ (Or.inl (by decide))) u2270.out)
    have u2286 : Hid (w2279 275 83 = w 275 83 + 1) := Hid.mk (Eq.trans (by rw [← hw2279]; exact e_up_ne _ _ (Or.inl (by decide))) u2271.out)
    have u2287 : Hid (w2279 275 84 = w 275 84) := Hid.mk (Eq.trans (by rw [← hw2279]; exact e_up_ne _ _ (Or.inl (by decide))) u2272.out)
    have u2288 : Hid (w2279 275 85 = w 275 85) := Hid.mk (Eq.trans (by rw [← hw2279]; exact e_up_ne _ _ (Or.inl (by decide))) u2273.out)
    have u2289 : Hid (w2279 275 86 = w 275 86) := Hid.mk (Eq.trans (by rw [← hw2279]; exact e_up_ne _ _ (Or.inl (by decide))) u2274.out)
    have u2291 : Hid (w2279 275 88 = w5 275 88) := Hid.mk (Eq.trans (by rw [← hw2279]; exact e_up_ne _ _ (Or.inl (by decide))) u2276.out)
    have u2292 : Hid (w2279 275 94 = w 275 94) := Hid.mk (Eq.trans (by rw [← hw2279]; exact e_up_ne _ _ (Or.inl (by decide))) u2277.out)
    have c2293 := cSt.wr c2278 hw2279 (Or.inl rfl) (by omega) rfl (fun y => absurd y (by decide))
    refine e_Ok.run (t' := (46, [(3, (0, w 275 79 + 3600)), (2, (0, w 275 79)), (1, (0, w 275 81)), (0, (1, 275))], [(1, 275)], w2279)) 1 rfl ?_
    refine e_Ok.getr (z := 332) rfl (el_o rfl) rfl rfl ((f2280 275 69 (by unfold mStm; omega)).trans (e_Has.eq hc.1 rfl)) (by omega) ?_
    refine e_Ok.run (t' := (51, [(3, (0, w 275 79 + 3600)), (2, (0, w 275 79)), (1, (0, w 275 81)), (0, (1, 275))], [(0, (-1)), (0, w 275 79 + 3600), (1, 332)], w2279)) 2 rfl ?_
    refine e_Ok.ast rfl (el_o rfl) rfl rfl (by omega) ?_
    generalize hw2294 : e_up w2279 332 (w 275 79 + 3600) (-1) = w2294
    have f2295 : e_fr (mStm (w 275 78) (w 275 79) (w 275 80) (w 275 94)) w w2294 := e_fr.up f2280 hw2294 (by unfold mStm; omega)
    have u2296 : Hid (w2294 275 78 = w 275 78 + 1) := Hid.mk (Eq.trans (by rw [← hw2294]; exact e_up_ne _ _ (Or.inl (by decide))) u2281.out)
    have u2297 : Hid (w2294 275 79 = w 275 79 + 1) := Hid.mk (Eq.trans (by rw [← hw2294]; exact e_up_ne _ _ (Or.inl (by decide))) u2282.out)
    have u2298 : Hid (w2294 275 80 = w 275 80) := Hid.mk (Eq.trans (by rw [← hw2294]; exact e_up_ne _ _ (Or.inl (by decide))) u2283.out)
    have u2300 : Hid (w2294 275 82 = w 275 82) := Hid.mk (Eq.trans (by rw [← hw2294]; exact e_up_ne _ _ (Or.inl (by decide))) u2285.out)
    have u2301 : Hid (w2294 275 83 = w 275 83 + 1) := Hid.mk (Eq.trans (by rw [← hw2294]; exact e_up_ne _ _ (Or.inl (by decide))) u2286.out)
    have u2302 : Hid (w2294 275 84 = w 275 84) := Hid.mk (Eq.trans (by rw [← hw2294]; exact e_up_ne _ _ (Or.inl (by decide))) u2287.out)
    have u2303 : Hid (w2294 275 85 = w 275 85) := Hid.mk (Eq.trans (by rw [← hw2294]; exact e_up_ne _ _ (Or.inl (by decide))) u2288.out)
    have u2304 : Hid (w2294 275 86 = w 275 86) := Hid.mk (Eq.trans (by rw [← hw2294]; exact e_up_ne _ _ (Or.inl (by decide))) u2289.out)
    have u2306 : Hid (w2294 275 88 = w5 275 88) := Hid.mk (Eq.trans (by rw [← hw2294]; exact e_up_ne _ _ (Or.inl (by decide))) u2291.out)
    have u2307 : Hid (w2294 275 94 = w 275 94) := Hid.mk (Eq.trans (by rw [← hw2294]; exact e_up_ne _ _ (Or.inl (by decide))) u2292.out)
    have c2308 := cSt.wr c2293 hw2294 (Or.inl rfl) (by omega) rfl (fun y => absurd y (by decide))
    refine e_Ok.run (t' := (53, [(3, (0, w 275 79 + 3600)), (2, (0, w 275 79)), (1, (0, w 275 81)), (0, (1, 275))], [(1, 275)], w2294)) 1 rfl ?_
    refine e_Ok.getr (z := 333) rfl (el_o rfl) rfl rfl ((f2295 275 70 (by unfold mStm; omega)).trans (e_Has.eq hc.1 rfl)) (by omega) ?_
    refine e_Ok.run (t' := (58, [(3, (0, w 275 79 + 3600)), (2, (0, w 275 79)), (1, (0, w 275 81)), (0, (1, 275))], [(0, (-1)), (0, w 275 79 + 3600), (1, 333)], w2294)) 2 rfl ?_
    refine e_Ok.ast rfl (el_o rfl) rfl rfl (by omega) ?_
    generalize hw2309 : e_up w2294 333 (w 275 79 + 3600) (-1) = w2309
    have f2310 : e_fr (mStm (w 275 78) (w 275 79) (w 275 80) (w 275 94)) w w2309 := e_fr.up f2295 hw2309 (by unfold mStm; omega)
    have u2311 : Hid (w2309 275 78 = w 275 78 + 1) := Hid.mk (Eq.trans (by rw [← hw2309]; exact e_up_ne _ _ (Or.inl (by decide))) u2296.out)
    have u2312 : Hid (w2309 275 79 = w 275 79 + 1) := Hid.mk (Eq.trans (by rw [← hw2309]; exact e_up_ne _ _ (Or.inl (by decide))) u2297.out)
    have u2313 : Hid (w2309 275 80 = w 275 80) := Hid.mk (Eq.trans (by rw [← hw2309]; exact e_up_ne _ _ (Or.inl (by decide))) u2298.out)
    have u2315 : Hid (w2309 275 82 = w 275 82) := Hid.mk (Eq.trans (by rw [← hw2309]; exact e_up_ne _ _ (Or.inl (by decide))) u2300.out)
    have u2316 : Hid (w2309 275 83 = w 275 83 + 1) := Hid.mk (Eq.trans (by rw [← hw2309]; exact e_up_ne _ _ (Or.inl (by decide))) u2301.out)
    have u2317 : Hid (w2309 275 84 = w 275 84) := Hid.mk (Eq.trans (by rw [← hw2309]; exact e_up_ne _ _ (Or.inl (by decide))) u2302.out)
    have u2318 : Hid (w2309 275 85 = w 275 85) := Hid.mk (Eq.trans (by rw [← hw2309]; exact e_up_ne _ _ (Or.inl (by decide))) u2303.out)
    have u2319 : Hid (w2309 275 86 = w 275 86) := Hid.mk (Eq.trans (by rw [← hw2309]; exact e_up_ne _ _ (Or.inl (by decide))) u2304.out)
    have u2321 : Hid (w2309 275 88 = w5 275 88) := Hid.mk (Eq.trans (by rw [← hw2309]; exact e_up_ne _ _ (Or.inl (by decide))) u2306.out)
    have u2322 : Hid (w2309 275 94 = w 275 94) := Hid.mk (Eq.trans (by rw [← hw2309]; exact e_up_ne _ _ (Or.inl (by decide))) u2307.out)
    have c2323 := cSt.wr c2308 hw2309 (Or.inl rfl) (by omega) rfl (fun y => absurd y (by decide))
    refine e_Ok.run (t' := (63, [(3, (0, w 275 79 + 3600)), (2, (0, w 275 79)), (1, (0, w 275 81)), (0, (1, 275))], [(0, 21), (1, 275), (1, 275)], w2309)) 3 rfl ?_
    refine e_Ok.callV rfl (Nat.le_trans (by decide) hdq) rfl rfl rfl rfl (c_332 c2323.1 (N := N) c2323.2.2.2.1) (fun r2324 w2325 h2326 => ?_)
    obtain ⟨z2327, rfl, rfl, q2328⟩ := h2326
    obtain ⟨rfl, q2328, q2328b⟩ | ⟨rfl, q2328n⟩ := q2328
    · show e_Ok 20 elay ecode eI (d + 1) 352 (66, [(3, (0, w 275 79 + 3600)), (2, (0, w 275 79)), (1, (0, w 275 81)), (0, (1, 275))], [(0, 1), (1, 275)], w2309) _
      rw [u2317.out] at q2328
      rw [u2318.out] at q2328b
      refine e_Ok.callV rfl (Nat.le_trans (by decide) hdq) rfl rfl rfl rfl (c_334 (Nat.le_trans (by decide) hdq) c2323.1 c2323.2.1 c2323.2.2.1 hNr c2323.2.2.2.1 (by decide)) (fun r2329 w2330 h2331 => ?_)
      obtain ⟨rfl, q2332⟩ := h2331
      obtain ⟨rfl, q2332z⟩ | ⟨q2332z, q2332b, q2332, q2332s, q2332t⟩ | ⟨q2332z, q2332b, q2332, q2332T, q2332H, q2332r⟩ := q2332
      · show e_Ok 20 elay ecode eI (d + 1) 352 (69, [(3, (0, w 275 79 + 3600)), (2, (0, w 275 79)), (1, (0, w 275 81)), (0, (1, 275))], [], w2309) _
        rw [u2321.out] at q2332z
        refine e_Ok.run (t' := (73, [(3, (0, w 275 79 + 3600)), (2, (0, w 275 79)), (1, (0, w 275 81)), (0, (1, 275))], [(0, 58), (1, 275), (1, 275)], w2309)) 3 rfl ?_
        refine e_Ok.callV rfl (Nat.le_trans (by decide) hdq) rfl rfl rfl rfl (c_331 c2323.1 (N := N) c2323.2.2.2.1) (fun r2333 w2334 h2335 => ?_)
        obtain ⟨z2336, rfl, rfl, q2337⟩ := h2335
        obtain ⟨rfl, q2337, q2337b⟩ | ⟨rfl, q2337n⟩ := q2337
        · show e_Ok 20 elay ecode eI (d + 1) 352 (76, [(3, (0, w 275 79 + 3600)), (2, (0, w 275 79)), (1, (0, w 275 81)), (0, (1, 275))], [(0, 1), (1, 275)], w2309) _
          rw [u2317.out] at q2337
          rw [u2318.out] at q2337b
          refine e_Ok.callV rfl (Nat.le_trans (by decide) hdq) rfl rfl rfl rfl (c_334 (Nat.le_trans (by decide) hdq) c2323.1 c2323.2.1 c2323.2.2.1 hNr c2323.2.2.2.1 (by decide)) (fun r2338 w2339 h2340 => ?_)
          obtain ⟨rfl, q2341⟩ := h2340
          obtain ⟨rfl, q2341z⟩ | ⟨q2341z, q2341b, q2341, q2341s, q2341t⟩ | ⟨q2341z, q2341b, q2341, q2341T, q2341H, q2341r⟩ := q2341
          · show e_Ok 20 elay ecode eI (d + 1) 352 (79, [(3, (0, w 275 79 + 3600)), (2, (0, w 275 79)), (1, (0, w 275 81)), (0, (1, 275))], [], w2309) _
            rw [u2321.out] at q2341z
            refine e_Ok.run (t' := (82, [(3, (0, w 275 79 + 3600)), (2, (0, w 275 79)), (1, (0, w 275 81)), (0, (1, 275))], [(0, w 275 79), (0, 3), (1, 275)], w2309)) 3 rfl ?_
            refine e_Ok.mul (z := 3 * w 275 79) rfl (by omega) (by omega) ?_
            refine e_Ok.putf rfl (el_o rfl) rfl rfl ?_
            generalize hw2342 : e_up w2309 275 81 (3 * w 275 79) = w2342
            have f2343 : e_fr (mStm (w 275 78) (w 275 79) (w 275 80) (w 275 94)) w w2342 := e_fr.up f2310 hw2342 (by unfold mStm; omega)
            have u2344 : Hid (w2342 275 78 = w 275 78 + 1) := Hid.mk (Eq.trans (by rw [← hw2342]; exact e_up_ne _ _ (Or.inr (by decide))) u2311.out)
            have u2345 : Hid (w2342 275 79 = w 275 79 + 1) := Hid.mk (Eq.trans (by rw [← hw2342]; exact e_up_ne _ _ (Or.inr (by decide))) u2312.out)
            have u2346 : Hid (w2342 275 80 = w 275 80) := Hid.mk (Eq.trans (by rw [← hw2342]; exact e_up_ne _ _ (Or.inr (by decide))) u2313.out)
            have u2347 : Hid (w2342 275 81 = 3 * w 275 79) := Hid.mk (by rw [← hw2342]; exact e_up_eq _ _ _ _)
            have u2348 : Hid (w2342 275 82 = w 275 82) := Hid.mk (Eq.trans (by rw [← hw2342]; exact e_up_ne _ _ (Or.inr (by decide))) u2315.out)
            have u2349 : Hid (w2342 275 83 = w 275 83 + 1) := Hid.mk (Eq.trans (by rw [← hw2342]; exact e_up_ne _ _ (Or.inr (by decide))) u2316.out)
            have u2350 : Hid (w2342 275 84 = w 275 84) := Hid.mk (Eq.trans (by rw [← hw2342]; exact e_up_ne _ _ (Or.inr (by decide))) u2317.out)
            have u2351 : Hid (w2342 275 85 = w 275 85) := Hid.mk (Eq.trans (by rw [← hw2342]; exact e_up_ne _ _ (Or.inr (by decide))) u2318.out)
            have u2352 : Hid (w2342 275 86 = w 275 86) := Hid.mk (Eq.trans (by rw [← hw2342]; exact e_up_ne _ _ (Or.inr (by decide))) u2319.out)
            have u2354 : Hid (w2342 275 88 = w5 275 88) := Hid.mk (Eq.trans (by rw [← hw2342]; exact e_up_ne _ _ (Or.inr (by decide))) u2321.out)
            have u2355 : Hid (w2342 275 94 = w 275 94) := Hid.mk (Eq.trans (by rw [← hw2342]; exact e_up_ne _ _ (Or.inr (by decide))) u2322.out)
            have c2356 := cSt.wr c2323 hw2342 (Or.inr rfl) (by omega) rfl (fun _ => ⟨⟨by decide, by decide⟩, fun y => by omega⟩)
            refine e_Ok.run (t' := (87, [(3, (0, w 275 79 + 3600)), (2, (0, w 275 79)), (1, (0, w 275 81)), (0, (1, 275))], [(1, 275)], w2342)) 1 rfl ?_
            refine e_Ok.callV rfl (Nat.le_trans (by decide) hdq) rfl rfl rfl rfl (c_348_0 (Nat.le_trans (by decide) hdq) c2356 (by rw [u2354.out] <;> omega)) (fun r2357 w2358 h2359 => ?_)
            obtain ⟨rfl, rfl⟩ := h2359
            show e_Ok 20 elay ecode eI (d + 1) 352 (90, [(3, (0, w 275 79 + 3600)), (2, (0, w 275 79)), (1, (0, w 275 81)), (0, (1, 275))], [], w2342) _
            refine e_Ok.run (t' := (94, [(3, (0, w 275 79 + 3600)), (2, (0, w 275 79)), (1, (0, w 275 81)), (0, (1, 275))], [(0, w 275 79), (0, 49), (1, 275)], w2342)) 3 rfl ?_
            refine e_Ok.callV rfl (Nat.le_trans (by decide) hdq) rfl rfl rfl rfl (c_336 c2356.1 (n := w 275 78 + 1) u2344.out (by omega) (s := 3 * w 275 79) u2347.out (by omega)) (fun r2360 w2361 h2362 => ?_)
            obtain ⟨rfl, q2363⟩ := h2362
            replace q2363 := (show Hid (EM w2342 w2361 (w 275 78 + 1) 49 (w 275 79) (3 * w 275 79)) from q2363)
            have u2364 : Hid (w2361 275 78 = w 275 78 + 2) := Hid.mk (Eq.trans q2363.out.2.2.2.2 (by omega))
            have u2365 : Hid (w2361 275 79 = w 275 79 + 1) := Hid.mk (Eq.trans (q2363.out.fld (by decide)) u2345.out)
            have u2366 : Hid (w2361 275 80 = w 275 80) := Hid.mk (Eq.trans (q2363.out.fld (by decide)) u2346.out)
            have u2368 : Hid (w2361 275 82 = w 275 82) := Hid.mk (Eq.trans (q2363.out.fld (by decide)) u2348.out)
            have u2369 : Hid (w2361 275 83 = w 275 83 + 1) := Hid.mk (Eq.trans (q2363.out.fld (by decide)) u2349.out)
            have u2370 : Hid (w2361 275 84 = w 275 84) := Hid.mk (Eq.trans (q2363.out.fld (by decide)) u2350.out)
            have u2371 : Hid (w2361 275 85 = w 275 85) := Hid.mk (Eq.trans (q2363.out.fld (by decide)) u2351.out)
            have u2372 : Hid (w2361 275 86 = w 275 86) := Hid.mk (Eq.trans (q2363.out.fld (by decide)) u2352.out)
            have u2374 : Hid (w2361 275 88 = w5 275 88) := Hid.mk (Eq.trans (q2363.out.fld (by decide)) u2354.out)
            have u2375 : Hid (w2361 275 94 = w 275 94) := Hid.mk (Eq.trans (q2363.out.fld (by decide)) u2355.out)
            have f2376 : e_fr (mStm (w 275 78) (w 275 79) (w 275 80) (w 275 94)) w w2361 := e_fr.trans f2343 (q2363.out.st (by omega))
            have c2377 := cSt.em c2356 q2363.out (by decide) (by omega) (by omega)
            show e_Ok 20 elay ecode eI (d + 1) 352 (97, [(3, (0, w 275 79 + 3600)), (2, (0, w 275 79)), (1, (0, w 275 81)), (0, (1, 275))], [(0, w 275 78 + 1)], w2361) _
            refine e_Ok.run (t' := (99, [(3, (0, w 275 79 + 3600)), (2, (0, w 275 79)), (1, (0, w 275 81)), (0, (1, 275))], [(1, 275)], w2361)) 2 rfl ?_
            refine e_Ok.getf (z := w5 275 88) rfl (el_o rfl) rfl rfl u2374.out (by omega) ?_
            refine e_Ok.if1 rfl (fun h2378 => ?_) (fun h2378 => ?_)
            · replace h2378 : (w5 275 88 : Int) ≠ 0 := h2378
              refine e_Ok.run (t' := (160, [(3, (0, w 275 79 + 3600)), (2, (0, w 275 79)), (1, (0, w 275 81)), (0, (1, 275))], [(1, 275)], w2361)) 1 rfl ?_
              refine e_Ok.getf (z := w5 275 88) rfl (el_o rfl) rfl rfl u2374.out (by omega) ?_
              refine e_Ok.if1 rfl (fun h2379 => ?_) (fun h2379 => ?_)
              · replace h2379 : (w5 275 88 : Int) ≠ 0 := h2379
                refine e_Ok.run (t' := (222, [(3, (0, w 275 79 + 3600)), (2, (0, w 275 79)), (1, (0, w 275 81)), (0, (1, 275))], [(0, w 275 81), (1, 275)], w2361)) 2 rfl ?_
                refine e_Ok.putf rfl (el_o rfl) rfl rfl ?_
                generalize hw2380 : e_up w2361 275 81 (w 275 81) = w2380
                have f2381 : e_fr (mStm (w 275 78) (w 275 79) (w 275 80) (w 275 94)) w w2380 := e_fr.up f2376 hw2380 (by unfold mStm; omega)
                have u2382 : Hid (w2380 275 78 = w 275 78 + 2) := Hid.mk (Eq.trans (by rw [← hw2380]; exact e_up_ne _ _ (Or.inr (by decide))) u2364.out)
                have u2383 : Hid (w2380 275 79 = w 275 79 + 1) := Hid.mk (Eq.trans (by rw [← hw2380]; exact e_up_ne _ _ (Or.inr (by decide))) u2365.out)
                have u2384 : Hid (w2380 275 80 = w 275 80) := Hid.mk (Eq.trans (by rw [← hw2380]; exact e_up_ne _ _ (Or.inr (by decide))) u2366.out)
                have u2385 : Hid (w2380 275 81 = w 275 81) := Hid.mk (by rw [← hw2380]; exact e_up_eq _ _ _ _)
                have u2386 : Hid (w2380 275 82 = w 275 82) := Hid.mk (Eq.trans (by rw [← hw2380]; exact e_up_ne _ _ (Or.inr (by decide))) u2368.out)
                have u2387 : Hid (w2380 275 83 = w 275 83 + 1) := Hid.mk (Eq.trans (by rw [← hw2380]; exact e_up_ne _ _ (Or.inr (by decide))) u2369.out)
                have u2388 : Hid (w2380 275 84 = w 275 84) := Hid.mk (Eq.trans (by rw [← hw2380]; exact e_up_ne _ _ (Or.inr (by decide))) u2370.out)
                have u2389 : Hid (w2380 275 85 = w 275 85) := Hid.mk (Eq.trans (by rw [← hw2380]; exact e_up_ne _ _ (Or.inr (by decide))) u2371.out)
                have u2390 : Hid (w2380 275 86 = w 275 86) := Hid.mk (Eq.trans (by rw [← hw2380]; exact e_up_ne _ _ (Or.inr (by decide))) u2372.out)
                have u2392 : Hid (w2380 275 88 = w5 275 88) := Hid.mk (Eq.trans (by rw [← hw2380]; exact e_up_ne _ _ (Or.inr (by decide))) u2374.out)
                have u2393 : Hid (w2380 275 94 = w 275 94) := Hid.mk (Eq.trans (by rw [← hw2380]; exact e_up_ne _ _ (Or.inr (by decide))) u2375.out)
                have c2394 := cSt.wr c2377 hw2380 (Or.inr rfl) (by omega) rfl (fun _ => ⟨⟨by decide, by decide⟩, fun y => by omega⟩)
                refine e_Ok.run (t' := (226, [(3, (0, w 275 79 + 3600)), (2, (0, w 275 79)), (1, (0, w 275 81)), (0, (1, 275))], [(1, 275)], w2380)) 1 rfl ?_
                refine e_Ok.getr (z := 334) rfl (el_o rfl) rfl rfl ((f2381 275 71 (by unfold mStm; omega)).trans (e_Has.eq hc.1 rfl)) (by omega) ?_
                refine e_Ok.run (t' := (231, [(3, (0, w 275 79 + 3600)), (2, (0, w 275 79)), (1, (0, w 275 81)), (0, (1, 275))], [(1, 275), (0, w 275 79 + 3600), (1, 334)], w2380)) 2 rfl ?_
                refine e_Ok.getf (z := w 275 78 + 2) rfl (el_o rfl) rfl rfl u2382.out (by omega) ?_
                refine e_Ok.ast rfl (el_o rfl) rfl rfl (by omega) ?_
                generalize hw2395 : e_up w2380 334 (w 275 79 + 3600) (w 275 78 + 2) = w2395
                have f2396 : e_fr (mStm (w 275 78) (w 275 79) (w 275 80) (w 275 94)) w w2395 := e_fr.up f2381 hw2395 (by unfold mStm; omega)
                have u2397 : Hid (w2395 275 78 = w 275 78 + 2) := Hid.mk (Eq.trans (by rw [← hw2395]; exact e_up_ne _ _ (Or.inl (by decide))) u2382.out)
                have u2398 : Hid (w2395 275 79 = w 275 79 + 1) := Hid.mk (Eq.trans (by rw [← hw2395]; exact e_up_ne _ _ (Or.inl (by decide))) u2383.out)
                have u2399 : Hid (w2395 275 80 = w 275 80) := Hid.mk (Eq.trans (by rw [← hw2395]; exact e_up_ne _ _ (Or.inl (by decide))) u2384.out)
                have u2400 : Hid (w2395 275 81 = w 275 81) := Hid.mk (Eq.trans (by rw [← hw2395]; exact e_up_ne _ _ (Or.inl (by decide))) u2385.out)
                have u2401 : Hid (w2395 275 82 = w 275 82) := Hid.mk (Eq.trans (by rw [← hw2395]; exact e_up_ne _ _ (Or.inl (by decide))) u2386.out)
                have u2402 : Hid (w2395 275 83 = w 275 83 + 1) := Hid.mk (Eq.trans (by rw [← hw2395]; exact e_up_ne _ _ (Or.inl (by decide))) u2387.out)
                have u2403 : Hid (w2395 275 84 = w 275 84) := Hid.mk (Eq.trans (by rw [← hw2395]; exact e_up_ne _ _ (Or.inl (by decide))) u2388.out)
                have u2404 : Hid (w2395 275 85 = w 275 85) := Hid.mk (Eq.trans (by rw [← hw2395]; exact e_up_ne _ _ (Or.inl (by decide))) u2389.out)
                have u2405 : Hid (w2395 275 86 = w 275 86) := Hid.mk (Eq.trans (by rw [← hw2395]; exact e_up_ne _ _ (Or.inl (by decide))) u2390.out)
                have u2407 : Hid (w2395 275 88 = w5 275 88) := Hid.mk (Eq.trans (by rw [← hw2395]; exact e_up_ne _ _ (Or.inl (by decide))) u2392.out)
                have u2408 : Hid (w2395 275 94 = w 275 94) := Hid.mk (Eq.trans (by rw [← hw2395]; exact e_up_ne _ _ (Or.inl (by decide))) u2393.out)
                have c2409 := cSt.wr c2394 hw2395 (Or.inl rfl) (by omega) rfl (fun y => absurd y (by decide))
                refine e_Ok.run (t' := (238, [(3, (0, w 275 79 + 3600)), (2, (0, w 275 79)), (1, (0, w 275 81)), (0, (1, 275))], [(0, 2), (1, 275), (1, 275)], w2395)) 3 rfl ?_
                refine e_Ok.callV rfl (Nat.le_trans (by decide) hdq) rfl rfl rfl rfl (c_332 c2409.1 (N := N) c2409.2.2.2.1) (fun r2410 w2411 h2412 => ?_)
                obtain ⟨z2413, rfl, rfl, q2414⟩ := h2412
                obtain ⟨rfl, q2414, q2414b⟩ | ⟨rfl, q2414n⟩ := q2414
                · show e_Ok 20 elay ecode eI (d + 1) 352 (241, [(3, (0, w 275 79 + 3600)), (2, (0, w 275 79)), (1, (0, w 275 81)), (0, (1, 275))], [(0, 1), (1, 275)], w2395) _
                  rw [u2403.out] at q2414
                  rw [u2404.out] at q2414b
                  refine e_Ok.callV rfl (Nat.le_trans (by decide) hdq) rfl rfl rfl rfl (c_334 (Nat.le_trans (by decide) hdq) c2409.1 c2409.2.1 c2409.2.2.1 hNr c2409.2.2.2.1 (by decide)) (fun r2415 w2416 h2417 => ?_)
                  obtain ⟨rfl, q2418⟩ := h2417
                  obtain ⟨rfl, q2418z⟩ | ⟨q2418z, q2418b, q2418, q2418s, q2418t⟩ | ⟨q2418z, q2418b, q2418, q2418T, q2418H, q2418r⟩ := q2418
                  · show e_Ok 20 elay ecode eI (d + 1) 352 (244, [(3, (0, w 275 79 + 3600)), (2, (0, w 275 79)), (1, (0, w 275 81)), (0, (1, 275))], [], w2395) _
                    rw [u2407.out] at q2418z
                    refine e_Ok.run (t' := (246, [(3, (0, w 275 79 + 3600)), (2, (0, w 275 79)), (1, (0, w 275 81)), (0, (1, 275))], [(1, 275), (1, 275)], w2395)) 2 rfl ?_
                    refine e_Ok.getf (z := w 275 83 + 1) rfl (el_o rfl) rfl rfl u2402.out (by omega) ?_
                    refine e_Ok.run (t' := (250, [(3, (0, w 275 79 + 3600)), (2, (0, w 275 79)), (1, (0, w 275 81)), (0, (1, 275))], [(0, 1), (0, w 275 83 + 1), (1, 275)], w2395)) 1 rfl ?_
                    refine e_Ok.sub' (z := w 275 83) rfl (by omega) (by omega) ?_
                    refine e_Ok.putf rfl (el_o rfl) rfl rfl ?_
                    generalize hw2419 : e_up w2395 275 83 (w 275 83) = w2419
                    have f2420 : e_fr (mStm (w 275 78) (w 275 79) (w 275 80) (w 275 94)) w w2419 := e_fr.up f2396 hw2419 (by unfold mStm; omega)
                    have e2421 := up83 hw2419
                    replace e2421 := (show Hid _ from e2421)
                    have u2422 : Hid (w2419 275 78 = w 275 78 + 2) := Hid.mk (Eq.trans (e2421.out.1 275 78 (by decide)) u2397.out)
                    have u2423 : Hid (w2419 275 79 = w 275 79 + 1) := Hid.mk (Eq.trans (e2421.out.1 275 79 (by decide)) u2398.out)
                    have u2424 : Hid (w2419 275 80 = w 275 80) := Hid.mk (Eq.trans (e2421.out.1 275 80 (by decide)) u2399.out)
                    have u2425 : Hid (w2419 275 81 = w 275 81) := Hid.mk (Eq.trans (e2421.out.1 275 81 (by decide)) u2400.out)
                    have u2426 : Hid (w2419 275 82 = w 275 82) := Hid.mk (Eq.trans (e2421.out.1 275 82 (by decide)) u2401.out)
                    have u2427 : Hid (w2419 275 83 = w 275 83) := Hid.mk (e2421.out.2)
                    have u2430 : Hid (w2419 275 86 = w 275 86) := Hid.mk (Eq.trans (e2421.out.1 275 86 (by decide)) u2405.out)
                    have u2432 : Hid (w2419 275 88 = w5 275 88) := Hid.mk (Eq.trans (e2421.out.1 275 88 (by decide)) u2407.out)
                    have u2433 : Hid (w2419 275 94 = w 275 94) := Hid.mk (Eq.trans (e2421.out.1 275 94 (by decide)) u2408.out)
                    have c2434 := cSt.up c2409 hw2419
                    refine e_Ok.rets rfl rfl ?_
                    exact ⟨rfl, f2420, c2434, (by unfold stL; rw [u2422.out, u2423.out, u2424.out, u2425.out, u2426.out, u2427.out, u2430.out, u2432.out, u2433.out]; omega), (fun z => by rw [u2432.out] at z; exact absurd z (by omega))⟩
                  · rw [u2407.out] at q2418z; exact absurd q2418z (by omega)
                  · rw [u2407.out] at q2418z; exact absurd q2418z (by omega)
                · show e_Ok 20 elay ecode eI (d + 1) 352 (241, [(3, (0, w 275 79 + 3600)), (2, (0, w 275 79)), (1, (0, w 275 81)), (0, (1, 275))], [(0, 0), (1, 275)], w2395) _
                  clear q2414n
                  refine e_Ok.callV rfl (Nat.le_trans (by decide) hdq) rfl rfl rfl rfl (c_334 (Nat.le_trans (by decide) hdq) c2409.1 c2409.2.1 c2409.2.2.1 hNr c2409.2.2.2.1 (by decide)) (fun r2435 w2436 h2437 => ?_)
                  obtain ⟨rfl, q2438⟩ := h2437
                  obtain ⟨rfl, q2438z⟩ | ⟨q2438z, q2438b, q2438, q2438s, q2438t⟩ | ⟨q2438z, q2438b, q2438, q2438T, q2438H, q2438r⟩ := q2438
                  · show e_Ok 20 elay ecode eI (d + 1) 352 (244, [(3, (0, w 275 79 + 3600)), (2, (0, w 275 79)), (1, (0, w 275 81)), (0, (1, 275))], [], w2395) _
                    rw [u2407.out] at q2438z
                    refine e_Ok.run (t' := (246, [(3, (0, w 275 79 + 3600)), (2, (0, w 275 79)), (1, (0, w 275 81)), (0, (1, 275))], [(1, 275), (1, 275)], w2395)) 2 rfl ?_
                    refine e_Ok.getf (z := w 275 83 + 1) rfl (el_o rfl) rfl rfl u2402.out (by omega) ?_
                    refine e_Ok.run (t' := (250, [(3, (0, w 275 79 + 3600)), (2, (0, w 275 79)), (1, (0, w 275 81)), (0, (1, 275))], [(0, 1), (0, w 275 83 + 1), (1, 275)], w2395)) 1 rfl ?_
                    refine e_Ok.sub' (z := w 275 83) rfl (by omega) (by omega) ?_
                    refine e_Ok.putf rfl (el_o rfl) rfl rfl ?_
                    generalize hw2439 : e_up w2395 275 83 (w 275 83) = w2439
                    have f2440 : e_fr (mStm (w 275 78) (w 275 79) (w 275 80) (w 275 94)) w w2439 := e_fr.up f2396 hw2439 (by unfold mStm; omega)
                    have e2441 := up83 hw2439
                    replace e2441 := (show Hid _ from e2441)
                    have u2442 : Hid (w2439 275 78 = w 275 78 + 2) := Hid.mk (Eq.trans (e2441.out.1 275 78 (by decide)) u2397.out)
                    have u2443 : Hid (w2439 275 79 = w 275 79 + 1) := Hid.mk (Eq.trans (e2441.out.1 275 79 (by decide)) u2398.out)
                    have u2444 : Hid (w2439 275 80 = w 275 80) := Hid.mk (Eq.trans (e2441.out.1 275 80 (by decide)) u2399.out)
                    have u2445 : Hid (w2439 275 81 = w 275 81) := Hid.mk (Eq.trans (e2441.out.1 275 81 (by decide)) u2400.out)
                    have u2446 : Hid (w2439 275 82 = w 275 82) := Hid.mk (Eq.trans (e2441.out.1 275 82 (by decide)) u2401.out)
                    have u2447 : Hid (w2439 275 83 = w 275 83) := Hid.mk (e2441.out.2)
                    have u2450 : Hid (w2439 275 86 = w 275 86) := Hid.mk (Eq.trans (e2441.out.1 275 86 (by decide)) u2405.out)
                    have u2452 : Hid (w2439 275 88 = w5 275 88) := Hid.mk (Eq.trans (e2441.out.1 275 88 (by decide)) u2407.out)
                    have u2453 : Hid (w2439 275 94 = w 275 94) := Hid.mk (Eq.trans (e2441.out.1 275 94 (by decide)) u2408.out)
                    have c2454 := cSt.up c2409 hw2439
                    refine e_Ok.rets rfl rfl ?_
                    exact ⟨rfl, f2440, c2454, (by unfold stL; rw [u2442.out, u2443.out, u2444.out, u2445.out, u2446.out, u2447.out, u2450.out, u2452.out, u2453.out]; omega), (fun z => by rw [u2452.out] at z; exact absurd z (by omega))⟩
                  · rw [u2407.out] at q2438z; exact absurd q2438z (by omega)
                  · rw [u2407.out] at q2438z; exact absurd q2438z (by omega)
              · replace h2379 : (w5 275 88 : Int) = 0 := by have q : ¬ ((w5 275 88 : Int) ≠ 0) := h2379; omega
                exfalso; omega
            · replace h2378 : (w5 275 88 : Int) = 0 := by have q : ¬ ((w5 275 88 : Int) ≠ 0) := h2378; omega
              exfalso; omega
          · rw [u2321.out] at q2341z; exact absurd q2341z (by omega)
          · rw [u2321.out] at q2341z; exact absurd q2341z (by omega)
        · show e_Ok 20 elay ecode eI (d + 1) 352 (76, [(3, (0, w 275 79 + 3600)), (2, (0, w 275 79)), (1, (0, w 275 81)), (0, (1, 275))], [(0, 0), (1, 275)], w2309) _
          clear q2337n
          refine e_Ok.callV rfl (Nat.le_trans (by decide) hdq) rfl rfl rfl rfl (c_334 (Nat.le_trans (by decide) hdq) c2323.1 c2323.2.1 c2323.2.2.1 hNr c2323.2.2.2.1 (by decide)) (fun r2455 w2456 h2457 => ?_)
          obtain ⟨rfl, q2458⟩ := h2457
          obtain ⟨rfl, q2458z⟩ | ⟨q2458z, q2458b, q2458, q2458s, q2458t⟩ | ⟨q2458z, q2458b, q2458, q2458T, q2458H, q2458r⟩ := q2458
          · show e_Ok 20 elay ecode eI (d + 1) 352 (79, [(3, (0, w 275 79 + 3600)), (2, (0, w 275 79)), (1, (0, w 275 81)), (0, (1, 275))], [], w2309) _
            rw [u2321.out] at q2458z
            refine e_Ok.run (t' := (82, [(3, (0, w 275 79 + 3600)), (2, (0, w 275 79)), (1, (0, w 275 81)), (0, (1, 275))], [(0, w 275 79), (0, 3), (1, 275)], w2309)) 3 rfl ?_
            refine e_Ok.mul (z := 3 * w 275 79) rfl (by omega) (by omega) ?_
            refine e_Ok.putf rfl (el_o rfl) rfl rfl ?_
            generalize hw2459 : e_up w2309 275 81 (3 * w 275 79) = w2459
            have f2460 : e_fr (mStm (w 275 78) (w 275 79) (w 275 80) (w 275 94)) w w2459 := e_fr.up f2310 hw2459 (by unfold mStm; omega)
            have u2461 : Hid (w2459 275 78 = w 275 78 + 1) := Hid.mk (Eq.trans (by rw [← hw2459]; exact e_up_ne _ _ (Or.inr (by decide))) u2311.out)
            have u2462 : Hid (w2459 275 79 = w 275 79 + 1) := Hid.mk (Eq.trans (by rw [← hw2459]; exact e_up_ne _ _ (Or.inr (by decide))) u2312.out)
            have u2463 : Hid (w2459 275 80 = w 275 80) := Hid.mk (Eq.trans (by rw [← hw2459]; exact e_up_ne _ _ (Or.inr (by decide))) u2313.out)
            have u2464 : Hid (w2459 275 81 = 3 * w 275 79) := Hid.mk (by rw [← hw2459]; exact e_up_eq _ _ _ _)
            have u2465 : Hid (w2459 275 82 = w 275 82) := Hid.mk (Eq.trans (by rw [← hw2459]; exact e_up_ne _ _ (Or.inr (by decide))) u2315.out)
            have u2466 : Hid (w2459 275 83 = w 275 83 + 1) := Hid.mk (Eq.trans (by rw [← hw2459]; exact e_up_ne _ _ (Or.inr (by decide))) u2316.out)
            have u2467 : Hid (w2459 275 84 = w 275 84) := Hid.mk (Eq.trans (by rw [← hw2459]; exact e_up_ne _ _ (Or.inr (by decide))) u2317.out)
            have u2468 : Hid (w2459 275 85 = w 275 85) := Hid.mk (Eq.trans (by rw [← hw2459]; exact e_up_ne _ _ (Or.inr (by decide))) u2318.out)
            have u2469 : Hid (w2459 275 86 = w 275 86) := Hid.mk (Eq.trans (by rw [← hw2459]; exact e_up_ne _ _ (Or.inr (by decide))) u2319.out)
            have u2471 : Hid (w2459 275 88 = w5 275 88) := Hid.mk (Eq.trans (by rw [← hw2459]; exact e_up_ne _ _ (Or.inr (by decide))) u2321.out)
            have u2472 : Hid (w2459 275 94 = w 275 94) := Hid.mk (Eq.trans (by rw [← hw2459]; exact e_up_ne _ _ (Or.inr (by decide))) u2322.out)
            have c2473 := cSt.wr c2323 hw2459 (Or.inr rfl) (by omega) rfl (fun _ => ⟨⟨by decide, by decide⟩, fun y => by omega⟩)
            refine e_Ok.run (t' := (87, [(3, (0, w 275 79 + 3600)), (2, (0, w 275 79)), (1, (0, w 275 81)), (0, (1, 275))], [(1, 275)], w2459)) 1 rfl ?_
            refine e_Ok.callV rfl (Nat.le_trans (by decide) hdq) rfl rfl rfl rfl (c_348_0 (Nat.le_trans (by decide) hdq) c2473 (by rw [u2471.out] <;> omega)) (fun r2474 w2475 h2476 => ?_)
            obtain ⟨rfl, rfl⟩ := h2476
            show e_Ok 20 elay ecode eI (d + 1) 352 (90, [(3, (0, w 275 79 + 3600)), (2, (0, w 275 79)), (1, (0, w 275 81)), (0, (1, 275))], [], w2459) _
            refine e_Ok.run (t' := (94, [(3, (0, w 275 79 + 3600)), (2, (0, w 275 79)), (1, (0, w 275 81)), (0, (1, 275))], [(0, w 275 79), (0, 49), (1, 275)], w2459)) 3 rfl ?_
            refine e_Ok.callV rfl (Nat.le_trans (by decide) hdq) rfl rfl rfl rfl (c_336 c2473.1 (n := w 275 78 + 1) u2461.out (by omega) (s := 3 * w 275 79) u2464.out (by omega)) (fun r2477 w2478 h2479 => ?_)
            obtain ⟨rfl, q2480⟩ := h2479
            replace q2480 := (show Hid (EM w2459 w2478 (w 275 78 + 1) 49 (w 275 79) (3 * w 275 79)) from q2480)
            have u2481 : Hid (w2478 275 78 = w 275 78 + 2) := Hid.mk (Eq.trans q2480.out.2.2.2.2 (by omega))
            have u2482 : Hid (w2478 275 79 = w 275 79 + 1) := Hid.mk (Eq.trans (q2480.out.fld (by decide)) u2462.out)
            have u2483 : Hid (w2478 275 80 = w 275 80) := Hid.mk (Eq.trans (q2480.out.fld (by decide)) u2463.out)
            have u2485 : Hid (w2478 275 82 = w 275 82) := Hid.mk (Eq.trans (q2480.out.fld (by decide)) u2465.out)
            have u2486 : Hid (w2478 275 83 = w 275 83 + 1) := Hid.mk (Eq.trans (q2480.out.fld (by decide)) u2466.out)
            have u2487 : Hid (w2478 275 84 = w 275 84) := Hid.mk (Eq.trans (q2480.out.fld (by decide)) u2467.out)
            have u2488 : Hid (w2478 275 85 = w 275 85) := Hid.mk (Eq.trans (q2480.out.fld (by decide)) u2468.out)
            have u2489 : Hid (w2478 275 86 = w 275 86) := Hid.mk (Eq.trans (q2480.out.fld (by decide)) u2469.out)
            have u2491 : Hid (w2478 275 88 = w5 275 88) := Hid.mk (Eq.trans (q2480.out.fld (by decide)) u2471.out)
            have u2492 : Hid (w2478 275 94 = w 275 94) := Hid.mk (Eq.trans (q2480.out.fld (by decide)) u2472.out)
            have f2493 : e_fr (mStm (w 275 78) (w 275 79) (w 275 80) (w 275 94)) w w2478 := e_fr.trans f2460 (q2480.out.st (by omega))
            have c2494 := cSt.em c2473 q2480.out (by decide) (by omega) (by omega)
            show e_Ok 20 elay ecode eI (d + 1) 352 (97, [(3, (0, w 275 79 + 3600)), (2, (0, w 275 79)), (1, (0, w 275 81)), (0, (1, 275))], [(0, w 275 78 + 1)], w2478) _
            refine e_Ok.run (t' := (99, [(3, (0, w 275 79 + 3600)), (2, (0, w 275 79)), (1, (0, w 275 81)), (0, (1, 275))], [(1, 275)], w2478)) 2 rfl ?_
            refine e_Ok.getf (z := w5 275 88) rfl (el_o rfl) rfl rfl u2491.out (by omega) ?_
            refine e_Ok.if1 rfl (fun h2495 => ?_) (fun h2495 => ?_)
            · replace h2495 : (w5 275 88 : Int) ≠ 0 := h2495
              refine e_Ok.run (t' := (160, [(3, (0, w 275 79 + 3600)), (2, (0, w 275 79)), (1, (0, w 275 81)), (0, (1, 275))], [(1, 275)], w2478)) 1 rfl ?_
              refine e_Ok.getf (z := w5 275 88) rfl (el_o rfl) rfl rfl u2491.out (by omega) ?_
              refine e_Ok.if1 rfl (fun h2496 => ?_) (fun h2496 => ?_)
              · replace h2496 : (w5 275 88 : Int) ≠ 0 := h2496
                refine e_Ok.run (t' := (222, [(3, (0, w 275 79 + 3600)), (2, (0, w 275 79)), (1, (0, w 275 81)), (0, (1, 275))], [(0, w 275 81), (1, 275)], w2478)) 2 rfl ?_
                refine e_Ok.putf rfl (el_o rfl) rfl rfl ?_
                generalize hw2497 : e_up w2478 275 81 (w 275 81) = w2497
                have f2498 : e_fr (mStm (w 275 78) (w 275 79) (w 275 80) (w 275 94)) w w2497 := e_fr.up f2493 hw2497 (by unfold mStm; omega)
                have u2499 : Hid (w2497 275 78 = w 275 78 + 2) := Hid.mk (Eq.trans (by rw [← hw2497]; exact e_up_ne _ _ (Or.inr (by decide))) u2481.out)
                have u2500 : Hid (w2497 275 79 = w 275 79 + 1) := Hid.mk (Eq.trans (by rw [← hw2497]; exact e_up_ne _ _ (Or.inr (by decide))) u2482.out)
                have u2501 : Hid (w2497 275 80 = w 275 80) := Hid.mk (Eq.trans (by rw [← hw2497]; exact e_up_ne _ _ (Or.inr (by decide))) u2483.out)
                have u2502 : Hid (w2497 275 81 = w 275 81) := Hid.mk (by rw [← hw2497]; exact e_up_eq _ _ _ _)
                have u2503 : Hid (w2497 275 82 = w 275 82) := Hid.mk (Eq.trans (by rw [← hw2497]; exact e_up_ne _ _ (Or.inr (by decide))) u2485.out)
                have u2504 : Hid (w2497 275 83 = w 275 83 + 1) := Hid.mk (Eq.trans (by rw [← hw2497]; exact e_up_ne _ _ (Or.inr (by decide))) u2486.out)
                have u2505 : Hid (w2497 275 84 = w 275 84) := Hid.mk (Eq.trans (by rw [← hw2497]; exact e_up_ne _ _ (Or.inr (by decide))) u2487.out)
                have u2506 : Hid (w2497 275 85 = w 275 85) := Hid.mk (Eq.trans (by rw [← hw2497]; exact e_up_ne _ _ (Or.inr (by decide))) u2488.out)
                have u2507 : Hid (w2497 275 86 = w 275 86) := Hid.mk (Eq.trans (by rw [← hw2497]; exact e_up_ne _ _ (Or.inr (by decide))) u2489.out)
                have u2509 : Hid (w2497 275 88 = w5 275 88) := Hid.mk (Eq.trans (by rw [← hw2497]; exact e_up_ne _ _ (Or.inr (by decide))) u2491.out)
                have u2510 : Hid (w2497 275 94 = w 275 94) := Hid.mk (Eq.trans (by rw [← hw2497]; exact e_up_ne _ _ (Or.inr (by decide))) u2492.out)
                have c2511 := cSt.wr c2494 hw2497 (Or.inr rfl) (by omega) rfl (fun _ => ⟨⟨by decide, by decide⟩, fun y => by omega⟩)
                refine e_Ok.run (t' := (226, [(3, (0, w 275 79 + 3600)), (2, (0, w 275 79)), (1, (0, w 275 81)), (0, (1, 275))], [(1, 275)], w2497)) 1 rfl ?_
                refine e_Ok.getr (z := 334) rfl (el_o rfl) rfl rfl ((f2498 275 71 (by unfold mStm; omega)).trans (e_Has.eq hc.1 rfl)) (by omega) ?_
                refine e_Ok.run (t' := (231, [(3, (0, w 275 79 + 3600)), (2, (0, w 275 79)), (1, (0, w 275 81)), (0, (1, 275))], [(1, 275), (0, w 275 79 + 3600), (1, 334)], w2497)) 2 rfl ?_
                refine e_Ok.getf (z := w 275 78 + 2) rfl (el_o rfl) rfl rfl u2499.out (by omega) ?_
                refine e_Ok.ast rfl (el_o rfl) rfl rfl (by omega) ?_
                generalize hw2512 : e_up w2497 334 (w 275 79 + 3600) (w 275 78 + 2) = w2512
                have f2513 : e_fr (mStm (w 275 78) (w 275 79) (w 275 80) (w 275 94)) w w2512 := e_fr.up f2498 hw2512 (by unfold mStm; omega)
                have u2514 : Hid (w2512 275 78 = w 275 78 + 2) := Hid.mk (Eq.trans (by rw [← hw2512]; exact e_up_ne _ _ (Or.inl (by decide))) u2499.out)
                have u2515 : Hid (w2512 275 79 = w 275 79 + 1) := Hid.mk (Eq.trans (by rw [← hw2512]; exact e_up_ne _ _ (Or.inl (by decide))) u2500.out)
                have u2516 : Hid (w2512 275 80 = w 275 80) := Hid.mk (Eq.trans (by rw [← hw2512]; exact e_up_ne _ _ (Or.inl (by decide))) u2501.out)
                have u2517 : Hid (w2512 275 81 = w 275 81) := Hid.mk (Eq.trans (by rw [← hw2512]; exact e_up_ne _ _ (Or.inl (by decide))) u2502.out)
                have u2518 : Hid (w2512 275 82 = w 275 82) := Hid.mk (Eq.trans (by rw [← hw2512]; exact e_up_ne _ _ (Or.inl (by decide))) u2503.out)
                have u2519 : Hid (w2512 275 83 = w 275 83 + 1) := Hid.mk (Eq.trans (by rw [← hw2512]; exact e_up_ne _ _ (Or.inl (by decide))) u2504.out)
                have u2520 : Hid (w2512 275 84 = w 275 84) := Hid.mk (Eq.trans (by rw [← hw2512]; exact e_up_ne _ _ (Or.inl (by decide))) u2505.out)
                have u2521 : Hid (w2512 275 85 = w 275 85) := Hid.mk (Eq.trans (by rw [← hw2512]; exact e_up_ne _ _ (Or.inl (by decide))) u2506.out)
                have u2522 : Hid (w2512 275 86 = w 275 86) := Hid.mk (Eq.trans (by rw [← hw2512]; exact e_up_ne _ _ (Or.inl (by decide))) u2507.out)
                have u2524 : Hid (w2512 275 88 = w5 275 88) := Hid.mk (Eq.trans (by rw [← hw2512]; exact e_up_ne _ _ (Or.inl (by decide))) u2509.out)
                have u2525 : Hid (w2512 275 94 = w 275 94) := Hid.mk (Eq.trans (by rw [← hw2512]; exact e_up_ne _ _ (Or.inl (by decide))) u2510.out)
                have c2526 := cSt.wr c2511 hw2512 (Or.inl rfl) (by omega) rfl (fun y => absurd y (by decide))
                refine e_Ok.run (t' := (238, [(3, (0, w 275 79 + 3600)), (2, (0, w 275 79)), (1, (0, w 275 81)), (0, (1, 275))], [(0, 2), (1, 275), (1, 275)], w2512)) 3 rfl ?_
                refine e_Ok.callV rfl (Nat.le_trans (by decide) hdq) rfl rfl rfl rfl (c_332 c2526.1 (N := N) c2526.2.2.2.1) (fun r2527 w2528 h2529 => ?_)
                obtain ⟨z2530, rfl, rfl, q2531⟩ := h2529
                obtain ⟨rfl, q2531, q2531b⟩ | ⟨rfl, q2531n⟩ := q2531
                · show e_Ok 20 elay ecode eI (d + 1) 352 (241, [(3, (0, w 275 79 + 3600)), (2, (0, w 275 79)), (1, (0, w 275 81)), (0, (1, 275))], [(0, 1), (1, 275)], w2512) _
                  rw [u2520.out] at q2531
                  rw [u2521.out] at q2531b
                  refine e_Ok.callV rfl (Nat.le_trans (by decide) hdq) rfl rfl rfl rfl (c_334 (Nat.le_trans (by decide) hdq) c2526.1 c2526.2.1 c2526.2.2.1 hNr c2526.2.2.2.1 (by decide)) (fun r2532 w2533 h2534 => ?_)
                  obtain ⟨rfl, q2535⟩ := h2534
                  obtain ⟨rfl, q2535z⟩ | ⟨q2535z, q2535b, q2535, q2535s, q2535t⟩ | ⟨q2535z, q2535b, q2535, q2535T, q2535H, q2535r⟩ := q2535
                  · show e_Ok 20 elay ecode eI (d + 1) 352 (244, [(3, (0, w 275 79 + 3600)), (2, (0, w 275 79)), (1, (0, w 275 81)), (0, (1, 275))], [], w2512) _
                    rw [u2524.out] at q2535z
                    refine e_Ok.run (t' := (246, [(3, (0, w 275 79 + 3600)), (2, (0, w 275 79)), (1, (0, w 275 81)), (0, (1, 275))], [(1, 275), (1, 275)], w2512)) 2 rfl ?_
                    refine e_Ok.getf (z := w 275 83 + 1) rfl (el_o rfl) rfl rfl u2519.out (by omega) ?_
                    refine e_Ok.run (t' := (250, [(3, (0, w 275 79 + 3600)), (2, (0, w 275 79)), (1, (0, w 275 81)), (0, (1, 275))], [(0, 1), (0, w 275 83 + 1), (1, 275)], w2512)) 1 rfl ?_
                    refine e_Ok.sub' (z := w 275 83) rfl (by omega) (by omega) ?_
                    refine e_Ok.putf rfl (el_o rfl) rfl rfl ?_
                    generalize hw2536 : e_up w2512 275 83 (w 275 83) = w2536
                    have f2537 : e_fr (mStm (w 275 78) (w 275 79) (w 275 80) (w 275 94)) w w2536 := e_fr.up f2513 hw2536 (by unfold mStm; omega)
                    have e2538 := up83 hw2536
                    replace e2538 := (show Hid _ from e2538)
                    have u2539 : Hid (w2536 275 78 = w 275 78 + 2) := Hid.mk (Eq.trans (e2538.out.1 275 78 (by decide)) u2514.out)
                    have u2540 : Hid (w2536 275 79 = w 275 79 + 1) := Hid.mk (Eq.trans (e2538.out.1 275 79 (by decide)) u2515.out)
                    have u2541 : Hid (w2536 275 80 = w 275 80) := Hid.mk (Eq.trans (e2538.out.1 275 80 (by decide)) u2516.out)
                    have u2542 : Hid (w2536 275 81 = w 275 81) := Hid.mk (Eq.trans (e2538.out.1 275 81 (by decide)) u2517.out)
                    have u2543 : Hid (w2536 275 82 = w 275 82) := Hid.mk (Eq.trans (e2538.out.1 275 82 (by decide)) u2518.out)
                    have u2544 : Hid (w2536 275 83 = w 275 83) := Hid.mk (e2538.out.2)
                    have u2547 : Hid (w2536 275 86 = w 275 86) := Hid.mk (Eq.trans (e2538.out.1 275 86 (by decide)) u2522.out)
                    have u2549 : Hid (w2536 275 88 = w5 275 88) := Hid.mk (Eq.trans (e2538.out.1 275 88 (by decide)) u2524.out)
                    have u2550 : Hid (w2536 275 94 = w 275 94) := Hid.mk (Eq.trans (e2538.out.1 275 94 (by decide)) u2525.out)
                    have c2551 := cSt.up c2526 hw2536
                    refine e_Ok.rets rfl rfl ?_
                    exact ⟨rfl, f2537, c2551, (by unfold stL; rw [u2539.out, u2540.out, u2541.out, u2542.out, u2543.out, u2544.out, u2547.out, u2549.out, u2550.out]; omega), (fun z => by rw [u2549.out] at z; exact absurd z (by omega))⟩
                  · rw [u2524.out] at q2535z; exact absurd q2535z (by omega)
                  · rw [u2524.out] at q2535z; exact absurd q2535z (by omega)
                · show e_Ok 20 elay ecode eI (d + 1) 352 (241, [(3, (0, w 275 79 + 3600)), (2, (0, w 275 79)), (1, (0, w 275 81)), (0, (1, 275))], [(0, 0), (1, 275)], w2512) _
                  clear q2531n
                  refine e_Ok.callV rfl (Nat.le_trans (by decide) hdq) rfl rfl rfl rfl (c_334 (Nat.le_trans (by decide) hdq) c2526.1 c2526.2.1 c2526.2.2.1 hNr c2526.2.2.2.1 (by decide)) (fun r2552 w2553 h2554 => ?_)
                  obtain ⟨rfl, q2555⟩ := h2554
                  obtain ⟨rfl, q2555z⟩ | ⟨q2555z, q2555b, q2555, q2555s, q2555t⟩ | ⟨q2555z, q2555b, q2555, q2555T, q2555H, q2555r⟩ := q2555
                  · show e_Ok 20 elay ecode eI (d + 1) 352 (244, [(3, (0, w 275 79 + 3600)), (2, (0, w 275 79)), (1, (0, w 275 81)), (0, (1, 275))], [], w2512) _
                    rw [u2524.out] at q2555z
                    refine e_Ok.run (t' := (246, [(3, (0, w 275 79 + 3600)), (2, (0, w 275 79)), (1, (0, w 275 81)), (0, (1, 275))], [(1, 275), (1, 275)], w2512)) 2 rfl ?_
                    refine e_Ok.getf (z := w 275 83 + 1) rfl (el_o rfl) rfl rfl u2519.out (by omega) ?_
                    refine e_Ok.run (t' := (250, [(3, (0, w 275 79 + 3600)), (2, (0, w 275 79)), (1, (0, w 275 81)), (0, (1, 275))], [(0, 1), (0, w 275 83 + 1), (1, 275)], w2512)) 1 rfl ?_
                    refine e_Ok.sub' (z := w 275 83) rfl (by omega) (by omega) ?_
                    refine e_Ok.putf rfl (el_o rfl) rfl rfl ?_
                    generalize hw2556 : e_up w2512 275 83 (w 275 83) = w2556
                    have f2557 : e_fr (mStm (w 275 78) (w 275 79) (w 275 80) (w 275 94)) w w2556 := e_fr.up f2513 hw2556 (by unfold mStm; omega)
                    have e2558 := up83 hw2556
                    replace e2558 := (show Hid _ from e2558)
                    have u2559 : Hid (w2556 275 78 = w 275 78 + 2) := Hid.mk (Eq.trans (e2558.out.1 275 78 (by decide)) u2514.out)
                    have u2560 : Hid (w2556 275 79 = w 275 79 + 1) := Hid.mk (Eq.trans (e2558.out.1 275 79 (by decide)) u2515.out)
                    have u2561 : Hid (w2556 275 80 = w 275 80) := Hid.mk (Eq.trans (e2558.out.1 275 80 (by decide)) u2516.out)
                    have u2562 : Hid (w2556 275 81 = w 275 81) := Hid.mk (Eq.trans (e2558.out.1 275 81 (by decide)) u2517.out)
                    have u2563 : Hid (w2556 275 82 = w 275 82) := Hid.mk (Eq.trans (e2558.out.1 275 82 (by decide)) u2518.out)
                    have u2564 : Hid (w2556 275 83 = w 275 83) := Hid.mk (e2558.out.2)
                    have u2567 : Hid (w2556 275 86 = w 275 86) := Hid.mk (Eq.trans (e2558.out.1 275 86 (by decide)) u2522.out)
                    have u2569 : Hid (w2556 275 88 = w5 275 88) := Hid.mk (Eq.trans (e2558.out.1 275 88 (by decide)) u2524.out)
                    have u2570 : Hid (w2556 275 94 = w 275 94) := Hid.mk (Eq.trans (e2558.out.1 275 94 (by decide)) u2525.out)
                    have c2571 := cSt.up c2526 hw2556
                    refine e_Ok.rets rfl rfl ?_
                    exact ⟨rfl, f2557, c2571, (by unfold stL; rw [u2559.out, u2560.out, u2561.out, u2562.out, u2563.out, u2564.out, u2567.out, u2569.out, u2570.out]; omega), (fun z => by rw [u2569.out] at z; exact absurd z (by omega))⟩
                  · rw [u2524.out] at q2555z; exact absurd q2555z (by omega)
                  · rw [u2524.out] at q2555z; exact absurd q2555z (by omega)
              · replace h2496 : (w5 275 88 : Int) = 0 := by have q : ¬ ((w5 275 88 : Int) ≠ 0) := h2496; omega
                exfalso; omega
            · replace h2495 : (w5 275 88 : Int) = 0 := by have q : ¬ ((w5 275 88 : Int) ≠ 0) := h2495; omega
              exfalso; omega
          · rw [u2321.out] at q2458z; exact absurd q2458z (by omega)
          · rw [u2321.out] at q2458z; exact absurd q2458z (by omega)
      · rw [u2321.out] at q2332z; exact absurd q2332z (by omega)
      · rw [u2321.out] at q2332z; exact absurd q2332z (by omega)
    · show e_Ok 20 elay ecode eI (d + 1) 352 (66, [(3, (0, w 275 79 + 3600)), (2, (0, w 275 79)), (1, (0, w 275 81)), (0, (1, 275))], [(0, 0), (1, 275)], w2309) _
      clear q2328n
      refine e_Ok.callV rfl (Nat.le_trans (by decide) hdq) rfl rfl rfl rfl (c_334 (Nat.le_trans (by decide) hdq) c2323.1 c2323.2.1 c2323.2.2.1 hNr c2323.2.2.2.1 (by decide)) (fun r2572 w2573 h2574 => ?_)
      obtain ⟨rfl, q2575⟩ := h2574
      obtain ⟨rfl, q2575z⟩ | ⟨q2575z, q2575b, q2575, q2575s, q2575t⟩ | ⟨q2575z, q2575b, q2575, q2575T, q2575H, q2575r⟩ := q2575
      · show e_Ok 20 elay ecode eI (d + 1) 352 (69, [(3, (0, w 275 79 + 3600)), (2, (0, w 275 79)), (1, (0, w 275 81)), (0, (1, 275))], [], w2309) _
        rw [u2321.out] at q2575z
        refine e_Ok.run (t' := (73, [(3, (0, w 275 79 + 3600)), (2, (0, w 275 79)), (1, (0, w 275 81)), (0, (1, 275))], [(0, 58), (1, 275), (1, 275)], w2309)) 3 rfl ?_
        refine e_Ok.callV rfl (Nat.le_trans (by decide) hdq) rfl rfl rfl rfl (c_331 c2323.1 (N := N) c2323.2.2.2.1) (fun r2576 w2577 h2578 => ?_)
        obtain ⟨z2579, rfl, rfl, q2580⟩ := h2578
        obtain ⟨rfl, q2580, q2580b⟩ | ⟨rfl, q2580n⟩ := q2580
        · show e_Ok 20 elay ecode eI (d + 1) 352 (76, [(3, (0, w 275 79 + 3600)), (2, (0, w 275 79)), (1, (0, w 275 81)), (0, (1, 275))], [(0, 1), (1, 275)], w2309) _
          rw [u2317.out] at q2580
          rw [u2318.out] at q2580b
          refine e_Ok.callV rfl (Nat.le_trans (by decide) hdq) rfl rfl rfl rfl (c_334 (Nat.le_trans (by decide) hdq) c2323.1 c2323.2.1 c2323.2.2.1 hNr c2323.2.2.2.1 (by decide)) (fun r2581 w2582 h2583 => ?_)
          obtain ⟨rfl, q2584⟩ := h2583
          obtain ⟨rfl, q2584z⟩ | ⟨q2584z, q2584b, q2584, q2584s, q2584t⟩ | ⟨q2584z, q2584b, q2584, q2584T, q2584H, q2584r⟩ := q2584
          · show e_Ok 20 elay ecode eI (d + 1) 352 (79, [(3, (0, w 275 79 + 3600)), (2, (0, w 275 79)), (1, (0, w 275 81)), (0, (1, 275))], [], w2309) _
            rw [u2321.out] at q2584z
            refine e_Ok.run (t' := (82, [(3, (0, w 275 79 + 3600)), (2, (0, w 275 79)), (1, (0, w 275 81)), (0, (1, 275))], [(0, w 275 79), (0, 3), (1, 275)], w2309)) 3 rfl ?_
            refine e_Ok.mul (z := 3 * w 275 79) rfl (by omega) (by omega) ?_
            refine e_Ok.putf rfl (el_o rfl) rfl rfl ?_
            generalize hw2585 : e_up w2309 275 81 (3 * w 275 79) = w2585
            have f2586 : e_fr (mStm (w 275 78) (w 275 79) (w 275 80) (w 275 94)) w w2585 := e_fr.up f2310 hw2585 (by unfold mStm; omega)
            have u2587 : Hid (w2585 275 78 = w 275 78 + 1) := Hid.mk (Eq.trans (by rw [← hw2585]; exact e_up_ne _ _ (Or.inr (by decide))) u2311.out)
            have u2588 : Hid (w2585 275 79 = w 275 79 + 1) := Hid.mk (Eq.trans (by rw [← hw2585]; exact e_up_ne _ _ (Or.inr (by decide))) u2312.out)
            have u2589 : Hid (w2585 275 80 = w 275 80) := Hid.mk (Eq.trans (by rw [← hw2585]; exact e_up_ne _ _ (Or.inr (by decide))) u2313.out)
            have u2590 : Hid (w2585 275 81 = 3 * w 275 79) := Hid.mk (by rw [← hw2585]; exact e_up_eq _ _ _ _)
            have u2591 : Hid (w2585 275 82 = w 275 82) := Hid.mk (Eq.trans (by rw [← hw2585]; exact e_up_ne _ _ (Or.inr (by decide))) u2315.out)
            have u2592 : Hid (w2585 275 83 = w 275 83 + 1) := Hid.mk (Eq.trans (by rw [← hw2585]; exact e_up_ne _ _ (Or.inr (by decide))) u2316.out)
            have u2593 : Hid (w2585 275 84 = w 275 84) := Hid.mk (Eq.trans (by rw [← hw2585]; exact e_up_ne _ _ (Or.inr (by decide))) u2317.out)
            have u2594 : Hid (w2585 275 85 = w 275 85) := Hid.mk (Eq.trans (by rw [← hw2585]; exact e_up_ne _ _ (Or.inr (by decide))) u2318.out)
            have u2595 : Hid (w2585 275 86 = w 275 86) := Hid.mk (Eq.trans (by rw [← hw2585]; exact e_up_ne _ _ (Or.inr (by decide))) u2319.out)
            have u2597 : Hid (w2585 275 88 = w5 275 88) := Hid.mk (Eq.trans (by rw [← hw2585]; exact e_up_ne _ _ (Or.inr (by decide))) u2321.out)
            have u2598 : Hid (w2585 275 94 = w 275 94) := Hid.mk (Eq.trans (by rw [← hw2585]; exact e_up_ne _ _ (Or.inr (by decide))) u2322.out)
            have c2599 := cSt.wr c2323 hw2585 (Or.inr rfl) (by omega) rfl (fun _ => ⟨⟨by decide, by decide⟩, fun y => by omega⟩)
            refine e_Ok.run (t' := (87, [(3, (0, w 275 79 + 3600)), (2, (0, w 275 79)), (1, (0, w 275 81)), (0, (1, 275))], [(1, 275)], w2585)) 1 rfl ?_
            refine e_Ok.callV rfl (Nat.le_trans (by decide) hdq) rfl rfl rfl rfl (c_348_0 (Nat.le_trans (by decide) hdq) c2599 (by rw [u2597.out] <;> omega)) (fun r2600 w2601 h2602 => ?_)
            obtain ⟨rfl, rfl⟩ := h2602
            show e_Ok 20 elay ecode eI (d + 1) 352 (90, [(3, (0, w 275 79 + 3600)), (2, (0, w 275 79)), (1, (0, w 275 81)), (0, (1, 275))], [], w2585) _
            refine e_Ok.run (t' := (94, [(3, (0, w 275 79 + 3600)), (2, (0, w 275 79)), (1, (0, w 275 81)), (0, (1, 275))], [(0, w 275 79), (0, 49), (1, 275)], w2585)) 3 rfl ?_
            refine e_Ok.callV rfl (Nat.le_trans (by decide) hdq) rfl rfl rfl rfl (c_336 c2599.1 (n := w 275 78 + 1) u2587.out (by omega) (s := 3 * w 275 79) u2590.out (by omega)) (fun r2603 w2604 h2605 => ?_)
            obtain ⟨rfl, q2606⟩ := h2605
            replace q2606 := (show Hid (EM w2585 w2604 (w 275 78 + 1) 49 (w 275 79) (3 * w 275 79)) from q2606)
            have u2607 : Hid (w2604 275 78 = w 275 78 + 2) := Hid.mk (Eq.trans q2606.out.2.2.2.2 (by omega))
            have u2608 : Hid (w2604 275 79 = w 275 79 + 1) := Hid.mk (Eq.trans (q2606.out.fld (by decide)) u2588.out)
            have u2609 : Hid (w2604 275 80 = w 275 80) := Hid.mk (Eq.trans (q2606.out.fld (by decide)) u2589.out)
            have u2611 : Hid (w2604 275 82 = w 275 82) := Hid.mk (Eq.trans (q2606.out.fld (by decide)) u2591.out)
            have u2612 : Hid (w2604 275 83 = w 275 83 + 1) := Hid.mk (Eq.trans (q2606.out.fld (by decide)) u2592.out)
            have u2613 : Hid (w2604 275 84 = w 275 84) := Hid.mk (Eq.trans (q2606.out.fld (by decide)) u2593.out)
            have u2614 : Hid (w2604 275 85 = w 275 85) := Hid.mk (Eq.trans (q2606.out.fld (by decide)) u2594.out)
            have u2615 : Hid (w2604 275 86 = w 275 86) := Hid.mk (Eq.trans (q2606.out.fld (by decide)) u2595.out)
            have u2617 : Hid (w2604 275 88 = w5 275 88) := Hid.mk (Eq.trans (q2606.out.fld (by decide)) u2597.out)
            have u2618 : Hid (w2604 275 94 = w 275 94) := Hid.mk (Eq.trans (q2606.out.fld (by decide)) u2598.out)
            have f2619 : e_fr (mStm (w 275 78) (w 275 79) (w 275 80) (w 275 94)) w w2604 := e_fr.trans f2586 (q2606.out.st (by omega))
            have c2620 := cSt.em c2599 q2606.out (by decide) (by omega) (by omega)
            show e_Ok 20 elay ecode eI (d + 1) 352 (97, [(3, (0, w 275 79 + 3600)), (2, (0, w 275 79)), (1, (0, w 275 81)), (0, (1, 275))], [(0, w 275 78 + 1)], w2604) _
            refine e_Ok.run (t' := (99, [(3, (0, w 275 79 + 3600)), (2, (0, w 275 79)), (1, (0, w 275 81)), (0, (1, 275))], [(1, 275)], w2604)) 2 rfl ?_
            refine e_Ok.getf (z := w5 275 88) rfl (el_o rfl) rfl rfl u2617.out (by omega) ?_
            refine e_Ok.if1 rfl (fun h2621 => ?_) (fun h2621 => ?_)
            · replace h2621 : (w5 275 88 : Int) ≠ 0 := h2621
              refine e_Ok.run (t' := (160, [(3, (0, w 275 79 + 3600)), (2, (0, w 275 79)), (1, (0, w 275 81)), (0, (1, 275))], [(1, 275)], w2604)) 1 rfl ?_
              refine e_Ok.getf (z := w5 275 88) rfl (el_o rfl) rfl rfl u2617.out (by omega) ?_
              refine e_Ok.if1 rfl (fun h2622 => ?_) (fun h2622 => ?_)
              · replace h2622 : (w5 275 88 : Int) ≠ 0 := h2622
                refine e_Ok.run (t' := (222, [(3, (0, w 275 79 + 3600)), (2, (0, w 275 79)), (1, (0, w 275 81)), (0, (1, 275))], [(0, w 275 81), (1, 275)], w2604)) 2 rfl ?_
                refine e_Ok.putf rfl (el_o rfl) rfl rfl ?_
                generalize hw2623 : e_up w2604 275 81 (w 275 81) = w2623
                have f2624 : e_fr (mStm (w 275 78) (w 275 79) (w 275 80) (w 275 94)) w w2623 := e_fr.up f2619 hw2623 (by unfold mStm; omega)
                have u2625 : Hid (w2623 275 78 = w 275 78 + 2) := Hid.mk (Eq.trans (by rw [← hw2623]; exact e_up_ne _ _ (Or.inr (by decide))) u2607.out)
                have u2626 : Hid (w2623 275 79 = w 275 79 + 1) := Hid.mk (Eq.trans (by rw [← hw2623]; exact e_up_ne _ _ (Or.inr (by decide))) u2608.out)
                have u2627 : Hid (w2623 275 80 = w 275 80) := Hid.mk (Eq.trans (by rw [← hw2623]; exact e_up_ne _ _ (Or.inr (by decide))) u2609.out)
                have u2628 : Hid (w2623 275 81 = w 275 81) := Hid.mk (by rw [← hw2623]; exact e_up_eq _ _ _ _)
                have u2629 : Hid (w2623 275 82 = w 275 82) := Hid.mk (Eq.trans (by rw [← hw2623]; exact e_up_ne _ _ (Or.inr (by decide))) u2611.out)
                have u2630 : Hid (w2623 275 83 = w 275 83 + 1) := Hid.mk (Eq.trans (by rw [← hw2623]; exact e_up_ne _ _ (Or.inr (by decide))) u2612.out)
                have u2631 : Hid (w2623 275 84 = w 275 84) := Hid.mk (Eq.trans (by rw [← hw2623]; exact e_up_ne _ _ (Or.inr (by decide))) u2613.out)
                have u2632 : Hid (w2623 275 85 = w 275 85) := Hid.mk (Eq.trans (by rw [← hw2623]; exact e_up_ne _ _ (Or.inr (by decide))) u2614.out)
                have u2633 : Hid (w2623 275 86 = w 275 86) := Hid.mk (Eq.trans (by rw [← hw2623]; exact e_up_ne _ _ (Or.inr (by decide))) u2615.out)
                have u2635 : Hid (w2623 275 88 = w5 275 88) := Hid.mk (Eq.trans (by rw [← hw2623]; exact e_up_ne _ _ (Or.inr (by decide))) u2617.out)
                have u2636 : Hid (w2623 275 94 = w 275 94) := Hid.mk (Eq.trans (by rw [← hw2623]; exact e_up_ne _ _ (Or.inr (by decide))) u2618.out)
                have c2637 := cSt.wr c2620 hw2623 (Or.inr rfl) (by omega) rfl (fun _ => ⟨⟨by decide, by decide⟩, fun y => by omega⟩)
                refine e_Ok.run (t' := (226, [(3, (0, w 275 79 + 3600)), (2, (0, w 275 79)), (1, (0, w 275 81)), (0, (1, 275))], [(1, 275)], w2623)) 1 rfl ?_
                refine e_Ok.getr (z := 334) rfl (el_o rfl) rfl rfl ((f2624 275 71 (by unfold mStm; omega)).trans (e_Has.eq hc.1 rfl)) (by omega) ?_
                refine e_Ok.run (t' := (231, [(3, (0, w 275 79 + 3600)), (2, (0, w 275 79)), (1, (0, w 275 81)), (0, (1, 275))], [(1, 275), (0, w 275 79 + 3600), (1, 334)], w2623)) 2 rfl ?_
                refine e_Ok.getf (z := w 275 78 + 2) rfl (el_o rfl) rfl rfl u2625.out (by omega) ?_
                refine e_Ok.ast rfl (el_o rfl) rfl rfl (by omega) ?_
                generalize hw2638 : e_up w2623 334 (w 275 79 + 3600) (w 275 78 + 2) = w2638
                have f2639 : e_fr (mStm (w 275 78) (w 275 79) (w 275 80) (w 275 94)) w w2638 := e_fr.up f2624 hw2638 (by unfold mStm; omega)
                have u2640 : Hid (w2638 275 78 = w 275 78 + 2) := Hid.mk (Eq.trans (by rw [← hw2638]; exact e_up_ne _ _ (Or.inl (by decide))) u2625.out)
                have u2641 : Hid (w2638 275 79 = w 275 79 + 1) := Hid.mk (Eq.trans (by rw [← hw2638]; exact e_up_ne _ _ (Or.inl (by decide))) u2626.out)
                have u2642 : Hid (w2638 275 80 = w 275 80) := Hid.mk (Eq.trans (by rw [← hw2638]; exact e_up_ne _ _ (Or.inl (by decide))) u2627.out)
                have u2643 : Hid (w2638 275 81 = w 275 81) := Hid.mk (Eq.trans (by rw [← hw2638]; exact e_up_ne _ _ (Or.inl (by decide))) u2628.out)
                have u2644 : Hid (w2638 275 82 = w 275 82) := Hid.mk (Eq.trans (by rw [← hw2638]; exact e_up_ne _ _ (Or.inl (by decide))) u2629.out)
                have u2645 : Hid (w2638 275 83 = w 275 83 + 1) := Hid.mk (Eq.trans (by rw [← hw2638]; exact e_up_ne _ _ (Or.inl (by decide))) u2630.out)
                have u2646 : Hid (w2638 275 84 = w 275 84) := Hid.mk (Eq.trans (by rw [← hw2638]; exact e_up_ne _ _ (Or.inl (by decide))) u2631.out)
                have u2647 : Hid (w2638 275 85 = w 275 85) := Hid.mk (Eq.trans (by rw [← hw2638]; exact e_up_ne _ _ (Or.inl (by decide))) u2632.out)
                have u2648 : Hid (w2638 275 86 = w 275 86) := Hid.mk (Eq.trans (by rw [← hw2638]; exact e_up_ne _ _ (Or.inl (by decide))) u2633.out)
                have u2650 : Hid (w2638 275 88 = w5 275 88) := Hid.mk (Eq.trans (by rw [← hw2638]; exact e_up_ne _ _ (Or.inl (by decide))) u2635.out)
                have u2651 : Hid (w2638 275 94 = w 275 94) := Hid.mk (Eq.trans (by rw [← hw2638]; exact e_up_ne _ _ (Or.inl (by decide))) u2636.out)
                have c2652 := cSt.wr c2637 hw2638 (Or.inl rfl) (by omega) rfl (fun y => absurd y (by decide))
                refine e_Ok.run (t' := (238, [(3, (0, w 275 79 + 3600)), (2, (0, w 275 79)), (1, (0, w 275 81)), (0, (1, 275))], [(0, 2), (1, 275), (1, 275)], w2638)) 3 rfl ?_
                refine e_Ok.callV rfl (Nat.le_trans (by decide) hdq) rfl rfl rfl rfl (c_332 c2652.1 (N := N) c2652.2.2.2.1) (fun r2653 w2654 h2655 => ?_)
                obtain ⟨z2656, rfl, rfl, q2657⟩ := h2655
                obtain ⟨rfl, q2657, q2657b⟩ | ⟨rfl, q2657n⟩ := q2657
                · show e_Ok 20 elay ecode eI (d + 1) 352 (241, [(3, (0, w 275 79 + 3600)), (2, (0, w 275 79)), (1, (0, w 275 81)), (0, (1, 275))], [(0, 1), (1, 275)], w2638) _
                  rw [u2646.out] at q2657
                  rw [u2647.out] at q2657b
                  refine e_Ok.callV rfl (Nat.le_trans (by decide) hdq) rfl rfl rfl rfl (c_334 (Nat.le_trans (by decide) hdq) c2652.1 c2652.2.1 c2652.2.2.1 hNr c2652.2.2.2.1 (by decide)) (fun r2658 w2659 h2660 => ?_)
                  obtain ⟨rfl, q2661⟩ := h2660
                  obtain ⟨rfl, q2661z⟩ | ⟨q2661z, q2661b, q2661, q2661s, q2661t⟩ | ⟨q2661z, q2661b, q2661, q2661T, q2661H, q2661r⟩ := q2661
                  · show e_Ok 20 elay ecode eI (d + 1) 352 (244, [(3, (0, w 275 79 + 3600)), (2, (0, w 275 79)), (1, (0, w 275 81)), (0, (1, 275))], [], w2638) _
                    rw [u2650.out] at q2661z
                    refine e_Ok.run (t' := (246, [(3, (0, w 275 79 + 3600)), (2, (0, w 275 79)), (1, (0, w 275 81)), (0, (1, 275))], [(1, 275), (1, 275)], w2638)) 2 rfl ?_
                    refine e_Ok.getf (z := w 275 83 + 1) rfl (el_o rfl) rfl rfl u2645.out (by omega) ?_
                    refine e_Ok.run (t' := (250, [(3, (0, w 275 79 + 3600)), (2, (0, w 275 79)), (1, (0, w 275 81)), (0, (1, 275))], [(0, 1), (0, w 275 83 + 1), (1, 275)], w2638)) 1 rfl ?_
                    refine e_Ok.sub' (z := w 275 83) rfl (by omega) (by omega) ?_
                    refine e_Ok.putf rfl (el_o rfl) rfl rfl ?_
                    generalize hw2662 : e_up w2638 275 83 (w 275 83) = w2662
                    have f2663 : e_fr (mStm (w 275 78) (w 275 79) (w 275 80) (w 275 94)) w w2662 := e_fr.up f2639 hw2662 (by unfold mStm; omega)
                    have e2664 := up83 hw2662
                    replace e2664 := (show Hid _ from e2664)
                    have u2665 : Hid (w2662 275 78 = w 275 78 + 2) := Hid.mk (Eq.trans (e2664.out.1 275 78 (by decide)) u2640.out)
                    have u2666 : Hid (w2662 275 79 = w 275 79 + 1) := Hid.mk (Eq.trans (e2664.out.1 275 79 (by decide)) u2641.out)
                    have u2667 : Hid (w2662 275 80 = w 275 80) := Hid.mk (Eq.trans (e2664.out.1 275 80 (by decide)) u2642.out)
                    have u2668 : Hid (w2662 275 81 = w 275 81) := Hid.mk (Eq.trans (e2664.out.1 275 81 (by decide)) u2643.out)
                    have u2669 : Hid (w2662 275 82 = w 275 82) := Hid.mk (Eq.trans (e2664.out.1 275 82 (by decide)) u2644.out)
                    have u2670 : Hid (w2662 275 83 = w 275 83) := Hid.mk (e2664.out.2)
                    have u2673 : Hid (w2662 275 86 = w 275 86) := Hid.mk (Eq.trans (e2664.out.1 275 86 (by decide)) u2648.out)
                    have u2675 : Hid (w2662 275 88 = w5 275 88) := Hid.mk (Eq.trans (e2664.out.1 275 88 (by decide)) u2650.out)
                    have u2676 : Hid (w2662 275 94 = w 275 94) := Hid.mk (Eq.trans (e2664.out.1 275 94 (by decide)) u2651.out)
                    have c2677 := cSt.up c2652 hw2662
                    refine e_Ok.rets rfl rfl ?_
                    exact ⟨rfl, f2663, c2677, (by unfold stL; rw [u2665.out, u2666.out, u2667.out, u2668.out, u2669.out, u2670.out, u2673.out, u2675.out, u2676.out]; omega), (fun z => by rw [u2675.out] at z; exact absurd z (by omega))⟩
                  · rw [u2650.out] at q2661z; exact absurd q2661z (by omega)
                  · rw [u2650.out] at q2661z; exact absurd q2661z (by omega)
                · show e_Ok 20 elay ecode eI (d + 1) 352 (241, [(3, (0, w 275 79 + 3600)), (2, (0, w 275 79)), (1, (0, w 275 81)), (0, (1, 275))], [(0, 0), (1, 275)], w2638) _
                  clear q2657n
                  refine e_Ok.callV rfl (Nat.le_trans (by decide) hdq) rfl rfl rfl rfl (c_334 (Nat.le_trans (by decide) hdq) c2652.1 c2652.2.1 c2652.2.2.1 hNr c2652.2.2.2.1 (by decide)) (fun r2678 w2679 h2680 => ?_)
                  obtain ⟨rfl, q2681⟩ := h2680
                  obtain ⟨rfl, q2681z⟩ | ⟨q2681z, q2681b, q2681, q2681s, q2681t⟩ | ⟨q2681z, q2681b, q2681, q2681T, q2681H, q2681r⟩ := q2681
                  · show e_Ok 20 elay ecode eI (d + 1) 352 (244, [(3, (0, w 275 79 + 3600)), (2, (0, w 275 79)), (1, (0, w 275 81)), (0, (1, 275))], [], w2638) _
                    rw [u2650.out] at q2681z
                    refine e_Ok.run (t' := (246, [(3, (0, w 275 79 + 3600)), (2, (0, w 275 79)), (1, (0, w 275 81)), (0, (1, 275))], [(1, 275), (1, 275)], w2638)) 2 rfl ?_
                    refine e_Ok.getf (z := w 275 83 + 1) rfl (el_o rfl) rfl rfl u2645.out (by omega) ?_
                    refine e_Ok.run (t' := (250, [(3, (0, w 275 79 + 3600)), (2, (0, w 275 79)), (1, (0, w 275 81)), (0, (1, 275))], [(0, 1), (0, w 275 83 + 1), (1, 275)], w2638)) 1 rfl ?_
                    refine e_Ok.sub' (z := w 275 83) rfl (by omega) (by omega) ?_
                    refine e_Ok.putf rfl (el_o rfl) rfl rfl ?_
                    generalize hw2682 : e_up w2638 275 83 (w 275 83) = w2682
                    have f2683 : e_fr (mStm (w 275 78) (w 275 79) (w 275 80) (w 275 94)) w w2682 := e_fr.up f2639 hw2682 (by unfold mStm; omega)
                    have e2684 := up83 hw2682
                    replace e2684 := (show Hid _ from e2684)
                    have u2685 : Hid (w2682 275 78 = w 275 78 + 2) := Hid.mk (Eq.trans (e2684.out.1 275 78 (by decide)) u2640.out)
                    have u2686 : Hid (w2682 275 79 = w 275 79 + 1) := Hid.mk (Eq.trans (e2684.out.1 275 79 (by decide)) u2641.out)
                    have u2687 : Hid (w2682 275 80 = w 275 80) := Hid.mk (Eq.trans (e2684.out.1 275 80 (by decide)) u2642.out)
                    have u2688 : Hid (w2682 275 81 = w 275 81) := Hid.mk (Eq.trans (e2684.out.1 275 81 (by decide)) u2643.out)
                    have u2689 : Hid (w2682 275 82 = w 275 82) := Hid.mk (Eq.trans (e2684.out.1 275 82 (by decide)) u2644.out)
                    have u2690 : Hid (w2682 275 83 = w 275 83) := Hid.mk (e2684.out.2)
                    have u2693 : Hid (w2682 275 86 = w 275 86) := Hid.mk (Eq.trans (e2684.out.1 275 86 (by decide)) u2648.out)
                    have u2695 : Hid (w2682 275 88 = w5 275 88) := Hid.mk (Eq.trans (e2684.out.1 275 88 (by decide)) u2650.out)
                    have u2696 : Hid (w2682 275 94 = w 275 94) := Hid.mk (Eq.trans (e2684.out.1 275 94 (by decide)) u2651.out)
                    have c2697 := cSt.up c2652 hw2682
                    refine e_Ok.rets rfl rfl ?_
                    exact ⟨rfl, f2683, c2697, (by unfold stL; rw [u2685.out, u2686.out, u2687.out, u2688.out, u2689.out, u2690.out, u2693.out, u2695.out, u2696.out]; omega), (fun z => by rw [u2695.out] at z; exact absurd z (by omega))⟩
                  · rw [u2650.out] at q2681z; exact absurd q2681z (by omega)
                  · rw [u2650.out] at q2681z; exact absurd q2681z (by omega)
              · replace h2622 : (w5 275 88 : Int) = 0 := by have q : ¬ ((w5 275 88 : Int) ≠ 0) := h2622; omega
                exfalso; omega
            · replace h2621 : (w5 275 88 : Int) = 0 := by have q : ¬ ((w5 275 88 : Int) ≠ 0) := h2621; omega
              exfalso; omega
          · rw [u2321.out] at q2584z; exact absurd q2584z (by omega)
          · rw [u2321.out] at q2584z; exact absurd q2584z (by omega)
        · show e_Ok 20 elay ecode eI (d + 1) 352 (76, [(3, (0, w 275 79 + 3600)), (2, (0, w 275 79)), (1, (0, w 275 81)), (0, (1, 275))], [(0, 0), (1, 275)], w2309) _
          clear q2580n
          refine e_Ok.callV rfl (Nat.le_trans (by decide) hdq) rfl rfl rfl rfl (c_334 (Nat.le_trans (by decide) hdq) c2323.1 c2323.2.1 c2323.2.2.1 hNr c2323.2.2.2.1 (by decide)) (fun r2698 w2699 h2700 => ?_)
          obtain ⟨rfl, q2701⟩ := h2700
          obtain ⟨rfl, q2701z⟩ | ⟨q2701z, q2701b, q2701, q2701s, q2701t⟩ | ⟨q2701z, q2701b, q2701, q2701T, q2701H, q2701r⟩ := q2701
          · show e_Ok 20 elay ecode eI (d + 1) 352 (79, [(3, (0, w 275 79 + 3600)), (2, (0, w 275 79)), (1, (0, w 275 81)), (0, (1, 275))], [], w2309) _
            rw [u2321.out] at q2701z
            refine e_Ok.run (t' := (82, [(3, (0, w 275 79 + 3600)), (2, (0, w 275 79)), (1, (0, w 275 81)), (0, (1, 275))], [(0, w 275 79), (0, 3), (1, 275)], w2309)) 3 rfl ?_
            refine e_Ok.mul (z := 3 * w 275 79) rfl (by omega) (by omega) ?_
            refine e_Ok.putf rfl (el_o rfl) rfl rfl ?_
            generalize hw2702 : e_up w2309 275 81 (3 * w 275 79) = w2702
            have f2703 : e_fr (mStm (w 275 78) (w 275 79) (w 275 80) (w 275 94)) w w2702 := e_fr.up f2310 hw2702 (by unfold mStm; omega)
            have u2704 : Hid (w2702 275 78 = w 275 78 + 1) := Hid.mk (Eq.trans (by rw [← hw2702]; exact e_up_ne _ _ (Or.inr (by decide))) u2311.out)
            have u2705 : Hid (w2702 275 79 = w 275 79 + 1) := Hid.mk (Eq.trans (by rw [← hw2702]; exact e_up_ne _ _ (Or.inr (by decide))) u2312.out)
            have u2706 : Hid (w2702 275 80 = w 275 80) := Hid.mk (Eq.trans (by rw [← hw2702]; exact e_up_ne _ _ (Or.inr (by decide))) u2313.out)
            have u2707 : Hid (w2702 275 81 = 3 * w 275 79) := Hid.mk (by rw [← hw2702]; exact e_up_eq _ _ _ _)
            have u2708 : Hid (w2702 275 82 = w 275 82) := Hid.mk (Eq.trans (by rw [← hw2702]; exact e_up_ne _ _ (Or.inr (by decide))) u2315.out)
            have u2709 : Hid (w2702 275 83 = w 275 83 + 1) := Hid.mk (Eq.trans (by rw [← hw2702]; exact e_up_ne _ _ (Or.inr (by decide))) u2316.out)
            have u2710 : Hid (w2702 275 84 = w 275 84) := Hid.mk (Eq.trans (by rw [← hw2702]; exact e_up_ne _ _ (Or.inr (by decide))) u2317.out)
            have u2711 : Hid (w2702 275 85 = w 275 85) := Hid.mk (Eq.trans (by rw [← hw2702]; exact e_up_ne _ _ (Or.inr (by decide))) u2318.out)
            have u2712 : Hid (w2702 275 86 = w 275 86) := Hid.mk (Eq.trans (by rw [← hw2702]; exact e_up_ne _ _ (Or.inr (by decide))) u2319.out)
            have u2714 : Hid (w2702 275 88 = w5 275 88) := Hid.mk (Eq.trans (by rw [← hw2702]; exact e_up_ne _ _ (Or.inr (by decide))) u2321.out)
            have u2715 : Hid (w2702 275 94 = w 275 94) := Hid.mk (Eq.trans (by rw [← hw2702]; exact e_up_ne _ _ (Or.inr (by decide))) u2322.out)
            have c2716 := cSt.wr c2323 hw2702 (Or.inr rfl) (by omega) rfl (fun _ => ⟨⟨by decide, by decide⟩, fun y => by omega⟩)
            refine e_Ok.run (t' := (87, [(3, (0, w 275 79 + 3600)), (2, (0, w 275 79)), (1, (0, w 275 81)), (0, (1, 275))], [(1, 275)], w2702)) 1 rfl ?_
            refine e_Ok.callV rfl (Nat.le_trans (by decide) hdq) rfl rfl rfl rfl (c_348_0 (Nat.le_trans (by decide) hdq) c2716 (by rw [u2714.out] <;> omega)) (fun r2717 w2718 h2719 => ?_)
            obtain ⟨rfl, rfl⟩ := h2719
            show e_Ok 20 elay ecode eI (d + 1) 352 (90, [(3, (0, w 275 79 + 3600)), (2, (0, w 275 79)), (1, (0, w 275 81)), (0, (1, 275))], [], w2702) _
            refine e_Ok.run (t' := (94, [(3, (0, w 275 79 + 3600)), (2, (0, w 275 79)), (1, (0, w 275 81)), (0, (1, 275))], [(0, w 275 79), (0, 49), (1, 275)], w2702)) 3 rfl ?_
            refine e_Ok.callV rfl (Nat.le_trans (by decide) hdq) rfl rfl rfl rfl (c_336 c2716.1 (n := w 275 78 + 1) u2704.out (by omega) (s := 3 * w 275 79) u2707.out (by omega)) (fun r2720 w2721 h2722 => ?_)
            obtain ⟨rfl, q2723⟩ := h2722
            replace q2723 := (show Hid (EM w2702 w2721 (w 275 78 + 1) 49 (w 275 79) (3 * w 275 79)) from q2723)
            have u2724 : Hid (w2721 275 78 = w 275 78 + 2) := Hid.mk (Eq.trans q2723.out.2.2.2.2 (by omega))
            have u2725 : Hid (w2721 275 79 = w 275 79 + 1) := Hid.mk (Eq.trans (q2723.out.fld (by decide)) u2705.out)
            have u2726 : Hid (w2721 275 80 = w 275 80) := Hid.mk (Eq.trans (q2723.out.fld (by decide)) u2706.out)
            have u2728 : Hid (w2721 275 82 = w 275 82) := Hid.mk (Eq.trans (q2723.out.fld (by decide)) u2708.out)
            have u2729 : Hid (w2721 275 83 = w 275 83 + 1) := Hid.mk (Eq.trans (q2723.out.fld (by decide)) u2709.out)
            have u2730 : Hid (w2721 275 84 = w 275 84) := Hid.mk (Eq.trans (q2723.out.fld (by decide)) u2710.out)
            have u2731 : Hid (w2721 275 85 = w 275 85) := Hid.mk (Eq.trans (q2723.out.fld (by decide)) u2711.out)
            have u2732 : Hid (w2721 275 86 = w 275 86) := Hid.mk (Eq.trans (q2723.out.fld (by decide)) u2712.out)
            have u2734 : Hid (w2721 275 88 = w5 275 88) := Hid.mk (Eq.trans (q2723.out.fld (by decide)) u2714.out)
            have u2735 : Hid (w2721 275 94 = w 275 94) := Hid.mk (Eq.trans (q2723.out.fld (by decide)) u2715.out)
            have f2736 : e_fr (mStm (w 275 78) (w 275 79) (w 275 80) (w 275 94)) w w2721 := e_fr.trans f2703 (q2723.out.st (by omega))
            have c2737 := cSt.em c2716 q2723.out (by decide) (by omega) (by omega)
            show e_Ok 20 elay ecode eI (d + 1) 352 (97, [(3, (0, w 275 79 + 3600)), (2, (0, w 275 79)), (1, (0, w 275 81)), (0, (1, 275))], [(0, w 275 78 + 1)], w2721) _
            refine e_Ok.run (t' := (99, [(3, (0, w 275 79 + 3600)), (2, (0, w 275 79)), (1, (0, w 275 81)), (0, (1, 275))], [(1, 275)], w2721)) 2 rfl ?_
            refine e_Ok.getf (z := w5 275 88) rfl (el_o rfl) rfl rfl u2734.out (by omega) ?_
            refine e_Ok.if1 rfl (fun h2738 => ?_) (fun h2738 => ?_)
            · replace h2738 : (w5 275 88 : Int) ≠ 0 := h2738
              refine e_Ok.run (t' := (160, [(3, (0, w 275 79 + 3600)), (2, (0, w 275 79)), (1, (0, w 275 81)), (0, (1, 275))], [(1, 275)], w2721)) 1 rfl ?_
              refine e_Ok.getf (z := w5 275 88) rfl (el_o rfl) rfl rfl u2734.out (by omega) ?_
              refine e_Ok.if1 rfl (fun h2739 => ?_) (fun h2739 => ?_)
              · replace h2739 : (w5 275 88 : Int) ≠ 0 := h2739
                refine e_Ok.run (t' := (222, [(3, (0, w 275 79 + 3600)), (2, (0, w 275 79)), (1, (0, w 275 81)), (0, (1, 275))], [(0, w 275 81), (1, 275)], w2721)) 2 rfl ?_
                refine e_Ok.putf rfl (el_o rfl) rfl rfl ?_
                generalize hw2740 : e_up w2721 275 81 (w 275 81) = w2740
                have f2741 : e_fr (mStm (w 275 78) (w 275 79) (w 275 80) (w 275 94)) w w2740 := e_fr.up f2736 hw2740 (by unfold mStm; omega)
                have u2742 : Hid (w2740 275 78 = w 275 78 + 2) := Hid.mk (Eq.trans (by rw [← hw2740]; exact e_up_ne _ _ (Or.inr (by decide))) u2724.out)
                have u2743 : Hid (w2740 275 79 = w 275 79 + 1) := Hid.mk (Eq.trans (by rw [← hw2740]; exact e_up_ne _ _ (Or.inr (by decide))) u2725.out)
                have u2744 : Hid (w2740 275 80 = w 275 80) := Hid.mk (Eq.trans (by rw [← hw2740]; exact e_up_ne _ _ (Or.inr (by decide))) u2726.out)
                have u2745 : Hid (w2740 275 81 = w 275 81) := Hid.mk (by rw [← hw2740]; exact e_up_eq _ _ _ _)
                have u2746 : Hid (w2740 275 82 = w 275 82) := Hid.mk (Eq.trans (by rw [← hw2740]; exact e_up_ne _ _ (Or.inr (by decide))) u2728.out)
                have u2747 : Hid (w2740 275 83 = w 275 83 + 1) := Hid.mk (Eq.trans (by rw [← hw2740]; exact e_up_ne _ _ (Or.inr (by decide))) u2729.out)
                have u2748 : Hid (w2740 275 84 = w 275 84) := Hid.mk (Eq.trans (by rw [← hw2740]; exact e_up_ne _ _ (Or.inr (by decide))) u2730.out)
                have u2749 : Hid (w2740 275 85 = w 275 85) := Hid.mk (Eq.trans (by rw [← hw2740]; exact e_up_ne _ _ (Or.inr (by decide))) u2731.out)
                have u2750 : Hid (w2740 275 86 = w 275 86) := Hid.mk (Eq.trans (by rw [← hw2740]; exact e_up_ne _ _ (Or.inr (by decide))) u2732.out)
                have u2752 : Hid (w2740 275 88 = w5 275 88) := Hid.mk (Eq.trans (by rw [← hw2740]; exact e_up_ne _ _ (Or.inr (by decide))) u2734.out)
                have u2753 : Hid (w2740 275 94 = w 275 94) := Hid.mk (Eq.trans (by rw [← hw2740]; exact e_up_ne _ _ (Or.inr (by decide))) u2735.out)
                have c2754 := cSt.wr c2737 hw2740 (Or.inr rfl) (by omega) rfl (fun _ => ⟨⟨by decide, by decide⟩, fun y => by omega⟩)
                refine e_Ok.run (t' := (226, [(3, (0, w 275 79 + 3600)), (2, (0, w 275 79)), (1, (0, w 275 81)), (0, (1, 275))], [(1, 275)], w2740)) 1 rfl ?_
                refine e_Ok.getr (z := 334) rfl (el_o rfl) rfl rfl ((f2741 275 71 (by unfold mStm; omega)).trans (e_Has.eq hc.1 rfl)) (by omega) ?_
                refine e_Ok.run (t' := (231, [(3, (0, w 275 79 + 3600)), (2, (0, w 275 79)), (1, (0, w 275 81)), (0, (1, 275))], [(1, 275), (0, w 275 79 + 3600), (1, 334)], w2740)) 2 rfl ?_
                refine e_Ok.getf (z := w 275 78 + 2) rfl (el_o rfl) rfl rfl u2742.out (by omega) ?_
                refine e_Ok.ast rfl (el_o rfl) rfl rfl (by omega) ?_
                generalize hw2755 : e_up w2740 334 (w 275 79 + 3600) (w 275 78 + 2) = w2755
                have f2756 : e_fr (mStm (w 275 78) (w 275 79) (w 275 80) (w 275 94)) w w2755 := e_fr.up f2741 hw2755 (by unfold mStm; omega)
                have u2757 : Hid (w2755 275 78 = w 275 78 + 2) := Hid.mk (Eq.trans (by rw [← hw2755]; exact e_up_ne _ _ (Or.inl (by decide))) u2742.out)
                have u2758 : Hid (w2755 275 79 = w 275 79 + 1) := Hid.mk (Eq.trans (by rw [← hw2755]; exact e_up_ne _ _ (Or.inl (by decide))) u2743.out)
                have u2759 : Hid (w2755 275 80 = w 275 80) := Hid.mk (Eq.trans (by rw [← hw2755]; exact e_up_ne _ _ (Or.inl (by decide))) u2744.out)
                have u2760 : Hid (w2755 275 81 = w 275 81) := Hid.mk (Eq.trans (by rw [← hw2755]; exact e_up_ne _ _ (Or.inl (by decide))) u2745.out)
                have u2761 : Hid (w2755 275 82 = w 275 82) := Hid.mk (Eq.trans (by rw [← hw2755]; exact e_up_ne _ _ (Or.inl (by decide))) u2746.out)
                have u2762 : Hid (w2755 275 83 = w 275 83 + 1) := Hid.mk (Eq.trans (by rw [← hw2755]; exact e_up_ne _ _ (Or.inl (by decide))) u2747.out)
                have u2763 : Hid (w2755 275 84 = w 275 84) := Hid.mk (Eq.trans (by rw [← hw2755]; exact e_up_ne _ _ (Or.inl (by decide))) u2748.out)
                have u2764 : Hid (w2755 275 85 = w 275 85) := Hid.mk (Eq.trans (by rw [← hw2755]; exact e_up_ne _ _ (Or.inl (by decide))) u2749.out)
                have u2765 : Hid (w2755 275 86 = w 275 86) := Hid.mk (Eq.trans (by rw [← hw2755]; exact e_up_ne _ _ (Or.inl (by decide))) u2750.out)
                have u2767 : Hid (w2755 275 88 = w5 275 88) := Hid.mk (Eq.trans (by rw [← hw2755]; exact e_up_ne _ _ (Or.inl (by decide))) u2752.out)
                have u2768 : Hid (w2755 275 94 = w 275 94) := Hid.mk (Eq.trans (by rw [← hw2755]; exact e_up_ne _ _ (Or.inl (by decide))) u2753.out)
                have c2769 := cSt.wr c2754 hw2755 (Or.inl rfl) (by omega) rfl (fun y => absurd y (by decide))
                refine e_Ok.run (t' := (238, [(3, (0, w 275 79 + 3600)), (2, (0, w 275 79)), (1, (0, w 275 81)), (0, (1, 275))], [(0, 2), (1, 275), (1, 275)], w2755)) 3 rfl ?_
                refine e_Ok.callV rfl (Nat.le_trans (by decide) hdq) rfl rfl rfl rfl (c_332 c2769.1 (N := N) c2769.2.2.2.1) (fun r2770 w2771 h2772 => ?_)
                obtain ⟨z2773, rfl, rfl, q2774⟩ := h2772
                obtain ⟨rfl, q2774, q2774b⟩ | ⟨rfl, q2774n⟩ := q2774
                · show e_Ok 20 elay ecode eI (d + 1) 352 (241, [(3, (0, w 275 79 + 3600)), (2, (0, w 275 79)), (1, (0, w 275 81)), (0, (1, 275))], [(0, 1), (1, 275)], w2755) _
                  rw [u2763.out] at q2774
                  rw [u2764.out] at q2774b
                  refine e_Ok.callV rfl (Nat.le_trans (by decide) hdq) rfl rfl rfl rfl (c_334 (Nat.le_trans (by decide) hdq) c2769.1 c2769.2.1 c2769.2.2.1 hNr c2769.2.2.2.1 (by decide)) (fun r2775 w2776 h2777 => ?_)
                  obtain ⟨rfl, q2778⟩ := h2777
                  obtain ⟨rfl, q2778z⟩ | ⟨q2778z, q2778b, q2778, q2778s, q2778t⟩ | ⟨q2778z, q2778b, q2778, q2778T, q2778H, q2778r⟩ := q2778
                  · show e_Ok 20 elay ecode eI (d + 1) 352 (244, [(3, (0, w 275 79 + 3600)), (2, (0, w 275 79)), (1, (0, w 275 81)), (0, (1, 275))], [], w2755) _
                    rw [u2767.out] at q2778z
                    refine e_Ok.run (t' := (246, [(3, (0, w 275 79 + 3600)), (2, (0, w 275 79)), (1, (0, w 275 81)), (0, (1, 275))], [(1, 275), (1, 275)], w2755)) 2 rfl ?_
                    refine e_Ok.getf (z := w 275 83 + 1) rfl (el_o rfl) rfl rfl u2762.out (by omega) ?_
                    refine e_Ok.run (t' := (250, [(3, (0, w 275 79 + 3600)), (2, (0, w 275 79)), (1, (0, w 275 81)), (0, (1, 275))], [(0, 1), (0, w 275 83 + 1), (1, 275)], w2755)) 1 rfl ?_
                    refine e_Ok.sub' (z := w 275 83) rfl (by omega) (by omega) ?_
                    refine e_Ok.putf rfl (el_o rfl) rfl rfl ?_
                    generalize hw2779 : e_up w2755 275 83 (w 275 83) = w2779
                    have f2780 : e_fr (mStm (w 275 78) (w 275 79) (w 275 80) (w 275 94)) w w2779 := e_fr.up f2756 hw2779 (by unfold mStm; omega)
                    have e2781 := up83 hw2779
                    replace e2781 := (show Hid _ from e2781)
                    have u2782 : Hid (w2779 275 78 = w 275 78 + 2) := Hid.mk (Eq.trans (e2781.out.1 275 78 (by decide)) u2757.out)
                    have u2783 : Hid (w2779 275 79 = w 275 79 + 1) := Hid.mk (Eq.trans (e2781.out.1 275 79 (by decide)) u2758.out)
                    have u2784 : Hid (w2779 275 80 = w 275 80) := Hid.mk (Eq.trans (e2781.out.1 275 80 (by decide)) u2759.out)
                    have u2785 : Hid (w2779 275 81 = w 275 81) := Hid.mk (Eq.trans (e2781.out.1 275 81 (by decide)) u2760.out)
                    have u2786 : Hid (w2779 275 82 = w 275 82) := Hid.mk (Eq.trans (e2781.out.1 275 82 (by decide)) u2761.out)
                    have u2787 : Hid (w2779 275 83 = w 275 83) := Hid.mk (e2781.out.2)
                    have u2790 : Hid (w2779 275 86 = w 275 86) := Hid.mk (Eq.trans (e2781.out.1 275 86 (by decide)) u2765.out)
                    have u2792 : Hid (w2779 275 88 = w5 275 88) := Hid.mk (Eq.trans (e2781.out.1 275 88 (by decide)) u2767.out)
                    have u2793 : Hid (w2779 275 94 = w 275 94) := Hid.mk (Eq.trans (e2781.out.1 275 94 (by decide)) u2768.out)
                    have c2794 := cSt.up c2769 hw2779
                    refine e_Ok.rets rfl rfl ?_
                    exact ⟨rfl, f2780, c2794, (by unfold stL; rw [u2782.out, u2783.out, u2784.out, u2785.out, u2786.out, u2787.out, u2790.out, u2792.out, u2793.out]; omega), (fun z => by rw [u2792.out] at z; exact absurd z (by omega))⟩
                  · rw [u2767.out] at q2778z; exact absurd q2778z (by omega)
                  · rw [u2767.out] at q2778z; exact absurd q2778z (by omega)
                · show e_Ok 20 elay ecode eI (d + 1) 352 (241, [(3, (0, w 275 79 + 3600)), (2, (0, w 275 79)), (1, (0, w 275 81)), (0, (1, 275))], [(0, 0), (1, 275)], w2755) _
                  clear q2774n
                  refine e_Ok.callV rfl (Nat.le_trans (by decide) hdq) rfl rfl rfl rfl (c_334 (Nat.le_trans (by decide) hdq) c2769.1 c2769.2.1 c2769.2.2.1 hNr c2769.2.2.2.1 (by decide)) (fun r2795 w2796 h2797 => ?_)
                  obtain ⟨rfl, q2798⟩ := h2797
                  obtain ⟨rfl, q2798z⟩ | ⟨q2798z, q2798b, q2798, q2798s, q2798t⟩ | ⟨q2798z, q2798b, q2798, q2798T, q2798H, q2798r⟩ := q2798
                  · show e_Ok 20 elay ecode eI (d + 1) 352 (244, [(3, (0, w 275 79 + 3600)), (2, (0, w 275 79)), (1, (0, w 275 81)), (0, (1, 275))], [], w2755) _
                    rw [u2767.out] at q2798z
                    refine e_Ok.run (t' := (246, [(3, (0, w 275 79 + 3600)), (2, (0, w 275 79)), (1, (0, w 275 81)), (0, (1, 275))], [(1, 275), (1, 275)], w2755)) 2 rfl ?_
                    refine e_Ok.getf (z := w 275 83 + 1) rfl (el_o rfl) rfl rfl u2762.out (by omega) ?_
                    refine e_Ok.run (t' := (250, [(3, (0, w 275 79 + 3600)), (2, (0, w 275 79)), (1, (0, w 275 81)), (0, (1, 275))], [(0, 1), (0, w 275 83 + 1), (1, 275)], w2755)) 1 rfl ?_
                    refine e_Ok.sub' (z := w 275 83) rfl (by omega) (by omega) ?_
                    refine e_Ok.putf rfl (el_o rfl) rfl rfl ?_
                    generalize hw2799 : e_up w2755 275 83 (w 275 83) = w2799
                    have f2800 : e_fr (mStm (w 275 78) (w 275 79) (w 275 80) (w 275 94)) w w2799 := e_fr.up f2756 hw2799 (by unfold mStm; omega)
                    have e2801 := up83 hw2799
                    replace e2801 := (show Hid _ from e2801)
                    have u2802 : Hid (w2799 275 78 = w 275 78 + 2) := Hid.mk (Eq.trans (e2801.out.1 275 78 (by decide)) u2757.out)
                    have u2803 : Hid (w2799 275 79 = w 275 79 + 1) := Hid.mk (Eq.trans (e2801.out.1 275 79 (by decide)) u2758.out)
                    have u2804 : Hid (w2799 275 80 = w 275 80) := Hid.mk (Eq.trans (e2801.out.1 275 80 (by decide)) u2759.out)
                    have u2805 : Hid (w2799 275 81 = w 275 81) := Hid.mk (Eq.trans (e2801.out.1 275 81 (by decide)) u2760.out)
                    have u2806 : Hid (w2799 275 82 = w 275 82) := Hid.mk (Eq.trans (e2801.out.1 275 82 (by decide)) u2761.out)
                    have u2807 : Hid (w2799 275 83 = w 275 83) := Hid.mk (e2801.out.2)
                    have u2810 : Hid (w2799 275 86 = w 275 86) := Hid.mk (Eq.trans (e2801.out.1 275 86 (by decide)) u2765.out)
                    have u2812 : Hid (w2799 275 88 = w5 275 88) := Hid.mk (Eq.trans (e2801.out.1 275 88 (by decide)) u2767.out)
                    have u2813 : Hid (w2799 275 94 = w 275 94) := Hid.mk (Eq.trans (e2801.out.1 275 94 (by decide)) u2768.out)
                    have c2814 := cSt.up c2769 hw2799
                    refine e_Ok.rets rfl rfl ?_
                    exact ⟨rfl, f2800, c2814, (by unfold stL; rw [u2802.out, u2803.out, u2804.out, u2805.out, u2806.out, u2807.out, u2810.out, u2812.out, u2813.out]; omega), (fun z => by rw [u2812.out] at z; exact absurd z (by omega))⟩
                  · rw [u2767.out] at q2798z; exact absurd q2798z (by omega)
                  · rw [u2767.out] at q2798z; exact absurd q2798z (by omega)
              · replace h2739 : (w5 275 88 : Int) = 0 := by have q : ¬ ((w5 275 88 : Int) ≠ 0) := h2739; omega
                exfalso; omega
            · replace h2738 : (w5 275 88 : Int) = 0 := by have q : ¬ ((w5 275 88 : Int) ≠ 0) := h2738; omega
              exfalso; omega
          · rw [u2321.out] at q2701z; exact absurd q2701z (by omega)
          · rw [u2321.out] at q2701z; exact absurd q2701z (by omega)
      · rw [u2321.out] at q2575z; exact absurd q2575z (by omega)
      · rw [u2321.out] at q2575z; exact absurd q2575z (by omega)
end
