noncomputable section
theorem o_ti {c k : Int} (q : mO c k) : mTi c k := by unfold mO at q; unfold mTi; omega
theorem o_idl {c k : Int} (q : mO c k) : idl c k := by unfold mO at q; unfold idl; omega
def mBk (w : eW) : Prop := w 275 5 = 2000 ∧ w 275 6 = 0
/-- how far time and events went -/
def evG (w w' : eW) : Prop := w 276 0 ≤ w' 276 0 ∧ w' 276 5 ≤ w 276 5 + 16 + 900 * (w' 276 0 - w 276 0)
theorem opS.ev {w wm w' : eW} {G : Int → Gh} {x a b c : Int} {s : Int → Int} (h : opS w w' G x a b c s) (hs : ∀ k, wm 276 k = s k) (he : evG w wm) : opS w w' G x a b c s ∧ evG w w' := by
  refine ⟨h, ?_⟩
  unfold evG at he ⊢
  rw [h.1 0, h.1 5, ← hs 0, ← hs 5]
  exact he
theorem c_422_x {d : Nat} {w : eW} (hT : e_Has mTy w) (hB : bkE w) : e_Ok 20 elay ecode eI d 422 (0, [(0, (1, 275))], [], w) (fun r w' => ∃ z : Int, r = [(0, z)] ∧ w = w' ∧ ((z = 1 ∧ mBk w) ∨ (z = 0 ∧ ¬ mBk w))) := by
  have hB1 := hB.1
  have hB2 := hB.2.1
  refine e_Ok.run (t' := (1, [(0, (1, 275))], [(1, 275)], w)) 1 rfl ?_
  refine e_Ok.getf (z := w 275 5) rfl (el_o rfl) rfl rfl rfl (by omega) ?_
  refine e_Ok.run (t' := (7, [(0, (1, 275))], [(0, 2000), (0, w 275 5)], w)) 1 rfl ?_
  refine e_Ok.if2 rfl (fun h1 => ?_) (fun h1 => ?_)
  · replace h1 : (w 275 5 : Int) ≠ 2000 := h1
    refine e_Ok.run (t' := (22, [(0, (1, 275))], [(0, 0)], w)) 1 rfl ?_
    refine e_Ok.rets rfl rfl ?_
    exact ⟨_, rfl, rfl, Or.inr ⟨rfl, by unfold mBk; omega⟩⟩
  · replace h1 : (w 275 5 : Int) = 2000 := by have q : ¬ ((w 275 5 : Int) ≠ 2000) := h1; omega
    refine e_Ok.run (t' := (11, [(0, (1, 275))], [(1, 275)], w)) 1 rfl ?_
    refine e_Ok.getf (z := w 275 6) rfl (el_o rfl) rfl rfl rfl (by omega) ?_
    refine e_Ok.if1 rfl (fun h2 => ?_) (fun h2 => ?_)
    · replace h2 : (w 275 6 : Int) ≠ 0 := h2
      refine e_Ok.run (t' := (22, [(0, (1, 275))], [(0, 0)], w)) 1 rfl ?_
      refine e_Ok.rets rfl rfl ?_
      exact ⟨_, rfl, rfl, Or.inr ⟨rfl, by unfold mBk; omega⟩⟩
    · replace h2 : (w 275 6 : Int) = 0 := by have q : ¬ ((w 275 6 : Int) ≠ 0) := h2; omega
      refine e_Ok.run (t' := (22, [(0, (1, 275))], [(0, 1)], w)) 2 rfl ?_
      refine e_Ok.rets rfl rfl ?_
      exact ⟨_, rfl, rfl, Or.inl ⟨rfl, by unfold mBk; omega⟩⟩
theorem no_99_0 : ¬ mTi 275 5 := by unfold mTi; omega
theorem no_99_1 : ¬ mTi 275 6 := by unfold mTi; omega
theorem no_99_2 {k : Int} : ¬ mTi 356 k := by unfold mTi; omega
theorem no_99_3 : ¬ mO 276 0 := by unfold mO; omega
theorem no_99_4 : ¬ mO 276 5 := by unfold mO; omega
set_option maxHeartbeats 4000000 in
theorem c_427 {d : Nat} (hd : 25 ≤ d) {w : eW} {G : Int → Gh} (hI : mInv w G) (hB : bkE w) (hE : w 276 5 ≤ 7000000) {p1 p2 : Int} (g1 : -2147483648 ≤ p1 ∧ p1 ≤ 2147483647) (g2 : -2147483648 ≤ p2 ∧ p2 ≤ 2147483647) : e_Ok 20 elay ecode eI d 427 (0, [(0, (1, 275)), (1, (0, p1)), (2, (0, p2))], [], w) (fun r w' => ∃ z : Int, r = [(0, z)] ∧ ((w = w' ∧ ¬ ((0 ≤ p1 ∧ p1 ≤ 63 ∧ w 275 3 = 1) ∧ ¬ mBk w)) ∨ ((0 ≤ p1 ∧ p1 ≤ 63 ∧ w 275 3 = 1) ∧ ¬ mBk w ∧ opS w w' G 2 p1 p2 0 (nowF 323 [(0, (1, 275)), (1, (0, p1)), (2, (0, p2))] w) ∧ evG w w'))) := by
  obtain ⟨d, rfl⟩ : ∃ e, d = e + 1 := ⟨d - 1, by omega⟩
  refine e_Ok.run (t' := (2, [(0, (1, 275)), (1, (0, p1)), (2, (0, p2))], [(0, p1), (1, 275)], w)) 2 rfl ?_
  refine e_Ok.callV rfl (by omega) rfl rfl rfl rfl (c_424 (by omega)) (fun r1 w2 h3 => ?_)
  obtain ⟨z4, rfl, rfl, q5⟩ := h3
  obtain ⟨rfl, q5⟩ | ⟨rfl, q5⟩ := q5
  · show e_Ok 20 elay ecode eI (d + 1) 427 (5, [(0, (1, 275)), (1, (0, p1)), (2, (0, p2))], [(0, 1)], w) _
    refine e_Ok.if1 rfl (fun h6 => ?_) (fun h6 => ?_)
    · replace h6 : (1 : Int) ≠ 0 := h6
      refine e_Ok.run (t' := (11, [(0, (1, 275)), (1, (0, p1)), (2, (0, p2))], [(1, 275)], w)) 1 rfl ?_
      have h7 := (e_Has.get hI.1 (c := 275) (k := 3) (lo := 0) (hi := 1) rfl (by decide))
      refine e_Ok.getf (z := w 275 3) rfl (el_o rfl) rfl rfl rfl (by omega) ?_
      refine e_Ok.if1 rfl (fun h8 => ?_) (fun h8 => ?_)
      · replace h8 : (w 275 3 : Int) ≠ 0 := h8
        refine e_Ok.run (t' := (21, [(0, (1, 275)), (1, (0, p1)), (2, (0, p2))], [(1, 275)], w)) 1 rfl ?_
        refine e_Ok.callV rfl (by omega) rfl rfl rfl rfl (c_422_x hI.1 hB) (fun r9 w10 h11 => ?_)
        obtain ⟨z12, rfl, rfl, q13⟩ := h11
        obtain ⟨rfl, q13⟩ | ⟨rfl, q13⟩ := q13
        · show e_Ok 20 elay ecode eI (d + 1) 427 (24, [(0, (1, 275)), (1, (0, p1)), (2, (0, p2))], [(0, 1)], w) _
          refine e_Ok.if1 rfl (fun h14 => ?_) (fun h14 => ?_)
          · replace h14 : (1 : Int) = 0 := h14
            exfalso; omega
          · replace h14 : (1 : Int) ≠ 0 := by have q : ¬ ((1 : Int) = 0) := h14; omega
            refine e_Ok.run (t' := (29, [(0, (1, 275)), (1, (0, p1)), (2, (0, p2))], [(0, (-3))], w)) 1 rfl ?_
            refine e_Ok.rets rfl rfl ?_
            exact ⟨_, rfl, Or.inl ⟨rfl, fun hc => by first | exact hc.2 (by assumption) | (have h1 := hc.1; omega)⟩⟩
        · show e_Ok 20 elay ecode eI (d + 1) 427 (24, [(0, (1, 275)), (1, (0, p1)), (2, (0, p2))], [(0, 0)], w) _
          refine e_Ok.if1 rfl (fun h15 => ?_) (fun h15 => ?_)
          · replace h15 : (0 : Int) = 0 := h15
            refine e_Ok.run (t' := (31, [(0, (1, 275)), (1, (0, p1)), (2, (0, p2))], [(1, 275)], w)) 1 rfl ?_
            refine e_Ok.getr (z := 276) rfl (el_o rfl) rfl rfl (e_Has.eq hI.1 rfl) (by omega) ?_
            refine e_Ok.run (t' := (38, [(0, (1, 275)), (1, (0, p1)), (2, (0, p2))], [(0, p1), (0, 160), (1, 276)], w)) 2 rfl ?_
            refine e_Ok.add (z := p1 + 160) rfl (by omega) (by omega) ?_
            have h16 := (e_Has.get hI.1 (c := 276) (k := p1 + 160) (lo := (-2147483648)) (hi := 2147483647) (nR_OWN (p := p1) (by omega)) (by decide))
            refine e_Ok.ald (z := w 276 (p1 + 160)) rfl (el_o rfl) rfl (by omega) rfl (by omega) ?_
            refine e_Ok.run (t' := (44, [(3, (0, w 276 (p1 + 160))), (0, (1, 275)), (1, (0, p1)), (2, (0, p2))], [(0, p2), (0, p1), (1, 275)], w)) 4 rfl ?_
            refine e_Ok.callV rfl (by omega) rfl rfl rfl rfl (d_323 (by omega) hI.1 hI.2.1 (by omega) (by omega)) (fun r17 w18 h19 => ?_)
            obtain ⟨⟨rfl, q20, q20T⟩, q20s⟩ := h19
            have f21 : e_fr mTi w w18 := e_fr.trans (e_fr.refl w) (e_fr.mono q20 (fun c k q => by exact o_ti q))
            have hI22 : mInv w18 G := mInv.same hI q20 q20T (fun c k q => o_idl q)
            show e_Ok 20 elay ecode eI (d + 1) 427 (47, [(3, (0, w 276 (p1 + 160))), (0, (1, 275)), (1, (0, p1)), (2, (0, p2))], [], w18) _
            refine e_Ok.run (t' := (52, [(3, (0, w 276 (p1 + 160))), (0, (1, 275)), (1, (0, p1)), (2, (0, p2))], [(0, 0), (0, p2), (0, p1), (0, 2), (1, 275)], w18)) 5 rfl ?_
            refine e_Ok.callV rfl (by omega) rfl rfl rfl rfl (c_423_u (by omega) q20T (bkE.fr hB (f21 275 5 no_99_0) (f21 275 6 no_99_1) (fun k => f21 356 k no_99_2)).1 (fun e => by have e5 : w18 275 5 = w 275 5 := f21 275 5 no_99_0; have e6 : w18 275 6 = w 275 6 := f21 275 6 no_99_1; have h1 := hB.1; have h2 := (show ¬ mBk w by assumption); unfold mBk at h2; omega) (by decide) (fun e => by omega)) (fun r23 w24 h25 => ?_)
            obtain ⟨rfl, q26⟩ := h25
            show e_Ok 20 elay ecode eI (d + 1) 427 (55, [(3, (0, w 276 (p1 + 160))), (0, (1, 275)), (1, (0, p1)), (2, (0, p2))], [], w24) _
            refine e_Ok.run (t' := (56, [(3, (0, w 276 (p1 + 160))), (0, (1, 275)), (1, (0, p1)), (2, (0, p2))], [(0, w 276 (p1 + 160))], w24)) 1 rfl ?_
            refine e_Ok.rets rfl rfl ?_
            have ek0 : w18 276 0 = w 276 0 := ((q20 276 0 no_99_3).trans rfl)
            have ek5 : w18 276 5 = w 276 5 := ((q20 276 5 no_99_4).trans rfl)
            exact ⟨_, rfl, Or.inr ⟨⟨by omega, by omega, by omega⟩, by assumption, opS.ev (wm := w18) (opS.of f21 hI22 q20s q26) q20s (by unfold evG; omega)⟩⟩
          · replace h15 : (0 : Int) ≠ 0 := by have q : ¬ ((0 : Int) = 0) := h15; omega
            exfalso; omega
      · replace h8 : (w 275 3 : Int) = 0 := by have q : ¬ ((w 275 3 : Int) ≠ 0) := h8; omega
        refine e_Ok.run (t' := (19, [(0, (1, 275)), (1, (0, p1)), (2, (0, p2))], [(0, (-2))], w)) 1 rfl ?_
        refine e_Ok.rets rfl rfl ?_
        exact ⟨_, rfl, Or.inl ⟨rfl, fun hc => by first | exact hc.2 (by assumption) | (have h1 := hc.1; omega)⟩⟩
    · replace h6 : (1 : Int) = 0 := by have q : ¬ ((1 : Int) ≠ 0) := h6; omega
      exfalso; omega
  · show e_Ok 20 elay ecode eI (d + 1) 427 (5, [(0, (1, 275)), (1, (0, p1)), (2, (0, p2))], [(0, 0)], w) _
    refine e_Ok.if1 rfl (fun h27 => ?_) (fun h27 => ?_)
    · replace h27 : (0 : Int) ≠ 0 := h27
      exfalso; omega
    · replace h27 : (0 : Int) = 0 := by have q : ¬ ((0 : Int) ≠ 0) := h27; omega
      refine e_Ok.run (t' := (9, [(0, (1, 275)), (1, (0, p1)), (2, (0, p2))], [(0, (-1))], w)) 1 rfl ?_
      refine e_Ok.rets rfl rfl ?_
      exact ⟨_, rfl, Or.inl ⟨rfl, fun hc => by first | exact hc.2 (by assumption) | (have h1 := hc.1; omega)⟩⟩
end
