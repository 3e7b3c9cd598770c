noncomputable section
/-! tokens with light types -/
def kLt (c k : Int) : Int × Int := if c = 1 ∧ k = 4 then (5, 5) else (1, 0)
def kLr (c k : Int) : Int × Int := if c = 1 then (if k = 0 then (0, 4000) else if k = 5 then (0, 53) else if k = 6 then (0, 4000) else if k = 7 then (0, 4000) else if k = 8 then (-2147483648, 2147483647) else (1, 0)) else if c = 5 then (-2147483648, 2147483647) else (1, 0)
def mLq (c k : Int) : Int × Int := if c = 275 ∧ k = 8 then (281, 281) else (1, 0)
def mLr (c k : Int) : Int × Int := if c = 281 then (-128, 127) else (1, 0)
theorem mLT_Tq {w w' : eW} (f : e_fr mTq w w') (h : e_Has mLq w) : e_Has mLq w' := h.fr (fun c k q => by unfold mTq at q; unfold mLq; rw [if_neg (by omega)]) f
theorem mLH_Tq {w w' : eW} (f : e_fr mTq w w') (h : e_Has mLr w) : e_Has mLr w' := h.fr (fun c k q => by unfold mTq at q; unfold mLr; rw [if_neg (by omega)]) f
theorem l_120 {d : Nat} {w : eW} (hT : e_Has kLt w) (hH : e_Has kLr w) {i : Int} (g_i : (-2147483648) ≤ i ∧ i ≤ 2147483647) : e_Ok 20 elay kcode eI d 120 (0, [(0, (1, 1)), (1, (0, i))], [], w) (fun r w' => ∃ z : Int, r = [(0, z)] ∧ w = w' ∧ (0 ≤ z ∧ z ≤ 255) ∧ ((0 ≤ i ∧ i < w 1 0 ∧ z = w 5 i % 256) ∨ ((i < 0 ∨ w 1 0 ≤ i) ∧ z = 0))) := by
  have h0 := e_Has.get hH (c := 1) (k := 0) (lo := 0) (hi := 4000) rfl (by decide)
  refine e_Ok.run (t' := (1, [(0, (1, 1)), (1, (0, i))], [(0, i)], w)) 1 rfl ?_
  refine e_Ok.if1 rfl (fun h1 => ?_) (fun h1 => ?_)
  · replace h1 : (i : Int) < 0 := h1
    refine e_Ok.run (t' := (26, [(0, (1, 1)), (1, (0, i))], [(0, 0)], w)) 1 rfl ?_
    refine e_Ok.rets rfl rfl ?_
    exact ⟨_, rfl, rfl, by omega, Or.inr ⟨by omega, rfl⟩⟩
  · replace h1 : (i : Int) ≥ 0 := by have q : ¬ ((i : Int) < 0) := h1; omega
    refine e_Ok.run (t' := (6, [(0, (1, 1)), (1, (0, i))], [(1, 1), (0, i)], w)) 2 rfl ?_
    have h2 := (e_Has.get hH (c := 1) (k := 0) (lo := 0) (hi := 4000) rfl (by decide))
    refine e_Ok.getf (z := w 1 0) rfl rfl rfl rfl rfl (by omega) ?_
    refine e_Ok.if2 rfl (fun h3 => ?_) (fun h3 => ?_)
    · replace h3 : (i : Int) ≥ w 1 0 := h3
      refine e_Ok.run (t' := (26, [(0, (1, 1)), (1, (0, i))], [(0, 0)], w)) 1 rfl ?_
      refine e_Ok.rets rfl rfl ?_
      exact ⟨_, rfl, rfl, by omega, Or.inr ⟨by omega, rfl⟩⟩
    · replace h3 : (i : Int) < w 1 0 := by have q : ¬ ((i : Int) ≥ w 1 0) := h3; omega
      refine e_Ok.run (t' := (13, [(0, (1, 1)), (1, (0, i))], [(1, 1)], w)) 1 rfl ?_
      refine e_Ok.getr (z := 5) rfl rfl rfl rfl (Eq.trans (e_Has.eq hT rfl) (by omega)) (by omega) ?_
      refine e_Ok.run (t' := (17, [(0, (1, 1)), (1, (0, i))], [(0, i), (1, 5)], w)) 1 rfl ?_
      have h4 := (e_Has.get hH (c := 5) (k := i) (lo := (-2147483648)) (hi := 2147483647) rfl (by decide))
      refine e_Ok.ald (z := w 5 i) rfl rfl rfl (by omega) rfl (by omega) ?_
      refine e_Ok.run (t' := (21, [(0, (1, 1)), (1, (0, i))], [(0, 255), (0, w 5 i)], w)) 1 rfl ?_
      refine e_Ok.andm 255 8 rfl (by decide) (fun z5 hz5 => ?_)
      replace hz5 : z5 = (w 5 i) % 256 := hz5
      have hz5r : 0 ≤ z5 ∧ z5 ≤ 255 := by omega
      refine e_Ok.run (t' := (26, [(0, (1, 1)), (1, (0, i))], [(0, z5)], w)) 1 rfl ?_
      refine e_Ok.rets rfl rfl ?_
      exact ⟨_, rfl, rfl, by omega, Or.inl ⟨by omega, by omega, by omega⟩⟩
theorem l_124 {d : Nat} (hd : 21 ≤ d) {w : eW} (hT : e_Has kLt w) (hH : e_Has kLr w) (hn : w 1 7 ≤ w 1 0) : e_Ok 20 elay kcode eI d 124 (0, [(0, (1, 1))], [], w) (fun r w' => r = [] ∧ e_fr kRn w w' ∧ e_Has kLt w' ∧ e_Has kLr w' ∧ (w 1 7 ≤ w' 1 7 ∧ w' 1 7 ≤ w 1 0)) := by
  obtain ⟨d, rfl⟩ : ∃ e, d = e + 1 := ⟨d - 1, by omega⟩
  have p0 := e_Has.get hH (c := 1) (k := 0) (lo := 0) (hi := 4000) rfl (by decide)
  have p6 := e_Has.get hH (c := 1) (k := 6) (lo := 0) (hi := 4000) rfl (by decide)
  have p7 := e_Has.get hH (c := 1) (k := 7) (lo := 0) (hi := 4000) rfl (by decide)
  refine e_Ok.run (t' := (2, [(1, (0, 0)), (0, (1, 1))], [], w)) 2 rfl ?_
  have hL1 : ∀ (nn : Nat) (y1 : Int) (v1 : eW), e_fr kRn w v1 ∧ e_Has kLt v1 ∧ e_Has kLr v1 ∧ ((w 1 7 ≤ v1 1 7 ∧ v1 1 7 ≤ w 1 0)) ∧ ((0 ≤ y1 ∧ y1 ≤ 1)) → 4001 - v1 1 7 < nn → e_Ok 20 elay kcode eI (d + 1) 124 (2, [(0, (1, 1)), (1, (0, y1))], [], v1) (fun r w' => r = [] ∧ e_fr kRn w w' ∧ e_Has kLt w' ∧ e_Has kLr w' ∧ (w 1 7 ≤ w' 1 7 ∧ w' 1 7 ≤ w 1 0)) := by
    intro nn
    induction nn with
    | zero => intro y1 v1 hj hm; obtain ⟨j3, j4, j5, j6, j7⟩ := hj; exfalso; omega
    | succ nn ih2 =>
      intro y1 v1 hj hm
      obtain ⟨j3, j4, j5, j6, j7⟩ := hj
      have u7 := e_Has.get j5 (c := 1) (k := 7) (lo := 0) (hi := 4000) rfl (by decide)
      refine e_Ok.run (t' := (3, [(0, (1, 1)), (1, (0, y1))], [(1, 1)], v1)) 1 rfl ?_
      refine e_Ok.getf (z := v1 1 7) rfl rfl rfl rfl rfl (by omega) ?_
      refine e_Ok.run (t' := (7, [(0, (1, 1)), (1, (0, y1))], [(1, 1), (0, v1 1 7)], v1)) 1 rfl ?_
      have h8 := (e_Has.get hH (c := 1) (k := 0) (lo := 0) (hi := 4000) rfl (by decide))
      refine e_Ok.getf (z := w 1 0) rfl rfl rfl rfl ((j3 1 0 (by unfold kRn; omega)).trans rfl) (by omega) ?_
      refine e_Ok.if2 rfl (fun h9 => ?_) (fun h9 => ?_)
      · replace h9 : (v1 1 7 : Int) ≥ w 1 0 := h9
        refine e_Ok.rets rfl rfl ?_
        have y5 : v1 1 5 = v1 1 5 := rfl
        have y6 : v1 1 6 = w 1 6 := ((j3 1 6 (by unfold kRn; omega)).trans rfl)
        have y7 : v1 1 7 = v1 1 7 := rfl
        have y8 : v1 1 8 = v1 1 8 := rfl
        exact ⟨rfl, j3, j4, j5, by omega⟩
      · replace h9 : (v1 1 7 : Int) < w 1 0 := by have q : ¬ ((v1 1 7 : Int) ≥ w 1 0) := h9; omega
        refine e_Ok.run (t' := (15, [(0, (1, 1)), (1, (0, y1))], [(1, 1), (1, 1)], v1)) 2 rfl ?_
        refine e_Ok.getf (z := v1 1 7) rfl rfl rfl rfl rfl (by omega) ?_
        refine e_Ok.callV rfl (by omega) rfl rfl rfl rfl (l_120 j4 j5 (by omega)) (fun r10 w11 h12 => ?_)
        obtain ⟨z13, rfl, rfl, q14r, q14x⟩ := h12
        replace q14x : (0 ≤ (v1 1 7) ∧ (v1 1 7) < (w 1 0) ∧ z13 = (w 5 (v1 1 7)) % 256) ∨ (((v1 1 7) < 0 ∨ (w 1 0) ≤ (v1 1 7)) ∧ z13 = 0) := by rw [show v1 1 0 = w 1 0 from ((j3 1 0 (by unfold kRn; omega)).trans rfl), show v1 5 (v1 1 7) = w 5 (v1 1 7) from ((j3 5 (v1 1 7) (by unfold kRn; omega)).trans rfl)] at q14x; exact q14x
        show e_Ok 20 elay kcode eI (d + 1) 124 (21, [(0, (1, 1)), (1, (0, y1))], [(0, z13)], v1) _
        refine e_Ok.run (t' := (25, [(2, (0, z13)), (0, (1, 1)), (1, (0, y1))], [(0, 35), (0, z13)], v1)) 3 rfl ?_
        refine e_Ok.if2 rfl (fun h15 => ?_) (fun h15 => ?_)
        · replace h15 : (z13 : Int) ≠ 35 := h15
          refine e_Ok.run (t' := (36, [(2, (0, z13)), (0, (1, 1)), (1, (0, y1))], [(0, 10), (0, z13)], v1)) 2 rfl ?_
          refine e_Ok.if2 rfl (fun h16 => ?_) (fun h16 => ?_)
          · replace h16 : (z13 : Int) ≠ 10 := h16
            refine e_Ok.run (t' := (47, [(2, (0, z13)), (0, (1, 1)), (1, (0, y1))], [(0, 32), (0, z13)], v1)) 2 rfl ?_
            refine e_Ok.if2 rfl (fun h17 => ?_) (fun h17 => ?_)
            · replace h17 : (z13 : Int) ≤ 32 := h17
              refine e_Ok.run (t' := (57, [(2, (0, z13)), (0, (1, 1)), (1, (0, y1))], [(1, 1), (1, 1)], v1)) 2 rfl ?_
              refine e_Ok.getf (z := v1 1 7) rfl rfl rfl rfl rfl (by omega) ?_
              refine e_Ok.run (t' := (61, [(2, (0, z13)), (0, (1, 1)), (1, (0, y1))], [(0, 1), (0, v1 1 7), (1, 1)], v1)) 1 rfl ?_
              refine e_Ok.add (z := v1 1 7 + 1) rfl (by omega) (by omega) ?_
              refine e_Ok.putf rfl rfl rfl rfl ?_
              generalize hw18 : e_up v1 1 7 (v1 1 7 + 1) = w18
              have f19 : e_fr kRn w w18 := e_fr.up j3 hw18 (by unfold kRn; omega)
              have hT20 : e_Has kLt w18 := e_Has.ups j4 hw18 rfl
              have hH21 : e_Has kLr w18 := e_Has.upr j5 hw18 rfl (by omega)
              refine e_Ok.run (t' := (2, [(2, (0, z13)), (0, (1, 1)), (1, (0, y1))], [], w18)) 1 rfl ?_
              refine e_Ok.sub kAlk (e_sub_of rfl ?_) (ih2 y1 w18 ⟨f19, hT20, hH21, (by have g7 : w18 1 7 = v1 1 7 + 1 := (by rw [← hw18]; exact e_up_eq _ _ _ _); omega), (by omega)⟩ ((by have g7 : w18 1 7 = v1 1 7 + 1 := (by rw [← hw18]; exact e_up_eq _ _ _ _); omega)))
              exact ⟨rfl, rfl, trivial⟩
            · replace h17 : (z13 : Int) > 32 := by have q : ¬ ((z13 : Int) ≤ 32) := h17; omega
              refine e_Ok.run (t' := (51, [(2, (0, z13)), (0, (1, 1)), (1, (0, y1))], [(0, y1)], v1)) 1 rfl ?_
              refine e_Ok.if1 rfl (fun h22 => ?_) (fun h22 => ?_)
              · replace h22 : (y1 : Int) ≠ 0 := h22
                refine e_Ok.run (t' := (57, [(2, (0, z13)), (0, (1, 1)), (1, (0, y1))], [(1, 1), (1, 1)], v1)) 2 rfl ?_
                refine e_Ok.getf (z := v1 1 7) rfl rfl rfl rfl rfl (by omega) ?_
                refine e_Ok.run (t' := (61, [(2, (0, z13)), (0, (1, 1)), (1, (0, y1))], [(0, 1), (0, v1 1 7), (1, 1)], v1)) 1 rfl ?_
                refine e_Ok.add (z := v1 1 7 + 1) rfl (by omega) (by omega) ?_
                refine e_Ok.putf rfl rfl rfl rfl ?_
                generalize hw23 : e_up v1 1 7 (v1 1 7 + 1) = w23
                have f24 : e_fr kRn w w23 := e_fr.up j3 hw23 (by unfold kRn; omega)
                have hT25 : e_Has kLt w23 := e_Has.ups j4 hw23 rfl
                have hH26 : e_Has kLr w23 := e_Has.upr j5 hw23 rfl (by omega)
                refine e_Ok.run (t' := (2, [(2, (0, z13)), (0, (1, 1)), (1, (0, y1))], [], w23)) 1 rfl ?_
                refine e_Ok.sub kAlk (e_sub_of rfl ?_) (ih2 y1 w23 ⟨f24, hT25, hH26, (by have g7 : w23 1 7 = v1 1 7 + 1 := (by rw [← hw23]; exact e_up_eq _ _ _ _); omega), (by omega)⟩ ((by have g7 : w23 1 7 = v1 1 7 + 1 := (by rw [← hw23]; exact e_up_eq _ _ _ _); omega)))
                exact ⟨rfl, rfl, trivial⟩
              · replace h22 : (y1 : Int) = 0 := by have q : ¬ ((y1 : Int) ≠ 0) := h22; omega
                refine e_Ok.rets rfl rfl ?_
                have y5 : v1 1 5 = v1 1 5 := rfl
                have y6 : v1 1 6 = w 1 6 := ((j3 1 6 (by unfold kRn; omega)).trans rfl)
                have y7 : v1 1 7 = v1 1 7 := rfl
                have y8 : v1 1 8 = v1 1 8 := rfl
                exact ⟨rfl, j3, j4, j5, by omega⟩
          · replace h16 : (z13 : Int) = 10 := by have q : ¬ ((z13 : Int) ≠ 10) := h16; omega
            refine e_Ok.run (t' := (57, [(1, (0, 0)), (2, (0, z13)), (0, (1, 1))], [(1, 1), (1, 1)], v1)) 5 rfl ?_
            refine e_Ok.getf (z := v1 1 7) rfl rfl rfl rfl rfl (by omega) ?_
            refine e_Ok.run (t' := (61, [(1, (0, 0)), (2, (0, z13)), (0, (1, 1))], [(0, 1), (0, v1 1 7), (1, 1)], v1)) 1 rfl ?_
            refine e_Ok.add (z := v1 1 7 + 1) rfl (by omega) (by omega) ?_
            refine e_Ok.putf rfl rfl rfl rfl ?_
            generalize hw27 : e_up v1 1 7 (v1 1 7 + 1) = w27
            have f28 : e_fr kRn w w27 := e_fr.up j3 hw27 (by unfold kRn; omega)
            have hT29 : e_Has kLt w27 := e_Has.ups j4 hw27 rfl
            have hH30 : e_Has kLr w27 := e_Has.upr j5 hw27 rfl (by omega)
            refine e_Ok.run (t' := (2, [(1, (0, 0)), (2, (0, z13)), (0, (1, 1))], [], w27)) 1 rfl ?_
            refine e_Ok.sub kAlk (e_sub_of rfl ?_) (ih2 0 w27 ⟨f28, hT29, hH30, (by have g7 : w27 1 7 = v1 1 7 + 1 := (by rw [← hw27]; exact e_up_eq _ _ _ _); omega), (by omega)⟩ ((by have g7 : w27 1 7 = v1 1 7 + 1 := (by rw [← hw27]; exact e_up_eq _ _ _ _); omega)))
            exact ⟨rfl, rfl, trivial⟩
        · replace h15 : (z13 : Int) = 35 := by have q : ¬ ((z13 : Int) ≠ 35) := h15; omega
          refine e_Ok.run (t' := (57, [(1, (0, 1)), (2, (0, z13)), (0, (1, 1))], [(1, 1), (1, 1)], v1)) 5 rfl ?_
          refine e_Ok.getf (z := v1 1 7) rfl rfl rfl rfl rfl (by omega) ?_
          refine e_Ok.run (t' := (61, [(1, (0, 1)), (2, (0, z13)), (0, (1, 1))], [(0, 1), (0, v1 1 7), (1, 1)], v1)) 1 rfl ?_
          refine e_Ok.add (z := v1 1 7 + 1) rfl (by omega) (by omega) ?_
          refine e_Ok.putf rfl rfl rfl rfl ?_
          generalize hw31 : e_up v1 1 7 (v1 1 7 + 1) = w31
          have f32 : e_fr kRn w w31 := e_fr.up j3 hw31 (by unfold kRn; omega)
          have hT33 : e_Has kLt w31 := e_Has.ups j4 hw31 rfl
          have hH34 : e_Has kLr w31 := e_Has.upr j5 hw31 rfl (by omega)
          refine e_Ok.run (t' := (2, [(1, (0, 1)), (2, (0, z13)), (0, (1, 1))], [], w31)) 1 rfl ?_
          refine e_Ok.sub kAlk (e_sub_of rfl ?_) (ih2 1 w31 ⟨f32, hT33, hH34, (by have g7 : w31 1 7 = v1 1 7 + 1 := (by rw [← hw31]; exact e_up_eq _ _ _ _); omega), (by omega)⟩ ((by have g7 : w31 1 7 = v1 1 7 + 1 := (by rw [← hw31]; exact e_up_eq _ _ _ _); omega)))
          exact ⟨rfl, rfl, trivial⟩
  refine e_Ok.sub kAlk (e_sub_of rfl ?_) (hL1 (4001 + 1 : Int).toNat 0 w ⟨(e_fr.refl w), hT, hH, (by omega), (by omega)⟩ (by omega))
  exact ⟨rfl, rfl, trivial⟩
set_option maxHeartbeats 4000000 in
theorem l_127 {d : Nat} (hd : 21 ≤ d) {w : eW} (hT : e_Has kLt w) (hH : e_Has kLr w) (hn : w 1 7 < w 1 0) (ha : w 1 6 = w 1 7) (hdg : 48 ≤ w 5 (w 1 7) % 256 ∧ w 5 (w 1 7) % 256 ≤ 57) : e_Ok 20 elay kcode eI d 127 (0, [(0, (1, 1))], [], w) (fun r w' => r = [] ∧ e_fr kRn w w' ∧ e_Has kLt w' ∧ e_Has kLr w' ∧ (w 1 7 < w' 1 7 ∧ w' 1 7 ≤ w 1 0) ∧ (w' 1 5 = 2 ∨ w' 1 5 = 3) ∧ (w' 1 5 = 2 → 0 ≤ w' 1 8 ∧ (10 ≤ w' 1 8 → w 1 7 + 2 ≤ w' 1 7))) := by
  obtain ⟨d, rfl⟩ : ∃ e, d = e + 1 := ⟨d - 1, by omega⟩
  have p0 := e_Has.get hH (c := 1) (k := 0) (lo := 0) (hi := 4000) rfl (by decide)
  have p6 := e_Has.get hH (c := 1) (k := 6) (lo := 0) (hi := 4000) rfl (by decide)
  have p7 := e_Has.get hH (c := 1) (k := 7) (lo := 0) (hi := 4000) rfl (by decide)
  refine e_Ok.run (t' := (2, [(1, (4, 0)), (0, (1, 1))], [], w)) 2 rfl ?_
  have hL1 : ∀ (nn : Nat) (y1 : Int) (v1 : eW), e_fr kRn w v1 ∧ e_Has kLt v1 ∧ e_Has kLr v1 ∧ ((w 1 7 ≤ v1 1 7 ∧ v1 1 7 ≤ w 1 0)) ∧ ((w 1 7 < v1 1 7 ∨ (v1 1 7 = w 1 7 ∧ w 5 (v1 1 7) = w 5 (w 1 7)))) ∧ ((0 ≤ y1 ∧ y1 ≤ 4294967296)) ∧ (v1 1 7 ≤ w 1 7 → y1 = 0) ∧ (v1 1 7 ≤ w 1 7 + 1 → y1 ≤ 9) → 4001 - v1 1 7 < nn → e_Ok 20 elay kcode eI (d + 1) 127 (2, [(0, (1, 1)), (1, (4, y1))], [], v1) (fun r w' => r = [] ∧ e_fr kRn w w' ∧ e_Has kLt w' ∧ e_Has kLr w' ∧ (w 1 7 < w' 1 7 ∧ w' 1 7 ≤ w 1 0) ∧ (w' 1 5 = 2 ∨ w' 1 5 = 3) ∧ (w' 1 5 = 2 → 0 ≤ w' 1 8 ∧ (10 ≤ w' 1 8 → w 1 7 + 2 ≤ w' 1 7))) := by
    intro nn
    induction nn with
    | zero => intro y1 v1 hj hm; obtain ⟨j3, j4, j5, j6, j7, j8, j9, j10⟩ := hj; exfalso; omega
    | succ nn ih2 =>
      intro y1 v1 hj hm
      obtain ⟨j3, j4, j5, j6, j7, j8, j9, j10⟩ := hj
      have u7 := e_Has.get j5 (c := 1) (k := 7) (lo := 0) (hi := 4000) rfl (by decide)
      refine e_Ok.run (t' := (3, [(0, (1, 1)), (1, (4, y1))], [(1, 1)], v1)) 1 rfl ?_
      refine e_Ok.getf (z := v1 1 7) rfl rfl rfl rfl rfl (by omega) ?_
      refine e_Ok.run (t' := (7, [(0, (1, 1)), (1, (4, y1))], [(1, 1), (0, v1 1 7)], v1)) 1 rfl ?_
      have h11 := (e_Has.get hH (c := 1) (k := 0) (lo := 0) (hi := 4000) rfl (by decide))
      refine e_Ok.getf (z := w 1 0) rfl rfl rfl rfl ((j3 1 0 (by unfold kRn; omega)).trans rfl) (by omega) ?_
      refine e_Ok.if2 rfl (fun h12 => ?_) (fun h12 => ?_)
      · replace h12 : (v1 1 7 : Int) ≥ w 1 0 := h12
        refine e_Ok.run (t' := (71, [(0, (1, 1)), (1, (4, y1))], [(4, 2147483647), (4, y1), (1, 1)], v1)) 3 rfl ?_
        refine e_Ok.lcmp rfl (fun z13 z13a z13b z13c => ?_)
        refine e_Ok.if1 rfl (fun h14 => ?_) (fun h14 => ?_)
        · replace h14 : (z13 : Int) ≤ 0 := h14
          refine e_Ok.run (t' := (80, [(0, (1, 1)), (1, (4, y1))], [(0, 2), (1, 1)], v1)) 1 rfl ?_
          refine e_Ok.putf rfl rfl rfl rfl ?_
          generalize hw15 : e_up v1 1 5 2 = w15
          have f16 : e_fr kRn w w15 := e_fr.up j3 hw15 (by unfold kRn; omega)
          have hT17 : e_Has kLt w15 := e_Has.ups j4 hw15 rfl
          have hH18 : e_Has kLr w15 := e_Has.upr j5 hw15 rfl (by omega)
          refine e_Ok.run (t' := (85, [(0, (1, 1)), (1, (4, y1))], [(4, y1), (1, 1)], w15)) 2 rfl ?_
          refine e_Ok.l2iz rfl (fun z19 z19a z19b => ?_)
          replace z19b : -2147483648 ≤ y1 → y1 ≤ 2147483647 → z19 = y1 := z19b
          refine e_Ok.putf rfl rfl rfl rfl ?_
          generalize hw20 : e_up w15 1 8 z19 = w20
          have f21 : e_fr kRn w w20 := e_fr.up f16 hw20 (by unfold kRn; omega)
          have hT22 : e_Has kLt w20 := e_Has.ups hT17 hw20 rfl
          have hH23 : e_Has kLr w20 := e_Has.upr hH18 hw20 rfl (by omega)
          refine e_Ok.rets rfl rfl ?_
          have y5 : w20 1 5 = 2 := (by rw [← hw20]; exact (e_up_ne _ _ (Or.inr (by omega))).trans (by rw [← hw15]; exact e_up_eq _ _ _ _))
          have y6 : w20 1 6 = w 1 6 := (by rw [← hw20]; exact (e_up_ne _ _ (Or.inr (by omega))).trans (by rw [← hw15]; exact (e_up_ne _ _ (Or.inr (by omega))).trans ((j3 1 6 (by unfold kRn; omega)).trans rfl)))
          have y7 : w20 1 7 = v1 1 7 := (by rw [← hw20]; exact (e_up_ne _ _ (Or.inr (by omega))).trans (by rw [← hw15]; exact (e_up_ne _ _ (Or.inr (by omega))).trans rfl))
          have y8 : w20 1 8 = z19 := (by rw [← hw20]; exact e_up_eq _ _ _ _)
          exact ⟨rfl, f21, hT22, hH23, ⟨by omega, by omega⟩, (by omega), fun h => ⟨by omega, fun h2 => by omega⟩⟩
        · replace h14 : (z13 : Int) > 0 := by have q : ¬ ((z13 : Int) ≤ 0) := h14; omega
          refine e_Ok.run (t' := (80, [(0, (1, 1)), (1, (4, y1))], [(0, 3), (1, 1)], v1)) 2 rfl ?_
          refine e_Ok.putf rfl rfl rfl rfl ?_
          generalize hw24 : e_up v1 1 5 3 = w24
          have f25 : e_fr kRn w w24 := e_fr.up j3 hw24 (by unfold kRn; omega)
          have hT26 : e_Has kLt w24 := e_Has.ups j4 hw24 rfl
          have hH27 : e_Has kLr w24 := e_Has.upr j5 hw24 rfl (by omega)
          refine e_Ok.run (t' := (85, [(0, (1, 1)), (1, (4, y1))], [(4, y1), (1, 1)], w24)) 2 rfl ?_
          refine e_Ok.l2iz rfl (fun z28 z28a z28b => ?_)
          replace z28b : -2147483648 ≤ y1 → y1 ≤ 2147483647 → z28 = y1 := z28b
          refine e_Ok.putf rfl rfl rfl rfl ?_
          generalize hw29 : e_up w24 1 8 z28 = w29
          have f30 : e_fr kRn w w29 := e_fr.up f25 hw29 (by unfold kRn; omega)
          have hT31 : e_Has kLt w29 := e_Has.ups hT26 hw29 rfl
          have hH32 : e_Has kLr w29 := e_Has.upr hH27 hw29 rfl (by omega)
          refine e_Ok.rets rfl rfl ?_
          have y5 : w29 1 5 = 3 := (by rw [← hw29]; exact (e_up_ne _ _ (Or.inr (by omega))).trans (by rw [← hw24]; exact e_up_eq _ _ _ _))
          have y6 : w29 1 6 = w 1 6 := (by rw [← hw29]; exact (e_up_ne _ _ (Or.inr (by omega))).trans (by rw [← hw24]; exact (e_up_ne _ _ (Or.inr (by omega))).trans ((j3 1 6 (by unfold kRn; omega)).trans rfl)))
          have y7 : w29 1 7 = v1 1 7 := (by rw [← hw29]; exact (e_up_ne _ _ (Or.inr (by omega))).trans (by rw [← hw24]; exact (e_up_ne _ _ (Or.inr (by omega))).trans rfl))
          have y8 : w29 1 8 = z28 := (by rw [← hw29]; exact e_up_eq _ _ _ _)
          exact ⟨rfl, f30, hT31, hH32, ⟨by omega, by omega⟩, (by omega), fun h => ⟨by omega, fun h2 => by omega⟩⟩
      · replace h12 : (v1 1 7 : Int) < w 1 0 := by have q : ¬ ((v1 1 7 : Int) ≥ w 1 0) := h12; omega
        refine e_Ok.run (t' := (15, [(0, (1, 1)), (1, (4, y1))], [(1, 1), (1, 1)], v1)) 2 rfl ?_
        refine e_Ok.getf (z := v1 1 7) rfl rfl rfl rfl rfl (by omega) ?_
        refine e_Ok.callV rfl (by omega) rfl rfl rfl rfl (l_120 j4 j5 (by omega)) (fun r33 w34 h35 => ?_)
        obtain ⟨z36, rfl, rfl, q37r, q37x⟩ := h35
        replace q37x : (0 ≤ (v1 1 7) ∧ (v1 1 7) < (w 1 0) ∧ z36 = (w 5 (v1 1 7)) % 256) ∨ (((v1 1 7) < 0 ∨ (w 1 0) ≤ (v1 1 7)) ∧ z36 = 0) := by rw [show v1 1 0 = w 1 0 from ((j3 1 0 (by unfold kRn; omega)).trans rfl), show v1 5 (v1 1 7) = w 5 (v1 1 7) from ((j3 5 (v1 1 7) (by unfold kRn; omega)).trans rfl)] at q37x; exact q37x
        show e_Ok 20 elay kcode eI (d + 1) 127 (21, [(0, (1, 1)), (1, (4, y1))], [(0, z36)], v1) _
        refine e_Ok.callS rfl (by omega) rfl rfl (c_121 (by omega)) (fun r38 w40 h41 => ?_)
        obtain ⟨z42, rfl, rfl, q43⟩ := h41
        obtain ⟨rfl, q43⟩ | ⟨rfl, q43⟩ := q43
        · show e_Ok 20 elay kcode eI (d + 1) 127 (24, [(0, (1, 1)), (1, (4, y1))], [(0, 1)], v1) _
          refine e_Ok.if1 rfl (fun h44 => ?_) (fun h44 => ?_)
          · replace h44 : (1 : Int) = 0 := h44
            exfalso; omega
          · replace h44 : (1 : Int) ≠ 0 := by have q : ¬ ((1 : Int) = 0) := h44; omega
            refine e_Ok.run (t' := (31, [(0, (1, 1)), (1, (4, y1))], [(4, 10), (4, y1)], v1)) 2 rfl ?_
            refine e_Ok.mulL (z := 10 * y1) rfl (by omega) (by omega) ?_
            refine e_Ok.run (t' := (34, [(0, (1, 1)), (1, (4, y1))], [(1, 1), (1, 1), (4, 10 * y1)], v1)) 2 rfl ?_
            refine e_Ok.getf (z := v1 1 7) rfl rfl rfl rfl rfl (by omega) ?_
            refine e_Ok.callV rfl (by omega) rfl rfl rfl rfl (l_120 j4 j5 (by omega)) (fun r46 w47 h48 => ?_)
            obtain ⟨z49, rfl, rfl, q50r, q50x⟩ := h48
            replace q50x : (0 ≤ (v1 1 7) ∧ (v1 1 7) < (w 1 0) ∧ z49 = (w 5 (v1 1 7)) % 256) ∨ (((v1 1 7) < 0 ∨ (w 1 0) ≤ (v1 1 7)) ∧ z49 = 0) := by rw [show v1 1 0 = w 1 0 from ((j3 1 0 (by unfold kRn; omega)).trans rfl), show v1 5 (v1 1 7) = w 5 (v1 1 7) from ((j3 5 (v1 1 7) (by unfold kRn; omega)).trans rfl)] at q50x; exact q50x
            show e_Ok 20 elay kcode eI (d + 1) 127 (40, [(0, (1, 1)), (1, (4, y1))], [(0, z49), (4, 10 * y1)], v1) _
            refine e_Ok.run (t' := (41, [(0, (1, 1)), (1, (4, y1))], [(4, z49), (4, 10 * y1)], v1)) 1 rfl ?_
            refine e_Ok.addL (z := 10 * y1 + z49) rfl (by omega) (by omega) ?_
            refine e_Ok.run (t' := (45, [(0, (1, 1)), (1, (4, y1))], [(4, 48), (4, 10 * y1 + z49)], v1)) 1 rfl ?_
            refine e_Ok.subL (z := 10 * y1 + z49 - 48) rfl (by omega) (by omega) ?_
            refine e_Ok.run (t' := (49, [(0, (1, 1)), (1, (4, y1))], [(4, 4294967296), (4, 10 * y1 + z49 - 48)], v1)) 1 rfl ?_
            refine e_Ok.ml rfl rfl (fun x53 hx53 => ?_)
            replace hx53 : ((10 * y1 + z49 - 48) ≤ 4294967296 ∧ x53 = 10 * y1 + z49 - 48) ∨ (4294967296 < 10 * y1 + z49 - 48 ∧ x53 = 4294967296) := hx53
            refine e_Ok.run (t' := (55, [(1, (4, x53)), (0, (1, 1))], [(1, 1), (1, 1)], v1)) 3 rfl ?_
            refine e_Ok.getf (z := v1 1 7) rfl rfl rfl rfl rfl (by omega) ?_
            refine e_Ok.run (t' := (59, [(1, (4, x53)), (0, (1, 1))], [(0, 1), (0, v1 1 7), (1, 1)], v1)) 1 rfl ?_
            refine e_Ok.add (z := v1 1 7 + 1) rfl (by omega) (by omega) ?_
            refine e_Ok.putf rfl rfl rfl rfl ?_
            generalize hw54 : e_up v1 1 7 (v1 1 7 + 1) = w54
            have f55 : e_fr kRn w w54 := e_fr.up j3 hw54 (by unfold kRn; omega)
            have hT56 : e_Has kLt w54 := e_Has.ups j4 hw54 rfl
            have hH57 : e_Has kLr w54 := e_Has.upr j5 hw54 rfl (by omega)
            refine e_Ok.run (t' := (2, [(1, (4, x53)), (0, (1, 1))], [], w54)) 1 rfl ?_
            refine e_Ok.sub kAlk (e_sub_of rfl ?_) (ih2 x53 w54 ⟨f55, hT56, hH57, (by have g7 : w54 1 7 = v1 1 7 + 1 := (by rw [← hw54]; exact e_up_eq _ _ _ _); omega), (Or.inl (by have g7 : w54 1 7 = v1 1 7 + 1 := (by rw [← hw54]; exact e_up_eq _ _ _ _); omega)), (by omega), (fun g => by have g7 : w54 1 7 = v1 1 7 + 1 := (by rw [← hw54]; exact e_up_eq _ _ _ _); omega), (fun g => by have g7 : w54 1 7 = v1 1 7 + 1 := (by rw [← hw54]; exact e_up_eq _ _ _ _); omega)⟩ ((by have g7 : w54 1 7 = v1 1 7 + 1 := (by rw [← hw54]; exact e_up_eq _ _ _ _); omega)))
            exact ⟨rfl, rfl, trivial⟩
        · show e_Ok 20 elay kcode eI (d + 1) 127 (24, [(0, (1, 1)), (1, (4, y1))], [(0, 0)], v1) _
          refine e_Ok.if1 rfl (fun h58 => ?_) (fun h58 => ?_)
          · replace h58 : (0 : Int) = 0 := h58
            refine e_Ok.run (t' := (71, [(0, (1, 1)), (1, (4, y1))], [(4, 2147483647), (4, y1), (1, 1)], v1)) 3 rfl ?_
            refine e_Ok.lcmp rfl (fun z59 z59a z59b z59c => ?_)
            refine e_Ok.if1 rfl (fun h60 => ?_) (fun h60 => ?_)
            · replace h60 : (z59 : Int) ≤ 0 := h60
              refine e_Ok.run (t' := (80, [(0, (1, 1)), (1, (4, y1))], [(0, 2), (1, 1)], v1)) 1 rfl ?_
              refine e_Ok.putf rfl rfl rfl rfl ?_
              generalize hw61 : e_up v1 1 5 2 = w61
              have f62 : e_fr kRn w w61 := e_fr.up j3 hw61 (by unfold kRn; omega)
              have hT63 : e_Has kLt w61 := e_Has.ups j4 hw61 rfl
              have hH64 : e_Has kLr w61 := e_Has.upr j5 hw61 rfl (by omega)
              refine e_Ok.run (t' := (85, [(0, (1, 1)), (1, (4, y1))], [(4, y1), (1, 1)], w61)) 2 rfl ?_
              refine e_Ok.l2iz rfl (fun z65 z65a z65b => ?_)
              replace z65b : -2147483648 ≤ y1 → y1 ≤ 2147483647 → z65 = y1 := z65b
              refine e_Ok.putf rfl rfl rfl rfl ?_
              generalize hw66 : e_up w61 1 8 z65 = w66
              have f67 : e_fr kRn w w66 := e_fr.up f62 hw66 (by unfold kRn; omega)
              have hT68 : e_Has kLt w66 := e_Has.ups hT63 hw66 rfl
              have hH69 : e_Has kLr w66 := e_Has.upr hH64 hw66 rfl (by omega)
              refine e_Ok.rets rfl rfl ?_
              have y5 : w66 1 5 = 2 := (by rw [← hw66]; exact (e_up_ne _ _ (Or.inr (by omega))).trans (by rw [← hw61]; exact e_up_eq _ _ _ _))
              have y6 : w66 1 6 = w 1 6 := (by rw [← hw66]; exact (e_up_ne _ _ (Or.inr (by omega))).trans (by rw [← hw61]; exact (e_up_ne _ _ (Or.inr (by omega))).trans ((j3 1 6 (by unfold kRn; omega)).trans rfl)))
              have y7 : w66 1 7 = v1 1 7 := (by rw [← hw66]; exact (e_up_ne _ _ (Or.inr (by omega))).trans (by rw [← hw61]; exact (e_up_ne _ _ (Or.inr (by omega))).trans rfl))
              have y8 : w66 1 8 = z65 := (by rw [← hw66]; exact e_up_eq _ _ _ _)
              exact ⟨rfl, f67, hT68, hH69, ⟨by omega, by omega⟩, (by omega), fun h => ⟨by omega, fun h2 => by omega⟩⟩
            · replace h60 : (z59 : Int) > 0 := by have q : ¬ ((z59 : Int) ≤ 0) := h60; omega
              refine e_Ok.run (t' := (80, [(0, (1, 1)), (1, (4, y1))], [(0, 3), (1, 1)], v1)) 2 rfl ?_
              refine e_Ok.putf rfl rfl rfl rfl ?_
              generalize hw70 : e_up v1 1 5 3 = w70
              have f71 : e_fr kRn w w70 := e_fr.up j3 hw70 (by unfold kRn; omega)
              have hT72 : e_Has kLt w70 := e_Has.ups j4 hw70 rfl
              have hH73 : e_Has kLr w70 := e_Has.upr j5 hw70 rfl (by omega)
              refine e_Ok.run (t' := (85, [(0, (1, 1)), (1, (4, y1))], [(4, y1), (1, 1)], w70)) 2 rfl ?_
              refine e_Ok.l2iz rfl (fun z74 z74a z74b => ?_)
              replace z74b : -2147483648 ≤ y1 → y1 ≤ 2147483647 → z74 = y1 := z74b
              refine e_Ok.putf rfl rfl rfl rfl ?_
              generalize hw75 : e_up w70 1 8 z74 = w75
              have f76 : e_fr kRn w w75 := e_fr.up f71 hw75 (by unfold kRn; omega)
              have hT77 : e_Has kLt w75 := e_Has.ups hT72 hw75 rfl
              have hH78 : e_Has kLr w75 := e_Has.upr hH73 hw75 rfl (by omega)
              refine e_Ok.rets rfl rfl ?_
              have y5 : w75 1 5 = 3 := (by rw [← hw75]; exact (e_up_ne _ _ (Or.inr (by omega))).trans (by rw [← hw70]; exact e_up_eq _ _ _ _))
              have y6 : w75 1 6 = w 1 6 := (by rw [← hw75]; exact (e_up_ne _ _ (Or.inr (by omega))).trans (by rw [← hw70]; exact (e_up_ne _ _ (Or.inr (by omega))).trans ((j3 1 6 (by unfold kRn; omega)).trans rfl)))
              have y7 : w75 1 7 = v1 1 7 := (by rw [← hw75]; exact (e_up_ne _ _ (Or.inr (by omega))).trans (by rw [← hw70]; exact (e_up_ne _ _ (Or.inr (by omega))).trans rfl))
              have y8 : w75 1 8 = z74 := (by rw [← hw75]; exact e_up_eq _ _ _ _)
              exact ⟨rfl, f76, hT77, hH78, ⟨by omega, by omega⟩, (by omega), fun h => ⟨by omega, fun h2 => by omega⟩⟩
          · replace h58 : (0 : Int) ≠ 0 := by have q : ¬ ((0 : Int) = 0) := h58; omega
            exfalso; omega
  refine e_Ok.sub kAlk (e_sub_of rfl ?_) (hL1 (4001 + 1 : Int).toNat 0 w ⟨(e_fr.refl w), hT, hH, (by omega), (Or.inr ⟨rfl, rfl⟩), (by omega), (fun _ => rfl), (by omega)⟩ (by omega))
  exact ⟨rfl, rfl, trivial⟩
set_option maxHeartbeats 4000000 in
theorem l_126 {d : Nat} (hd : 19 ≤ d) {w : eW} (hT : e_Has kLt w) (hH : e_Has kLr w) (ha : w 1 6 < w 1 7) (hn : w 1 7 ≤ w 1 0) : e_Ok 20 elay kcode eI d 126 (0, [(0, (1, 1))], [], w) (fun r w' => ∃ z : Int, r = [(0, z)] ∧ w = w' ∧ (z = 1 ∨ ((21 ≤ z ∧ z ≤ 53) ∧ w 1 6 + 2 ≤ w 1 7 ∧ (z = 23 ∨ z = 41 ∨ z = 42 → w 1 6 + 3 ≤ w 1 7)))) := by
  obtain ⟨d, rfl⟩ : ∃ e, d = e + 1 := ⟨d - 1, by omega⟩
  have p0 := e_Has.get hH (c := 1) (k := 0) (lo := 0) (hi := 4000) rfl (by decide)
  have p6 := e_Has.get hH (c := 1) (k := 6) (lo := 0) (hi := 4000) rfl (by decide)
  have p7 := e_Has.get hH (c := 1) (k := 7) (lo := 0) (hi := 4000) rfl (by decide)
  refine e_Ok.run (t' := (4, [(1, (0, 21)), (0, (1, 1))], [(1, 1)], w)) 3 rfl ?_
  have h1 := (e_Has.get hH (c := 1) (k := 6) (lo := 0) (hi := 4000) rfl (by decide))
  refine e_Ok.getf (z := w 1 6) rfl rfl rfl rfl rfl (by omega) ?_
  refine e_Ok.run (t' := (13, [(4, (0, 0)), (3, (0, 1)), (2, (0, w 1 6)), (1, (0, 21)), (0, (1, 1))], [], w)) 5 rfl ?_
  have hL2 : ∀ (nn : Nat) (y1 : Int) (y2 : Int) (y3 : Int) (y4 : Int), ((0 ≤ y4 ∧ y4 ≤ 171)) ∧ ((y1 = 21 + (kyp y4).1 ∧ y2 = w 1 6 + (kyp y4).2)) ∧ ((0 ≤ y3 ∧ y3 ≤ 1)) → 172 - y4 < nn → e_Ok 20 elay kcode eI (d + 1) 126 (13, [(0, (1, 1)), (1, (0, y1)), (2, (0, y2)), (3, (0, y3)), (4, (0, y4))], [], w) (fun r w' => ∃ z : Int, r = [(0, z)] ∧ w = w' ∧ (z = 1 ∨ ((21 ≤ z ∧ z ≤ 53) ∧ w 1 6 + 2 ≤ w 1 7 ∧ (z = 23 ∨ z = 41 ∨ z = 42 → w 1 6 + 3 ≤ w 1 7)))) := by
    intro nn
    induction nn with
    | zero => intro y1 y2 y3 y4 hj hm; obtain ⟨j4, j5, j6⟩ := hj; exfalso; omega
    | succ nn ih3 =>
      intro y1 y2 y3 y4 hj hm
      obtain ⟨j4, j5, j6⟩ := hj
      have kb := kyp_r (i := y4) (by omega)
      refine e_Ok.run (t' := (15, [(0, (1, 1)), (1, (0, y1)), (2, (0, y2)), (3, (0, y3)), (4, (0, y4))], [(0, y4)], w)) 1 rfl ?_
      refine e_Ok.run (t' := (17, [(0, (1, 1)), (1, (0, y1)), (2, (0, y2)), (3, (0, y3)), (4, (0, y4))], [(1, 357), (0, y4)], w)) 1 rfl ?_
      refine e_Ok.run (t' := (20, [(0, (1, 1)), (1, (0, y1)), (2, (0, y2)), (3, (0, y3)), (4, (0, y4))], [(0, 171), (0, y4)], w)) 1 rfl ?_
      refine e_Ok.if2 rfl (fun h7 => ?_) (fun h7 => ?_)
      · replace h7 : (y4 : Int) ≥ 171 := h7
        refine e_Ok.run (t' := (105, [(0, (1, 1)), (1, (0, y1)), (2, (0, y2)), (3, (0, y3)), (4, (0, y4))], [(0, 1)], w)) 1 rfl ?_
        refine e_Ok.rets rfl rfl ?_
        exact ⟨_, rfl, rfl, Or.inl rfl⟩
      · replace h7 : (y4 : Int) < 171 := by have q : ¬ ((y4 : Int) ≥ 171) := h7; omega
        refine e_Ok.run (t' := (25, [(0, (1, 1)), (1, (0, y1)), (2, (0, y2)), (3, (0, y3)), (4, (0, y4))], [(1, 357)], w)) 1 rfl ?_
        refine e_Ok.run (t' := (27, [(0, (1, 1)), (1, (0, y1)), (2, (0, y2)), (3, (0, y3)), (4, (0, y4))], [(0, y4), (1, 357)], w)) 1 rfl ?_
        refine e_Ok.kc (by omega) rfl rfl ?_
        have z8b := kyk_in (y4)
        generalize hz8 : kyk (y4) = z8
        rw [hz8] at z8b
        refine e_Ok.run (t' := (36, [(5, (0, z8)), (0, (1, 1)), (1, (0, y1)), (2, (0, y2)), (3, (0, y3)), (4, (0, y4))], [(0, 32), (0, z8)], w)) 3 rfl ?_
        refine e_Ok.if2 rfl (fun h9 => ?_) (fun h9 => ?_)
        · replace h9 : (z8 : Int) = 32 := h9
          refine e_Ok.run (t' := (75, [(5, (0, z8)), (0, (1, 1)), (1, (0, y1)), (2, (0, y2)), (3, (0, y3)), (4, (0, y4))], [(0, y3)], w)) 1 rfl ?_
          refine e_Ok.if1 rfl (fun h10 => ?_) (fun h10 => ?_)
          · replace h10 : (y3 : Int) = 0 := h10
            refine e_Ok.inc (z := y1 + 1) rfl rfl (by omega) (by omega) ?_
            show e_Ok 20 elay kcode eI (d + 1) 126 (91, [(1, (0, y1 + 1)), (5, (0, z8)), (0, (1, 1)), (2, (0, y2)), (3, (0, y3)), (4, (0, y4))], [], w) _
            refine e_Ok.run (t' := (92, [(1, (0, y1 + 1)), (5, (0, z8)), (0, (1, 1)), (2, (0, y2)), (3, (0, y3)), (4, (0, y4))], [(1, 1)], w)) 1 rfl ?_
            refine e_Ok.getf (z := w 1 6) rfl rfl rfl rfl rfl (by omega) ?_
            refine e_Ok.run (t' := (98, [(3, (0, 1)), (2, (0, w 1 6)), (1, (0, y1 + 1)), (5, (0, z8)), (0, (1, 1)), (4, (0, y4))], [], w)) 3 rfl ?_
            refine e_Ok.inc (z := y4 + 1) rfl rfl (by omega) (by omega) ?_
            show e_Ok 20 elay kcode eI (d + 1) 126 (101, [(4, (0, y4 + 1)), (3, (0, 1)), (2, (0, w 1 6)), (1, (0, y1 + 1)), (5, (0, z8)), (0, (1, 1))], [], w) _
            refine e_Ok.run (t' := (13, [(4, (0, y4 + 1)), (3, (0, 1)), (2, (0, w 1 6)), (1, (0, y1 + 1)), (5, (0, z8)), (0, (1, 1))], [], w)) 1 rfl ?_
            refine e_Ok.sub kAlk (e_sub_of rfl ?_) (ih3 (y1 + 1) (w 1 6) 1 (y4 + 1) ⟨(by omega), (by first | (have a := kyp_n (i := y4) (by omega) (by rw [hz8]; omega); omega) | (have a := kyp_s (i := y4) (by omega) (by rw [hz8]; omega); omega)), (by omega)⟩ (by omega))
            exact ⟨rfl, rfl, rfl, rfl, rfl, trivial⟩
          · replace h10 : (y3 : Int) ≠ 0 := by have q : ¬ ((y3 : Int) = 0) := h10; omega
            refine e_Ok.run (t' := (80, [(5, (0, z8)), (0, (1, 1)), (1, (0, y1)), (2, (0, y2)), (3, (0, y3)), (4, (0, y4))], [(1, 1), (0, y2)], w)) 2 rfl ?_
            have h11 := (e_Has.get hH (c := 1) (k := 7) (lo := 0) (hi := 4000) rfl (by decide))
            refine e_Ok.getf (z := w 1 7) rfl rfl rfl rfl rfl (by omega) ?_
            refine e_Ok.if2 rfl (fun h12 => ?_) (fun h12 => ?_)
            · replace h12 : (y2 : Int) ≠ w 1 7 := h12
              refine e_Ok.inc (z := y1 + 1) rfl rfl (by omega) (by omega) ?_
              show e_Ok 20 elay kcode eI (d + 1) 126 (91, [(1, (0, y1 + 1)), (5, (0, z8)), (0, (1, 1)), (2, (0, y2)), (3, (0, y3)), (4, (0, y4))], [], w) _
              refine e_Ok.run (t' := (92, [(1, (0, y1 + 1)), (5, (0, z8)), (0, (1, 1)), (2, (0, y2)), (3, (0, y3)), (4, (0, y4))], [(1, 1)], w)) 1 rfl ?_
              refine e_Ok.getf (z := w 1 6) rfl rfl rfl rfl rfl (by omega) ?_
              refine e_Ok.run (t' := (98, [(3, (0, 1)), (2, (0, w 1 6)), (1, (0, y1 + 1)), (5, (0, z8)), (0, (1, 1)), (4, (0, y4))], [], w)) 3 rfl ?_
              refine e_Ok.inc (z := y4 + 1) rfl rfl (by omega) (by omega) ?_
              show e_Ok 20 elay kcode eI (d + 1) 126 (101, [(4, (0, y4 + 1)), (3, (0, 1)), (2, (0, w 1 6)), (1, (0, y1 + 1)), (5, (0, z8)), (0, (1, 1))], [], w) _
              refine e_Ok.run (t' := (13, [(4, (0, y4 + 1)), (3, (0, 1)), (2, (0, w 1 6)), (1, (0, y1 + 1)), (5, (0, z8)), (0, (1, 1))], [], w)) 1 rfl ?_
              refine e_Ok.sub kAlk (e_sub_of rfl ?_) (ih3 (y1 + 1) (w 1 6) 1 (y4 + 1) ⟨(by omega), (by first | (have a := kyp_n (i := y4) (by omega) (by rw [hz8]; omega); omega) | (have a := kyp_s (i := y4) (by omega) (by rw [hz8]; omega); omega)), (by omega)⟩ (by omega))
              exact ⟨rfl, rfl, rfl, rfl, rfl, trivial⟩
            · replace h12 : (y2 : Int) = w 1 7 := by have q : ¬ ((y2 : Int) ≠ w 1 7) := h12; omega
              refine e_Ok.run (t' := (87, [(5, (0, z8)), (0, (1, 1)), (1, (0, y1)), (2, (0, y2)), (3, (0, y3)), (4, (0, y4))], [(0, y1)], w)) 1 rfl ?_
              refine e_Ok.rets rfl rfl ?_
              exact ⟨_, rfl, rfl, Or.inr (by have k := kyp_k (i := y4) (by omega) (by rw [hz8]; omega); omega)⟩
        · replace h9 : (z8 : Int) ≠ 32 := by have q : ¬ ((z8 : Int) = 32) := h9; omega
          refine e_Ok.run (t' := (40, [(5, (0, z8)), (0, (1, 1)), (1, (0, y1)), (2, (0, y2)), (3, (0, y3)), (4, (0, y4))], [(0, y3)], w)) 1 rfl ?_
          refine e_Ok.if1 rfl (fun h13 => ?_) (fun h13 => ?_)
          · replace h13 : (y3 : Int) = 0 := h13
            refine e_Ok.run (t' := (68, [(3, (0, 0)), (5, (0, z8)), (0, (1, 1)), (1, (0, y1)), (2, (0, y2)), (4, (0, y4))], [], w)) 2 rfl ?_
            refine e_Ok.inc (z := y2 + 1) rfl rfl (by omega) (by omega) ?_
            show e_Ok 20 elay kcode eI (d + 1) 126 (71, [(2, (0, y2 + 1)), (3, (0, 0)), (5, (0, z8)), (0, (1, 1)), (1, (0, y1)), (4, (0, y4))], [], w) _
            refine e_Ok.run (t' := (98, [(2, (0, y2 + 1)), (3, (0, 0)), (5, (0, z8)), (0, (1, 1)), (1, (0, y1)), (4, (0, y4))], [], w)) 1 rfl ?_
            refine e_Ok.inc (z := y4 + 1) rfl rfl (by omega) (by omega) ?_
            show e_Ok 20 elay kcode eI (d + 1) 126 (101, [(4, (0, y4 + 1)), (2, (0, y2 + 1)), (3, (0, 0)), (5, (0, z8)), (0, (1, 1)), (1, (0, y1))], [], w) _
            refine e_Ok.run (t' := (13, [(4, (0, y4 + 1)), (2, (0, y2 + 1)), (3, (0, 0)), (5, (0, z8)), (0, (1, 1)), (1, (0, y1))], [], w)) 1 rfl ?_
            refine e_Ok.sub kAlk (e_sub_of rfl ?_) (ih3 y1 (y2 + 1) 0 (y4 + 1) ⟨(by omega), (by first | (have a := kyp_n (i := y4) (by omega) (by rw [hz8]; omega); omega) | (have a := kyp_s (i := y4) (by omega) (by rw [hz8]; omega); omega)), (by omega)⟩ (by omega))
            exact ⟨rfl, rfl, rfl, rfl, rfl, trivial⟩
          · replace h13 : (y3 : Int) ≠ 0 := by have q : ¬ ((y3 : Int) = 0) := h13; omega
            refine e_Ok.run (t' := (45, [(5, (0, z8)), (0, (1, 1)), (1, (0, y1)), (2, (0, y2)), (3, (0, y3)), (4, (0, y4))], [(1, 1), (0, y2)], w)) 2 rfl ?_
            have h14 := (e_Has.get hH (c := 1) (k := 7) (lo := 0) (hi := 4000) rfl (by decide))
            refine e_Ok.getf (z := w 1 7) rfl rfl rfl rfl rfl (by omega) ?_
            refine e_Ok.if2 rfl (fun h15 => ?_) (fun h15 => ?_)
            · replace h15 : (y2 : Int) ≥ w 1 7 := h15
              refine e_Ok.run (t' := (68, [(3, (0, 0)), (5, (0, z8)), (0, (1, 1)), (1, (0, y1)), (2, (0, y2)), (4, (0, y4))], [], w)) 2 rfl ?_
              refine e_Ok.inc (z := y2 + 1) rfl rfl (by omega) (by omega) ?_
              show e_Ok 20 elay kcode eI (d + 1) 126 (71, [(2, (0, y2 + 1)), (3, (0, 0)), (5, (0, z8)), (0, (1, 1)), (1, (0, y1)), (4, (0, y4))], [], w) _
              refine e_Ok.run (t' := (98, [(2, (0, y2 + 1)), (3, (0, 0)), (5, (0, z8)), (0, (1, 1)), (1, (0, y1)), (4, (0, y4))], [], w)) 1 rfl ?_
              refine e_Ok.inc (z := y4 + 1) rfl rfl (by omega) (by omega) ?_
              show e_Ok 20 elay kcode eI (d + 1) 126 (101, [(4, (0, y4 + 1)), (2, (0, y2 + 1)), (3, (0, 0)), (5, (0, z8)), (0, (1, 1)), (1, (0, y1))], [], w) _
              refine e_Ok.run (t' := (13, [(4, (0, y4 + 1)), (2, (0, y2 + 1)), (3, (0, 0)), (5, (0, z8)), (0, (1, 1)), (1, (0, y1))], [], w)) 1 rfl ?_
              refine e_Ok.sub kAlk (e_sub_of rfl ?_) (ih3 y1 (y2 + 1) 0 (y4 + 1) ⟨(by omega), (by first | (have a := kyp_n (i := y4) (by omega) (by rw [hz8]; omega); omega) | (have a := kyp_s (i := y4) (by omega) (by rw [hz8]; omega); omega)), (by omega)⟩ (by omega))
              exact ⟨rfl, rfl, rfl, rfl, rfl, trivial⟩
            · replace h15 : (y2 : Int) < w 1 7 := by have q : ¬ ((y2 : Int) ≥ w 1 7) := h15; omega
              refine e_Ok.run (t' := (52, [(5, (0, z8)), (0, (1, 1)), (1, (0, y1)), (2, (0, y2)), (3, (0, y3)), (4, (0, y4))], [(1, 1)], w)) 1 rfl ?_
              refine e_Ok.getr (z := 5) rfl rfl rfl rfl (Eq.trans (e_Has.eq hT rfl) (by omega)) (by omega) ?_
              refine e_Ok.run (t' := (56, [(5, (0, z8)), (0, (1, 1)), (1, (0, y1)), (2, (0, y2)), (3, (0, y3)), (4, (0, y4))], [(0, y2), (1, 5)], w)) 1 rfl ?_
              have h16 := (e_Has.get hH (c := 5) (k := y2) (lo := (-2147483648)) (hi := 2147483647) rfl (by decide))
              refine e_Ok.ald (z := w 5 y2) rfl rfl rfl (by omega) rfl (by omega) ?_
              refine e_Ok.run (t' := (59, [(5, (0, z8)), (0, (1, 1)), (1, (0, y1)), (2, (0, y2)), (3, (0, y3)), (4, (0, y4))], [(0, z8), (0, w 5 y2)], w)) 1 rfl ?_
              refine e_Ok.if2 rfl (fun h17 => ?_) (fun h17 => ?_)
              · replace h17 : (w 5 y2 : Int) ≠ z8 := h17
                refine e_Ok.run (t' := (68, [(3, (0, 0)), (5, (0, z8)), (0, (1, 1)), (1, (0, y1)), (2, (0, y2)), (4, (0, y4))], [], w)) 2 rfl ?_
                refine e_Ok.inc (z := y2 + 1) rfl rfl (by omega) (by omega) ?_
                show e_Ok 20 elay kcode eI (d + 1) 126 (71, [(2, (0, y2 + 1)), (3, (0, 0)), (5, (0, z8)), (0, (1, 1)), (1, (0, y1)), (4, (0, y4))], [], w) _
                refine e_Ok.run (t' := (98, [(2, (0, y2 + 1)), (3, (0, 0)), (5, (0, z8)), (0, (1, 1)), (1, (0, y1)), (4, (0, y4))], [], w)) 1 rfl ?_
                refine e_Ok.inc (z := y4 + 1) rfl rfl (by omega) (by omega) ?_
                show e_Ok 20 elay kcode eI (d + 1) 126 (101, [(4, (0, y4 + 1)), (2, (0, y2 + 1)), (3, (0, 0)), (5, (0, z8)), (0, (1, 1)), (1, (0, y1))], [], w) _
                refine e_Ok.run (t' := (13, [(4, (0, y4 + 1)), (2, (0, y2 + 1)), (3, (0, 0)), (5, (0, z8)), (0, (1, 1)), (1, (0, y1))], [], w)) 1 rfl ?_
                refine e_Ok.sub kAlk (e_sub_of rfl ?_) (ih3 y1 (y2 + 1) 0 (y4 + 1) ⟨(by omega), (by first | (have a := kyp_n (i := y4) (by omega) (by rw [hz8]; omega); omega) | (have a := kyp_s (i := y4) (by omega) (by rw [hz8]; omega); omega)), (by omega)⟩ (by omega))
                exact ⟨rfl, rfl, rfl, rfl, rfl, trivial⟩
              · replace h17 : (w 5 y2 : Int) = z8 := by have q : ¬ ((w 5 y2 : Int) ≠ z8) := h17; omega
                refine e_Ok.run (t' := (68, [(3, (0, 1)), (5, (0, z8)), (0, (1, 1)), (1, (0, y1)), (2, (0, y2)), (4, (0, y4))], [], w)) 3 rfl ?_
                refine e_Ok.inc (z := y2 + 1) rfl rfl (by omega) (by omega) ?_
                show e_Ok 20 elay kcode eI (d + 1) 126 (71, [(2, (0, y2 + 1)), (3, (0, 1)), (5, (0, z8)), (0, (1, 1)), (1, (0, y1)), (4, (0, y4))], [], w) _
                refine e_Ok.run (t' := (98, [(2, (0, y2 + 1)), (3, (0, 1)), (5, (0, z8)), (0, (1, 1)), (1, (0, y1)), (4, (0, y4))], [], w)) 1 rfl ?_
                refine e_Ok.inc (z := y4 + 1) rfl rfl (by omega) (by omega) ?_
                show e_Ok 20 elay kcode eI (d + 1) 126 (101, [(4, (0, y4 + 1)), (2, (0, y2 + 1)), (3, (0, 1)), (5, (0, z8)), (0, (1, 1)), (1, (0, y1))], [], w) _
                refine e_Ok.run (t' := (13, [(4, (0, y4 + 1)), (2, (0, y2 + 1)), (3, (0, 1)), (5, (0, z8)), (0, (1, 1)), (1, (0, y1))], [], w)) 1 rfl ?_
                refine e_Ok.sub kAlk (e_sub_of rfl ?_) (ih3 y1 (y2 + 1) 1 (y4 + 1) ⟨(by omega), (by first | (have a := kyp_n (i := y4) (by omega) (by rw [hz8]; omega); omega) | (have a := kyp_s (i := y4) (by omega) (by rw [hz8]; omega); omega)), (by omega)⟩ (by omega))
                exact ⟨rfl, rfl, rfl, rfl, rfl, trivial⟩
  refine e_Ok.sub kAlk (e_sub_of rfl ?_) (hL2 (172 + 1 : Int).toNat 21 (w 1 6) 1 0 ⟨(by omega), (by rw [kyp_0]; exact ⟨rfl, by show _ = w 1 6 + (0 : Int); omega⟩), (by omega)⟩ (by omega))
  exact ⟨rfl, rfl, rfl, rfl, rfl, trivial⟩
set_option maxHeartbeats 4000000 in
theorem l_125 {d : Nat} (hd : 22 ≤ d) {w : eW} (hT : e_Has kLt w) (hH : e_Has kLr w) (hn : w 1 7 < w 1 0) (ha : w 1 6 = w 1 7) (hdg : ((97 ≤ w 5 (w 1 7) % 256 ∧ w 5 (w 1 7) % 256 ≤ 122) ∨ (65 ≤ w 5 (w 1 7) % 256 ∧ w 5 (w 1 7) % 256 ≤ 90) ∨ (48 ≤ w 5 (w 1 7) % 256 ∧ w 5 (w 1 7) % 256 ≤ 57))) : e_Ok 20 elay kcode eI d 125 (0, [(0, (1, 1))], [], w) (fun r w' => r = [] ∧ e_fr kRn w w' ∧ e_Has kLt w' ∧ e_Has kLr w' ∧ (w 1 7 < w' 1 7 ∧ w' 1 7 ≤ w 1 0) ∧ ((w' 1 5 = 1 ∨ w' 1 5 = 3 ∨ (21 ≤ w' 1 5 ∧ w' 1 5 ≤ 53)) ∧ (21 ≤ w' 1 5 → w 1 7 + 2 ≤ w' 1 7) ∧ (w' 1 5 = 23 ∨ w' 1 5 = 41 ∨ w' 1 5 = 42 → w 1 7 + 3 ≤ w' 1 7))) := by
  obtain ⟨d, rfl⟩ : ∃ e, d = e + 1 := ⟨d - 1, by omega⟩
  have p0 := e_Has.get hH (c := 1) (k := 0) (lo := 0) (hi := 4000) rfl (by decide)
  have p6 := e_Has.get hH (c := 1) (k := 6) (lo := 0) (hi := 4000) rfl (by decide)
  have p7 := e_Has.get hH (c := 1) (k := 7) (lo := 0) (hi := 4000) rfl (by decide)
  have hL1 : ∀ (nn : Nat) (v1 : eW), e_fr kRn w v1 ∧ e_Has kLt v1 ∧ e_Has kLr v1 ∧ ((w 1 7 ≤ v1 1 7 ∧ v1 1 7 ≤ w 1 0)) ∧ ((w 1 7 < v1 1 7 ∨ (v1 1 7 = w 1 7 ∧ w 5 (v1 1 7) = w 5 (w 1 7)))) → 4001 - v1 1 7 < nn → e_Ok 20 elay kcode eI (d + 1) 125 (0, [(0, (1, 1))], [], v1) (fun r w' => r = [] ∧ e_fr kRn w w' ∧ e_Has kLt w' ∧ e_Has kLr w' ∧ (w 1 7 < w' 1 7 ∧ w' 1 7 ≤ w 1 0) ∧ ((w' 1 5 = 1 ∨ w' 1 5 = 3 ∨ (21 ≤ w' 1 5 ∧ w' 1 5 ≤ 53)) ∧ (21 ≤ w' 1 5 → w 1 7 + 2 ≤ w' 1 7) ∧ (w' 1 5 = 23 ∨ w' 1 5 = 41 ∨ w' 1 5 = 42 → w 1 7 + 3 ≤ w' 1 7))) := by
    intro nn
    induction nn with
    | zero => intro v1 hj hm; obtain ⟨j3, j4, j5, j6, j7⟩ := hj; exfalso; omega
    | succ nn ih2 =>
      intro v1 hj hm
      obtain ⟨j3, j4, j5, j6, j7⟩ := hj
      have u7 := e_Has.get j5 (c := 1) (k := 7) (lo := 0) (hi := 4000) rfl (by decide)
      refine e_Ok.run (t' := (1, [(0, (1, 1))], [(1, 1)], v1)) 1 rfl ?_
      refine e_Ok.getf (z := v1 1 7) rfl rfl rfl rfl rfl (by omega) ?_
      refine e_Ok.run (t' := (5, [(0, (1, 1))], [(1, 1), (0, v1 1 7)], v1)) 1 rfl ?_
      have h8 := (e_Has.get hH (c := 1) (k := 0) (lo := 0) (hi := 4000) rfl (by decide))
      refine e_Ok.getf (z := w 1 0) rfl rfl rfl rfl ((j3 1 0 (by unfold kRn; omega)).trans rfl) (by omega) ?_
      refine e_Ok.if2 rfl (fun h9 => ?_) (fun h9 => ?_)
      · replace h9 : (v1 1 7 : Int) ≥ w 1 0 := h9
        refine e_Ok.run (t' := (40, [(0, (1, 1))], [(1, 1), (1, 1)], v1)) 2 rfl ?_
        refine e_Ok.getf (z := v1 1 7) rfl rfl rfl rfl rfl (by omega) ?_
        refine e_Ok.run (t' := (44, [(0, (1, 1))], [(1, 1), (0, v1 1 7), (1, 1)], v1)) 1 rfl ?_
        have h10 := (e_Has.get hH (c := 1) (k := 6) (lo := 0) (hi := 4000) rfl (by decide))
        refine e_Ok.getf (z := w 1 6) rfl rfl rfl rfl ((j3 1 6 (by unfold kRn; omega)).trans rfl) (by omega) ?_
        refine e_Ok.sub' (z := v1 1 7 - w 1 6) rfl (by omega) (by omega) ?_
        refine e_Ok.run (t' := (50, [(0, (1, 1))], [(0, 24), (0, v1 1 7 - w 1 6), (1, 1)], v1)) 1 rfl ?_
        refine e_Ok.if2 rfl (fun h11 => ?_) (fun h11 => ?_)
        · replace h11 : (v1 1 7 - w 1 6 : Int) ≤ 24 := h11
          refine e_Ok.run (t' := (58, [(0, (1, 1))], [(1, 1), (1, 1)], v1)) 1 rfl ?_
          have b6 : v1 1 6 = w 1 6 := ((j3 1 6 (by unfold kRn; omega)).trans rfl)
          have b0 : v1 1 0 = w 1 0 := ((j3 1 0 (by unfold kRn; omega)).trans rfl)
          have b7 : v1 1 7 = v1 1 7 := rfl
          refine e_Ok.callV rfl (by omega) rfl rfl rfl rfl (l_126 (by omega) j4 j5 (by omega) (by omega)) (fun r12 w13 h14 => ?_)
          obtain ⟨z15, rfl, rfl, qk⟩ := h14
          have qkr : 1 ≤ z15 ∧ z15 ≤ 53 := by omega
          show e_Ok 20 elay kcode eI (d + 1) 125 (61, [(0, (1, 1))], [(0, z15), (1, 1)], v1) _
          refine e_Ok.putf rfl rfl rfl rfl ?_
          generalize hw16 : e_up v1 1 5 z15 = w16
          have f17 : e_fr kRn w w16 := e_fr.up j3 hw16 (by unfold kRn; omega)
          have hT18 : e_Has kLt w16 := e_Has.ups j4 hw16 rfl
          have hH19 : e_Has kLr w16 := e_Has.upr j5 hw16 rfl (by omega)
          refine e_Ok.rets rfl rfl ?_
          have y5 : w16 1 5 = z15 := (by rw [← hw16]; exact e_up_eq _ _ _ _)
          have y6 : w16 1 6 = w 1 6 := (by rw [← hw16]; exact (e_up_ne _ _ (Or.inr (by omega))).trans ((j3 1 6 (by unfold kRn; omega)).trans rfl))
          have y7 : w16 1 7 = v1 1 7 := (by rw [← hw16]; exact (e_up_ne _ _ (Or.inr (by omega))).trans rfl)
          have y8 : w16 1 8 = v1 1 8 := (by rw [← hw16]; exact (e_up_ne _ _ (Or.inr (by omega))).trans rfl)
          exact ⟨rfl, f17, hT18, hH19, (by omega), ⟨(by omega), (by omega), (by omega)⟩⟩
        · replace h11 : (v1 1 7 - w 1 6 : Int) > 24 := by have q : ¬ ((v1 1 7 - w 1 6 : Int) ≤ 24) := h11; omega
          refine e_Ok.run (t' := (61, [(0, (1, 1))], [(0, 3), (1, 1)], v1)) 2 rfl ?_
          refine e_Ok.putf rfl rfl rfl rfl ?_
          generalize hw20 : e_up v1 1 5 3 = w20
          have f21 : e_fr kRn w w20 := e_fr.up j3 hw20 (by unfold kRn; omega)
          have hT22 : e_Has kLt w20 := e_Has.ups j4 hw20 rfl
          have hH23 : e_Has kLr w20 := e_Has.upr j5 hw20 rfl (by omega)
          refine e_Ok.rets rfl rfl ?_
          have y5 : w20 1 5 = 3 := (by rw [← hw20]; exact e_up_eq _ _ _ _)
          have y6 : w20 1 6 = w 1 6 := (by rw [← hw20]; exact (e_up_ne _ _ (Or.inr (by omega))).trans ((j3 1 6 (by unfold kRn; omega)).trans rfl))
          have y7 : w20 1 7 = v1 1 7 := (by rw [← hw20]; exact (e_up_ne _ _ (Or.inr (by omega))).trans rfl)
          have y8 : w20 1 8 = v1 1 8 := (by rw [← hw20]; exact (e_up_ne _ _ (Or.inr (by omega))).trans rfl)
          exact ⟨rfl, f21, hT22, hH23, (by omega), ⟨(by omega), (by omega), (by omega)⟩⟩
      · replace h9 : (v1 1 7 : Int) < w 1 0 := by have q : ¬ ((v1 1 7 : Int) ≥ w 1 0) := h9; omega
        refine e_Ok.run (t' := (13, [(0, (1, 1))], [(1, 1), (1, 1)], v1)) 2 rfl ?_
        refine e_Ok.getf (z := v1 1 7) rfl rfl rfl rfl rfl (by omega) ?_
        refine e_Ok.callV rfl (by omega) rfl rfl rfl rfl (l_120 j4 j5 (by omega)) (fun r24 w25 h26 => ?_)
        obtain ⟨z27, rfl, rfl, q28r, q28x⟩ := h26
        replace q28x : (0 ≤ (v1 1 7) ∧ (v1 1 7) < (w 1 0) ∧ z27 = (w 5 (v1 1 7)) % 256) ∨ (((v1 1 7) < 0 ∨ (w 1 0) ≤ (v1 1 7)) ∧ z27 = 0) := by rw [show v1 1 0 = w 1 0 from ((j3 1 0 (by unfold kRn; omega)).trans rfl), show v1 5 (v1 1 7) = w 5 (v1 1 7) from ((j3 5 (v1 1 7) (by unfold kRn; omega)).trans rfl)] at q28x; exact q28x
        show e_Ok 20 elay kcode eI (d + 1) 125 (19, [(0, (1, 1))], [(0, z27)], v1) _
        refine e_Ok.callS rfl (by omega) rfl rfl (c_122 (by omega)) (fun r29 w30 h31 => ?_)
        obtain ⟨z32, rfl, rfl, q33⟩ := h31
        obtain ⟨rfl, q33⟩ | ⟨rfl, q33⟩ := q33
        · show e_Ok 20 elay kcode eI (d + 1) 125 (22, [(0, (1, 1))], [(0, 1)], v1) _
          refine e_Ok.if1 rfl (fun h34 => ?_) (fun h34 => ?_)
          · replace h34 : (1 : Int) = 0 := h34
            exfalso; omega
          · replace h34 : (1 : Int) ≠ 0 := by have q : ¬ ((1 : Int) = 0) := h34; omega
            refine e_Ok.run (t' := (27, [(0, (1, 1))], [(1, 1), (1, 1)], v1)) 2 rfl ?_
            refine e_Ok.getf (z := v1 1 7) rfl rfl rfl rfl rfl (by omega) ?_
            refine e_Ok.run (t' := (31, [(0, (1, 1))], [(0, 1), (0, v1 1 7), (1, 1)], v1)) 1 rfl ?_
            refine e_Ok.add (z := v1 1 7 + 1) rfl (by omega) (by omega) ?_
            refine e_Ok.putf rfl rfl rfl rfl ?_
            generalize hw35 : e_up v1 1 7 (v1 1 7 + 1) = w35
            have f36 : e_fr kRn w w35 := e_fr.up j3 hw35 (by unfold kRn; omega)
            have hT37 : e_Has kLt w35 := e_Has.ups j4 hw35 rfl
            have hH38 : e_Has kLr w35 := e_Has.upr j5 hw35 rfl (by omega)
            refine e_Ok.run (t' := (0, [(0, (1, 1))], [], w35)) 1 rfl ?_
            refine e_Ok.sub kAlk (e_sub_of rfl ?_) (ih2  w35 ⟨f36, hT37, hH38, (by have g7 : w35 1 7 = v1 1 7 + 1 := (by rw [← hw35]; exact e_up_eq _ _ _ _); omega), (Or.inl (by have g7 : w35 1 7 = v1 1 7 + 1 := (by rw [← hw35]; exact e_up_eq _ _ _ _); omega))⟩ ((by have g7 : w35 1 7 = v1 1 7 + 1 := (by rw [← hw35]; exact e_up_eq _ _ _ _); omega)))
            exact ⟨rfl, trivial⟩
        · show e_Ok 20 elay kcode eI (d + 1) 125 (22, [(0, (1, 1))], [(0, 0)], v1) _
          refine e_Ok.if1 rfl (fun h40 => ?_) (fun h40 => ?_)
          · replace h40 : (0 : Int) = 0 := h40
            refine e_Ok.run (t' := (40, [(0, (1, 1))], [(1, 1), (1, 1)], v1)) 2 rfl ?_
            refine e_Ok.getf (z := v1 1 7) rfl rfl rfl rfl rfl (by omega) ?_
            refine e_Ok.run (t' := (44, [(0, (1, 1))], [(1, 1), (0, v1 1 7), (1, 1)], v1)) 1 rfl ?_
            have h41 := (e_Has.get hH (c := 1) (k := 6) (lo := 0) (hi := 4000) rfl (by decide))
            refine e_Ok.getf (z := w 1 6) rfl rfl rfl rfl ((j3 1 6 (by unfold kRn; omega)).trans rfl) (by omega) ?_
            refine e_Ok.sub' (z := v1 1 7 - w 1 6) rfl (by omega) (by omega) ?_
            refine e_Ok.run (t' := (50, [(0, (1, 1))], [(0, 24), (0, v1 1 7 - w 1 6), (1, 1)], v1)) 1 rfl ?_
            refine e_Ok.if2 rfl (fun h42 => ?_) (fun h42 => ?_)
            · replace h42 : (v1 1 7 - w 1 6 : Int) ≤ 24 := h42
              refine e_Ok.run (t' := (58, [(0, (1, 1))], [(1, 1), (1, 1)], v1)) 1 rfl ?_
              have b6 : v1 1 6 = w 1 6 := ((j3 1 6 (by unfold kRn; omega)).trans rfl)
              have b0 : v1 1 0 = w 1 0 := ((j3 1 0 (by unfold kRn; omega)).trans rfl)
              have b7 : v1 1 7 = v1 1 7 := rfl
              refine e_Ok.callV rfl (by omega) rfl rfl rfl rfl (l_126 (by omega) j4 j5 (by omega) (by omega)) (fun r43 w44 h45 => ?_)
              obtain ⟨z46, rfl, rfl, qk⟩ := h45
              have qkr : 1 ≤ z46 ∧ z46 ≤ 53 := by omega
              show e_Ok 20 elay kcode eI (d + 1) 125 (61, [(0, (1, 1))], [(0, z46), (1, 1)], v1) _
              refine e_Ok.putf rfl rfl rfl rfl ?_
              generalize hw47 : e_up v1 1 5 z46 = w47
              have f48 : e_fr kRn w w47 := e_fr.up j3 hw47 (by unfold kRn; omega)
              have hT49 : e_Has kLt w47 := e_Has.ups j4 hw47 rfl
              have hH50 : e_Has kLr w47 := e_Has.upr j5 hw47 rfl (by omega)
              refine e_Ok.rets rfl rfl ?_
              have y5 : w47 1 5 = z46 := (by rw [← hw47]; exact e_up_eq _ _ _ _)
              have y6 : w47 1 6 = w 1 6 := (by rw [← hw47]; exact (e_up_ne _ _ (Or.inr (by omega))).trans ((j3 1 6 (by unfold kRn; omega)).trans rfl))
              have y7 : w47 1 7 = v1 1 7 := (by rw [← hw47]; exact (e_up_ne _ _ (Or.inr (by omega))).trans rfl)
              have y8 : w47 1 8 = v1 1 8 := (by rw [← hw47]; exact (e_up_ne _ _ (Or.inr (by omega))).trans rfl)
              exact ⟨rfl, f48, hT49, hH50, (by omega), ⟨(by omega), (by omega), (by omega)⟩⟩
            · replace h42 : (v1 1 7 - w 1 6 : Int) > 24 := by have q : ¬ ((v1 1 7 - w 1 6 : Int) ≤ 24) := h42; omega
              refine e_Ok.run (t' := (61, [(0, (1, 1))], [(0, 3), (1, 1)], v1)) 2 rfl ?_
              refine e_Ok.putf rfl rfl rfl rfl ?_
              generalize hw51 : e_up v1 1 5 3 = w51
              have f52 : e_fr kRn w w51 := e_fr.up j3 hw51 (by unfold kRn; omega)
              have hT53 : e_Has kLt w51 := e_Has.ups j4 hw51 rfl
              have hH54 : e_Has kLr w51 := e_Has.upr j5 hw51 rfl (by omega)
              refine e_Ok.rets rfl rfl ?_
              have y5 : w51 1 5 = 3 := (by rw [← hw51]; exact e_up_eq _ _ _ _)
              have y6 : w51 1 6 = w 1 6 := (by rw [← hw51]; exact (e_up_ne _ _ (Or.inr (by omega))).trans ((j3 1 6 (by unfold kRn; omega)).trans rfl))
              have y7 : w51 1 7 = v1 1 7 := (by rw [← hw51]; exact (e_up_ne _ _ (Or.inr (by omega))).trans rfl)
              have y8 : w51 1 8 = v1 1 8 := (by rw [← hw51]; exact (e_up_ne _ _ (Or.inr (by omega))).trans rfl)
              exact ⟨rfl, f52, hT53, hH54, (by omega), ⟨(by omega), (by omega), (by omega)⟩⟩
          · replace h40 : (0 : Int) ≠ 0 := by have q : ¬ ((0 : Int) = 0) := h40; omega
            exfalso; omega
  refine e_Ok.sub kAlk (e_sub_of rfl ?_) (hL1 (4001 + 1 : Int).toNat  w ⟨(e_fr.refl w), hT, hH, (by omega), (Or.inr ⟨rfl, rfl⟩)⟩ (by omega))
  exact ⟨rfl, trivial⟩
set_option maxHeartbeats 4000000 in
theorem l_128 {d : Nat} (hd : 21 ≤ d) {w : eW} (hT : e_Has kLt w) (hH : e_Has kLr w) (hn : w 1 7 < w 1 0) (ha : w 1 6 = w 1 7) {c : Int} (g_c : 0 ≤ c ∧ c ≤ 255) : e_Ok 20 elay kcode eI d 128 (0, [(0, (1, 1)), (1, (0, c))], [], w) (fun r w' => r = [] ∧ e_fr kRn w w' ∧ e_Has kLt w' ∧ e_Has kLr w' ∧ (w 1 7 < w' 1 7 ∧ w' 1 7 ≤ w 1 0) ∧ (w' 1 5 = 3 ∨ (5 ≤ w' 1 5 ∧ w' 1 5 ≤ 20))) := by
  obtain ⟨d, rfl⟩ : ∃ e, d = e + 1 := ⟨d - 1, by omega⟩
  have p0 := e_Has.get hH (c := 1) (k := 0) (lo := 0) (hi := 4000) rfl (by decide)
  have p6 := e_Has.get hH (c := 1) (k := 6) (lo := 0) (hi := 4000) rfl (by decide)
  have p7 := e_Has.get hH (c := 1) (k := 7) (lo := 0) (hi := 4000) rfl (by decide)
  refine e_Ok.run (t' := (2, [(0, (1, 1)), (1, (0, c))], [(1, 1), (1, 1)], w)) 2 rfl ?_
  have h1 := (e_Has.get hH (c := 1) (k := 7) (lo := 0) (hi := 4000) rfl (by decide))
  refine e_Ok.getf (z := w 1 7) rfl rfl rfl rfl rfl (by omega) ?_
  refine e_Ok.run (t' := (6, [(0, (1, 1)), (1, (0, c))], [(0, 1), (0, w 1 7), (1, 1)], w)) 1 rfl ?_
  refine e_Ok.add (z := w 1 7 + 1) rfl (by omega) (by omega) ?_
  refine e_Ok.putf rfl rfl rfl rfl ?_
  generalize hw2 : e_up w 1 7 (w 1 7 + 1) = w2
  have f3 : e_fr kRn w w2 := e_fr.up (e_fr.refl w) hw2 (by unfold kRn; omega)
  have hT4 : e_Has kLt w2 := e_Has.ups hT hw2 rfl
  have hH5 : e_Has kLr w2 := e_Has.upr hH hw2 rfl (by omega)
  refine e_Ok.run (t' := (12, [(0, (1, 1)), (1, (0, c))], [(1, 358)], w2)) 1 rfl ?_
  refine e_Ok.run (t' := (13, [(0, (1, 1)), (1, (0, c))], [(0, c), (1, 358)], w2)) 1 rfl ?_
  refine e_Ok.i2c rfl (fun z6 => ?_)
  refine e_Ok.ix rfl rfl (fun z7 z7r => ?_)
  refine e_Ok.run (t' := (20, [(2, (0, z7)), (0, (1, 1)), (1, (0, c))], [(0, z7), (1, 1)], w2)) 3 rfl ?_
  refine e_Ok.if1 rfl (fun h8 => ?_) (fun h8 => ?_)
  · replace h8 : (z7 : Int) ≥ 0 := h8
    refine e_Ok.run (t' := (30, [(2, (0, z7)), (0, (1, 1)), (1, (0, c))], [(0, z7), (0, 8), (1, 1)], w2)) 2 rfl ?_
    refine e_Ok.add (z := z7 + 8) rfl (by omega) (by omega) ?_
    refine e_Ok.putf rfl rfl rfl rfl ?_
    generalize hw9 : e_up w2 1 5 (z7 + 8) = w9
    have f10 : e_fr kRn w w9 := e_fr.up f3 hw9 (by unfold kRn; omega)
    have hT11 : e_Has kLt w9 := e_Has.ups hT4 hw9 rfl
    have hH12 : e_Has kLr w9 := e_Has.upr hH5 hw9 rfl (by omega)
    refine e_Ok.run (t' := (36, [(2, (0, z7)), (0, (1, 1)), (1, (0, c))], [(1, 1), (1, 1)], w9)) 2 rfl ?_
    refine e_Ok.getf (z := w 1 7 + 1) rfl rfl rfl rfl (by rw [← hw9]; exact (e_up_ne _ _ (Or.inr (by omega))).trans (by rw [← hw2]; exact e_up_eq _ _ _ _)) (by omega) ?_
    refine e_Ok.callV rfl (by omega) rfl rfl rfl rfl (l_120 hT11 hH12 (by omega)) (fun r13 w14 h15 => ?_)
    obtain ⟨z16, rfl, rfl, q17r, q17x⟩ := h15
    replace q17x : (0 ≤ (w 1 7 + 1) ∧ (w 1 7 + 1) < (w 1 0) ∧ z16 = (w 5 (w 1 7 + 1)) % 256) ∨ (((w 1 7 + 1) < 0 ∨ (w 1 0) ≤ (w 1 7 + 1)) ∧ z16 = 0) := by rw [show w9 1 0 = w 1 0 from (by rw [← hw9]; exact (e_up_ne _ _ (Or.inr (by omega))).trans (by rw [← hw2]; exact (e_up_ne _ _ (Or.inr (by omega))).trans rfl)), show w9 5 (w 1 7 + 1) = w 5 (w 1 7 + 1) from (by rw [← hw9]; exact (e_up_ne _ _ (Or.inl (by omega))).trans (by rw [← hw2]; exact (e_up_ne _ _ (Or.inl (by omega))).trans rfl))] at q17x; exact q17x
    show e_Ok 20 elay kcode eI (d + 1) 128 (42, [(2, (0, z7)), (0, (1, 1)), (1, (0, c))], [(0, z16)], w9) _
    refine e_Ok.run (t' := (44, [(2, (0, z7)), (0, (1, 1)), (1, (0, c))], [(0, 61), (0, z16)], w9)) 1 rfl ?_
    refine e_Ok.if2 rfl (fun h18 => ?_) (fun h18 => ?_)
    · replace h18 : (z16 : Int) = 61 := h18
      refine e_Ok.run (t' := (51, [(2, (0, z7)), (0, (1, 1)), (1, (0, c))], [(0, 33), (0, c)], w9)) 2 rfl ?_
      refine e_Ok.if2 rfl (fun h19 => ?_) (fun h19 => ?_)
      · replace h19 : (c : Int) ≠ 33 := h19
        refine e_Ok.run (t' := (65, [(2, (0, z7)), (0, (1, 1)), (1, (0, c))], [(0, 60), (0, c)], w9)) 2 rfl ?_
        refine e_Ok.if2 rfl (fun h20 => ?_) (fun h20 => ?_)
        · replace h20 : (c : Int) ≠ 60 := h20
          refine e_Ok.run (t' := (80, [(2, (0, z7)), (0, (1, 1)), (1, (0, c))], [(0, 62), (0, c)], w9)) 2 rfl ?_
          refine e_Ok.if2 rfl (fun h21 => ?_) (fun h21 => ?_)
          · replace h21 : (c : Int) ≠ 62 := h21
            refine e_Ok.rets rfl rfl ?_
            have y5 : w9 1 5 = z7 + 8 := (by rw [← hw9]; exact e_up_eq _ _ _ _)
            have y6 : w9 1 6 = w 1 6 := (by rw [← hw9]; exact (e_up_ne _ _ (Or.inr (by omega))).trans (by rw [← hw2]; exact (e_up_ne _ _ (Or.inr (by omega))).trans rfl))
            have y7 : w9 1 7 = w 1 7 + 1 := (by rw [← hw9]; exact (e_up_ne _ _ (Or.inr (by omega))).trans (by rw [← hw2]; exact e_up_eq _ _ _ _))
            have y8 : w9 1 8 = w 1 8 := (by rw [← hw9]; exact (e_up_ne _ _ (Or.inr (by omega))).trans (by rw [← hw2]; exact (e_up_ne _ _ (Or.inr (by omega))).trans rfl))
            exact ⟨rfl, f10, hT11, hH12, (by omega), (by omega)⟩
          · replace h21 : (c : Int) = 62 := by have q : ¬ ((c : Int) ≠ 62) := h21; omega
            refine e_Ok.run (t' := (86, [(2, (0, z7)), (0, (1, 1)), (1, (0, c))], [(0, 7), (1, 1)], w9)) 2 rfl ?_
            refine e_Ok.putf rfl rfl rfl rfl ?_
            generalize hw22 : e_up w9 1 5 7 = w22
            have f23 : e_fr kRn w w22 := e_fr.up f10 hw22 (by unfold kRn; omega)
            have hT24 : e_Has kLt w22 := e_Has.ups hT11 hw22 rfl
            have hH25 : e_Has kLr w22 := e_Has.upr hH12 hw22 rfl (by omega)
            refine e_Ok.run (t' := (95, [(2, (0, z7)), (0, (1, 1)), (1, (0, c))], [(1, 1), (1, 1)], w22)) 3 rfl ?_
            refine e_Ok.getf (z := w 1 7 + 1) rfl rfl rfl rfl (by rw [← hw22]; exact (e_up_ne _ _ (Or.inr (by omega))).trans (by rw [← hw9]; exact (e_up_ne _ _ (Or.inr (by omega))).trans (by rw [← hw2]; exact e_up_eq _ _ _ _))) (by omega) ?_
            refine e_Ok.run (t' := (99, [(2, (0, z7)), (0, (1, 1)), (1, (0, c))], [(0, 1), (0, w 1 7 + 1), (1, 1)], w22)) 1 rfl ?_
            refine e_Ok.add (z := w 1 7 + 2) rfl (by omega) (by omega) ?_
            refine e_Ok.putf rfl rfl rfl rfl ?_
            generalize hw26 : e_up w22 1 7 (w 1 7 + 2) = w26
            have f27 : e_fr kRn w w26 := e_fr.up f23 hw26 (by unfold kRn; omega)
            have hT28 : e_Has kLt w26 := e_Has.ups hT24 hw26 rfl
            have hH29 : e_Has kLr w26 := e_Has.upr hH25 hw26 rfl (by omega)
            refine e_Ok.rets rfl rfl ?_
            have y5 : w26 1 5 = 7 := (by rw [← hw26]; exact (e_up_ne _ _ (Or.inr (by omega))).trans (by rw [← hw22]; exact e_up_eq _ _ _ _))
            have y6 : w26 1 6 = w 1 6 := (by rw [← hw26]; exact (e_up_ne _ _ (Or.inr (by omega))).trans (by rw [← hw22]; exact (e_up_ne _ _ (Or.inr (by omega))).trans (by rw [← hw9]; exact (e_up_ne _ _ (Or.inr (by omega))).trans (by rw [← hw2]; exact (e_up_ne _ _ (Or.inr (by omega))).trans rfl))))
            have y7 : w26 1 7 = w 1 7 + 2 := (by rw [← hw26]; exact e_up_eq _ _ _ _)
            have y8 : w26 1 8 = w 1 8 := (by rw [← hw26]; exact (e_up_ne _ _ (Or.inr (by omega))).trans (by rw [← hw22]; exact (e_up_ne _ _ (Or.inr (by omega))).trans (by rw [← hw9]; exact (e_up_ne _ _ (Or.inr (by omega))).trans (by rw [← hw2]; exact (e_up_ne _ _ (Or.inr (by omega))).trans rfl))))
            exact ⟨rfl, f27, hT28, hH29, (by omega), (by omega)⟩
        · replace h20 : (c : Int) = 60 := by have q : ¬ ((c : Int) ≠ 60) := h20; omega
          refine e_Ok.run (t' := (71, [(2, (0, z7)), (0, (1, 1)), (1, (0, c))], [(0, 6), (1, 1)], w9)) 2 rfl ?_
          refine e_Ok.putf rfl rfl rfl rfl ?_
          generalize hw30 : e_up w9 1 5 6 = w30
          have f31 : e_fr kRn w w30 := e_fr.up f10 hw30 (by unfold kRn; omega)
          have hT32 : e_Has kLt w30 := e_Has.ups hT11 hw30 rfl
          have hH33 : e_Has kLr w30 := e_Has.upr hH12 hw30 rfl (by omega)
          refine e_Ok.run (t' := (95, [(2, (0, z7)), (0, (1, 1)), (1, (0, c))], [(1, 1), (1, 1)], w30)) 3 rfl ?_
          refine e_Ok.getf (z := w 1 7 + 1) rfl rfl rfl rfl (by rw [← hw30]; exact (e_up_ne _ _ (Or.inr (by omega))).trans (by rw [← hw9]; exact (e_up_ne _ _ (Or.inr (by omega))).trans (by rw [← hw2]; exact e_up_eq _ _ _ _))) (by omega) ?_
          refine e_Ok.run (t' := (99, [(2, (0, z7)), (0, (1, 1)), (1, (0, c))], [(0, 1), (0, w 1 7 + 1), (1, 1)], w30)) 1 rfl ?_
          refine e_Ok.add (z := w 1 7 + 2) rfl (by omega) (by omega) ?_
          refine e_Ok.putf rfl rfl rfl rfl ?_
          generalize hw34 : e_up w30 1 7 (w 1 7 + 2) = w34
          have f35 : e_fr kRn w w34 := e_fr.up f31 hw34 (by unfold kRn; omega)
          have hT36 : e_Has kLt w34 := e_Has.ups hT32 hw34 rfl
          have hH37 : e_Has kLr w34 := e_Has.upr hH33 hw34 rfl (by omega)
          refine e_Ok.rets rfl rfl ?_
          have y5 : w34 1 5 = 6 := (by rw [← hw34]; exact (e_up_ne _ _ (Or.inr (by omega))).trans (by rw [← hw30]; exact e_up_eq _ _ _ _))
          have y6 : w34 1 6 = w 1 6 := (by rw [← hw34]; exact (e_up_ne _ _ (Or.inr (by omega))).trans (by rw [← hw30]; exact (e_up_ne _ _ (Or.inr (by omega))).trans (by rw [← hw9]; exact (e_up_ne _ _ (Or.inr (by omega))).trans (by rw [← hw2]; exact (e_up_ne _ _ (Or.inr (by omega))).trans rfl))))
          have y7 : w34 1 7 = w 1 7 + 2 := (by rw [← hw34]; exact e_up_eq _ _ _ _)
          have y8 : w34 1 8 = w 1 8 := (by rw [← hw34]; exact (e_up_ne _ _ (Or.inr (by omega))).trans (by rw [← hw30]; exact (e_up_ne _ _ (Or.inr (by omega))).trans (by rw [← hw9]; exact (e_up_ne _ _ (Or.inr (by omega))).trans (by rw [← hw2]; exact (e_up_ne _ _ (Or.inr (by omega))).trans rfl))))
          exact ⟨rfl, f35, hT36, hH37, (by omega), (by omega)⟩
      · replace h19 : (c : Int) = 33 := by have q : ¬ ((c : Int) ≠ 33) := h19; omega
        refine e_Ok.run (t' := (56, [(2, (0, z7)), (0, (1, 1)), (1, (0, c))], [(0, 5), (1, 1)], w9)) 2 rfl ?_
        refine e_Ok.putf rfl rfl rfl rfl ?_
        generalize hw38 : e_up w9 1 5 5 = w38
        have f40 : e_fr kRn w w38 := e_fr.up f10 hw38 (by unfold kRn; omega)
        have hT41 : e_Has kLt w38 := e_Has.ups hT11 hw38 rfl
        have hH42 : e_Has kLr w38 := e_Has.upr hH12 hw38 rfl (by omega)
        refine e_Ok.run (t' := (95, [(2, (0, z7)), (0, (1, 1)), (1, (0, c))], [(1, 1), (1, 1)], w38)) 3 rfl ?_
        refine e_Ok.getf (z := w 1 7 + 1) rfl rfl rfl rfl (by rw [← hw38]; exact (e_up_ne _ _ (Or.inr (by omega))).trans (by rw [← hw9]; exact (e_up_ne _ _ (Or.inr (by omega))).trans (by rw [← hw2]; exact e_up_eq _ _ _ _))) (by omega) ?_
        refine e_Ok.run (t' := (99, [(2, (0, z7)), (0, (1, 1)), (1, (0, c))], [(0, 1), (0, w 1 7 + 1), (1, 1)], w38)) 1 rfl ?_
        refine e_Ok.add (z := w 1 7 + 2) rfl (by omega) (by omega) ?_
        refine e_Ok.putf rfl rfl rfl rfl ?_
        generalize hw43 : e_up w38 1 7 (w 1 7 + 2) = w43
        have f44 : e_fr kRn w w43 := e_fr.up f40 hw43 (by unfold kRn; omega)
        have hT45 : e_Has kLt w43 := e_Has.ups hT41 hw43 rfl
        have hH46 : e_Has kLr w43 := e_Has.upr hH42 hw43 rfl (by omega)
        refine e_Ok.rets rfl rfl ?_
        have y5 : w43 1 5 = 5 := (by rw [← hw43]; exact (e_up_ne _ _ (Or.inr (by omega))).trans (by rw [← hw38]; exact e_up_eq _ _ _ _))
        have y6 : w43 1 6 = w 1 6 := (by rw [← hw43]; exact (e_up_ne _ _ (Or.inr (by omega))).trans (by rw [← hw38]; exact (e_up_ne _ _ (Or.inr (by omega))).trans (by rw [← hw9]; exact (e_up_ne _ _ (Or.inr (by omega))).trans (by rw [← hw2]; exact (e_up_ne _ _ (Or.inr (by omega))).trans rfl))))
        have y7 : w43 1 7 = w 1 7 + 2 := (by rw [← hw43]; exact e_up_eq _ _ _ _)
        have y8 : w43 1 8 = w 1 8 := (by rw [← hw43]; exact (e_up_ne _ _ (Or.inr (by omega))).trans (by rw [← hw38]; exact (e_up_ne _ _ (Or.inr (by omega))).trans (by rw [← hw9]; exact (e_up_ne _ _ (Or.inr (by omega))).trans (by rw [← hw2]; exact (e_up_ne _ _ (Or.inr (by omega))).trans rfl))))
        exact ⟨rfl, f44, hT45, hH46, (by omega), (by omega)⟩
    · replace h18 : (z16 : Int) ≠ 61 := by have q : ¬ ((z16 : Int) = 61) := h18; omega
      refine e_Ok.rets rfl rfl ?_
      have y5 : w9 1 5 = z7 + 8 := (by rw [← hw9]; exact e_up_eq _ _ _ _)
      have y6 : w9 1 6 = w 1 6 := (by rw [← hw9]; exact (e_up_ne _ _ (Or.inr (by omega))).trans (by rw [← hw2]; exact (e_up_ne _ _ (Or.inr (by omega))).trans rfl))
      have y7 : w9 1 7 = w 1 7 + 1 := (by rw [← hw9]; exact (e_up_ne _ _ (Or.inr (by omega))).trans (by rw [← hw2]; exact e_up_eq _ _ _ _))
      have y8 : w9 1 8 = w 1 8 := (by rw [← hw9]; exact (e_up_ne _ _ (Or.inr (by omega))).trans (by rw [← hw2]; exact (e_up_ne _ _ (Or.inr (by omega))).trans rfl))
      exact ⟨rfl, f10, hT11, hH12, (by omega), (by omega)⟩
  · replace h8 : (z7 : Int) < 0 := by have q : ¬ ((z7 : Int) ≥ 0) := h8; omega
    refine e_Ok.run (t' := (31, [(2, (0, z7)), (0, (1, 1)), (1, (0, c))], [(0, 3), (1, 1)], w2)) 2 rfl ?_
    refine e_Ok.putf rfl rfl rfl rfl ?_
    generalize hw47 : e_up w2 1 5 3 = w47
    have f48 : e_fr kRn w w47 := e_fr.up f3 hw47 (by unfold kRn; omega)
    have hT49 : e_Has kLt w47 := e_Has.ups hT4 hw47 rfl
    have hH50 : e_Has kLr w47 := e_Has.upr hH5 hw47 rfl (by omega)
    refine e_Ok.run (t' := (36, [(2, (0, z7)), (0, (1, 1)), (1, (0, c))], [(1, 1), (1, 1)], w47)) 2 rfl ?_
    refine e_Ok.getf (z := w 1 7 + 1) rfl rfl rfl rfl (by rw [← hw47]; exact (e_up_ne _ _ (Or.inr (by omega))).trans (by rw [← hw2]; exact e_up_eq _ _ _ _)) (by omega) ?_
    refine e_Ok.callV rfl (by omega) rfl rfl rfl rfl (l_120 hT49 hH50 (by omega)) (fun r51 w52 h53 => ?_)
    obtain ⟨z54, rfl, rfl, q55r, q55x⟩ := h53
    replace q55x : (0 ≤ (w 1 7 + 1) ∧ (w 1 7 + 1) < (w 1 0) ∧ z54 = (w 5 (w 1 7 + 1)) % 256) ∨ (((w 1 7 + 1) < 0 ∨ (w 1 0) ≤ (w 1 7 + 1)) ∧ z54 = 0) := by rw [show w47 1 0 = w 1 0 from (by rw [← hw47]; exact (e_up_ne _ _ (Or.inr (by omega))).trans (by rw [← hw2]; exact (e_up_ne _ _ (Or.inr (by omega))).trans rfl)), show w47 5 (w 1 7 + 1) = w 5 (w 1 7 + 1) from (by rw [← hw47]; exact (e_up_ne _ _ (Or.inl (by omega))).trans (by rw [← hw2]; exact (e_up_ne _ _ (Or.inl (by omega))).trans rfl))] at q55x; exact q55x
    show e_Ok 20 elay kcode eI (d + 1) 128 (42, [(2, (0, z7)), (0, (1, 1)), (1, (0, c))], [(0, z54)], w47) _
    refine e_Ok.run (t' := (44, [(2, (0, z7)), (0, (1, 1)), (1, (0, c))], [(0, 61), (0, z54)], w47)) 1 rfl ?_
    refine e_Ok.if2 rfl (fun h56 => ?_) (fun h56 => ?_)
    · replace h56 : (z54 : Int) = 61 := h56
      refine e_Ok.run (t' := (51, [(2, (0, z7)), (0, (1, 1)), (1, (0, c))], [(0, 33), (0, c)], w47)) 2 rfl ?_
      refine e_Ok.if2 rfl (fun h57 => ?_) (fun h57 => ?_)
      · replace h57 : (c : Int) ≠ 33 := h57
        refine e_Ok.run (t' := (65, [(2, (0, z7)), (0, (1, 1)), (1, (0, c))], [(0, 60), (0, c)], w47)) 2 rfl ?_
        refine e_Ok.if2 rfl (fun h58 => ?_) (fun h58 => ?_)
        · replace h58 : (c : Int) ≠ 60 := h58
          refine e_Ok.run (t' := (80, [(2, (0, z7)), (0, (1, 1)), (1, (0, c))], [(0, 62), (0, c)], w47)) 2 rfl ?_
          refine e_Ok.if2 rfl (fun h59 => ?_) (fun h59 => ?_)
          · replace h59 : (c : Int) ≠ 62 := h59
            refine e_Ok.rets rfl rfl ?_
            have y5 : w47 1 5 = 3 := (by rw [← hw47]; exact e_up_eq _ _ _ _)
            have y6 : w47 1 6 = w 1 6 := (by rw [← hw47]; exact (e_up_ne _ _ (Or.inr (by omega))).trans (by rw [← hw2]; exact (e_up_ne _ _ (Or.inr (by omega))).trans rfl))
            have y7 : w47 1 7 = w 1 7 + 1 := (by rw [← hw47]; exact (e_up_ne _ _ (Or.inr (by omega))).trans (by rw [← hw2]; exact e_up_eq _ _ _ _))
            have y8 : w47 1 8 = w 1 8 := (by rw [← hw47]; exact (e_up_ne _ _ (Or.inr (by omega))).trans (by rw [← hw2]; exact (e_up_ne _ _ (Or.inr (by omega))).trans rfl))
            exact ⟨rfl, f48, hT49, hH50, (by omega), (by omega)⟩
          · replace h59 : (c : Int) = 62 := by have q : ¬ ((c : Int) ≠ 62) := h59; omega
            refine e_Ok.run (t' := (86, [(2, (0, z7)), (0, (1, 1)), (1, (0, c))], [(0, 7), (1, 1)], w47)) 2 rfl ?_
            refine e_Ok.putf rfl rfl rfl rfl ?_
            generalize hw60 : e_up w47 1 5 7 = w60
            have f61 : e_fr kRn w w60 := e_fr.up f48 hw60 (by unfold kRn; omega)
            have hT62 : e_Has kLt w60 := e_Has.ups hT49 hw60 rfl
            have hH63 : e_Has kLr w60 := e_Has.upr hH50 hw60 rfl (by omega)
            refine e_Ok.run (t' := (95, [(2, (0, z7)), (0, (1, 1)), (1, (0, c))], [(1, 1), (1, 1)], w60)) 3 rfl ?_
            refine e_Ok.getf (z := w 1 7 + 1) rfl rfl rfl rfl (by rw [← hw60]; exact (e_up_ne _ _ (Or.inr (by omega))).trans (by rw [← hw47]; exact (e_up_ne _ _ (Or.inr (by omega))).trans (by rw [← hw2]; exact e_up_eq _ _ _ _))) (by omega) ?_
            refine e_Ok.run (t' := (99, [(2, (0, z7)), (0, (1, 1)), (1, (0, c))], [(0, 1), (0, w 1 7 + 1), (1, 1)], w60)) 1 rfl ?_
            refine e_Ok.add (z := w 1 7 + 2) rfl (by omega) (by omega) ?_
            refine e_Ok.putf rfl rfl rfl rfl ?_
            generalize hw64 : e_up w60 1 7 (w 1 7 + 2) = w64
            have f65 : e_fr kRn w w64 := e_fr.up f61 hw64 (by unfold kRn; omega)
            have hT66 : e_Has kLt w64 := e_Has.ups hT62 hw64 rfl
            have hH67 : e_Has kLr w64 := e_Has.upr hH63 hw64 rfl (by omega)
            refine e_Ok.rets rfl rfl ?_
            have y5 : w64 1 5 = 7 := (by rw [← hw64]; exact (e_up_ne _ _ (Or.inr (by omega))).trans (by rw [← hw60]; exact e_up_eq _ _ _ _))
            have y6 : w64 1 6 = w 1 6 := (by rw [← hw64]; exact (e_up_ne _ _ (Or.inr (by omega))).trans (by rw [← hw60]; exact (e_up_ne _ _ (Or.inr (by omega))).trans (by rw [← hw47]; exact (e_up_ne _ _ (Or.inr (by omega))).trans (by rw [← hw2]; exact (e_up_ne _ _ (Or.inr (by omega))).trans rfl))))
            have y7 : w64 1 7 = w 1 7 + 2 := (by rw [← hw64]; exact e_up_eq _ _ _ _)
            have y8 : w64 1 8 = w 1 8 := (by rw [← hw64]; exact (e_up_ne _ _ (Or.inr (by omega))).trans (by rw [← hw60]; exact (e_up_ne _ _ (Or.inr (by omega))).trans (by rw [← hw47]; exact (e_up_ne _ _ (Or.inr (by omega))).trans (by rw [← hw2]; exact (e_up_ne _ _ (Or.inr (by omega))).trans rfl))))
            exact ⟨rfl, f65, hT66, hH67, (by omega), (by omega)⟩
        · replace h58 : (c : Int) = 60 := by have q : ¬ ((c : Int) ≠ 60) := h58; omega
          refine e_Ok.run (t' := (71, [(2, (0, z7)), (0, (1, 1)), (1, (0, c))], [(0, 6), (1, 1)], w47)) 2 rfl ?_
          refine e_Ok.putf rfl rfl rfl rfl ?_
          generalize hw68 : e_up w47 1 5 6 = w68
          have f69 : e_fr kRn w w68 := e_fr.up f48 hw68 (by unfold kRn; omega)
          have hT70 : e_Has kLt w68 := e_Has.ups hT49 hw68 rfl
          have hH71 : e_Has kLr w68 := e_Has.upr hH50 hw68 rfl (by omega)
          refine e_Ok.run (t' := (95, [(2, (0, z7)), (0, (1, 1)), (1, (0, c))], [(1, 1), (1, 1)], w68)) 3 rfl ?_
          refine e_Ok.getf (z := w 1 7 + 1) rfl rfl rfl rfl (by rw [← hw68]; exact (e_up_ne _ _ (Or.inr (by omega))).trans (by rw [← hw47]; exact (e_up_ne _ _ (Or.inr (by omega))).trans (by rw [← hw2]; exact e_up_eq _ _ _ _))) (by omega) ?_
          refine e_Ok.run (t' := (99, [(2, (0, z7)), (0, (1, 1)), (1, (0, c))], [(0, 1), (0, w 1 7 + 1), (1, 1)], w68)) 1 rfl ?_
          refine e_Ok.add (z := w 1 7 + 2) rfl (by omega) (by omega) ?_
          refine e_Ok.putf rfl rfl rfl rfl ?_
          generalize hw72 : e_up w68 1 7 (w 1 7 + 2) = w72
          have f73 : e_fr kRn w w72 := e_fr.up f69 hw72 (by unfold kRn; omega)
          have hT74 : e_Has kLt w72 := e_Has.ups hT70 hw72 rfl
          have hH75 : e_Has kLr w72 := e_Has.upr hH71 hw72 rfl (by omega)
          refine e_Ok.rets rfl rfl ?_
          have y5 : w72 1 5 = 6 := (by rw [← hw72]; exact (e_up_ne _ _ (Or.inr (by omega))).trans (by rw [← hw68]; exact e_up_eq _ _ _ _))
          have y6 : w72 1 6 = w 1 6 := (by rw [← hw72]; exact (e_up_ne _ _ (Or.inr (by omega))).trans (by rw [← hw68]; exact (e_up_ne _ _ (Or.inr (by omega))).trans (by rw [← hw47]; exact (e_up_ne _ _ (Or.inr (by omega))).trans (by rw [← hw2]; exact (e_up_ne _ _ (Or.inr (by omega))).trans rfl))))
          have y7 : w72 1 7 = w 1 7 + 2 := (by rw [← hw72]; exact e_up_eq _ _ _ _)
          have y8 : w72 1 8 = w 1 8 := (by rw [← hw72]; exact (e_up_ne _ _ (Or.inr (by omega))).trans (by rw [← hw68]; exact (e_up_ne _ _ (Or.inr (by omega))).trans (by rw [← hw47]; exact (e_up_ne _ _ (Or.inr (by omega))).trans (by rw [← hw2]; exact (e_up_ne _ _ (Or.inr (by omega))).trans rfl))))
          exact ⟨rfl, f73, hT74, hH75, (by omega), (by omega)⟩
      · replace h57 : (c : Int) = 33 := by have q : ¬ ((c : Int) ≠ 33) := h57; omega
        refine e_Ok.run (t' := (56, [(2, (0, z7)), (0, (1, 1)), (1, (0, c))], [(0, 5), (1, 1)], w47)) 2 rfl ?_
        refine e_Ok.putf rfl rfl rfl rfl ?_
        generalize hw76 : e_up w47 1 5 5 = w76
        have f77 : e_fr kRn w w76 := e_fr.up f48 hw76 (by unfold kRn; omega)
        have hT78 : e_Has kLt w76 := e_Has.ups hT49 hw76 rfl
        have hH79 : e_Has kLr w76 := e_Has.upr hH50 hw76 rfl (by omega)
        refine e_Ok.run (t' := (95, [(2, (0, z7)), (0, (1, 1)), (1, (0, c))], [(1, 1), (1, 1)], w76)) 3 rfl ?_
        refine e_Ok.getf (z := w 1 7 + 1) rfl rfl rfl rfl (by rw [← hw76]; exact (e_up_ne _ _ (Or.inr (by omega))).trans (by rw [← hw47]; exact (e_up_ne _ _ (Or.inr (by omega))).trans (by rw [← hw2]; exact e_up_eq _ _ _ _))) (by omega) ?_
        refine e_Ok.run (t' := (99, [(2, (0, z7)), (0, (1, 1)), (1, (0, c))], [(0, 1), (0, w 1 7 + 1), (1, 1)], w76)) 1 rfl ?_
        refine e_Ok.add (z := w 1 7 + 2) rfl (by omega) (by omega) ?_
        refine e_Ok.putf rfl rfl rfl rfl ?_
        generalize hw80 : e_up w76 1 7 (w 1 7 + 2) = w80
        have f81 : e_fr kRn w w80 := e_fr.up f77 hw80 (by unfold kRn; omega)
        have hT82 : e_Has kLt w80 := e_Has.ups hT78 hw80 rfl
        have hH83 : e_Has kLr w80 := e_Has.upr hH79 hw80 rfl (by omega)
        refine e_Ok.rets rfl rfl ?_
        have y5 : w80 1 5 = 5 := (by rw [← hw80]; exact (e_up_ne _ _ (Or.inr (by omega))).trans (by rw [← hw76]; exact e_up_eq _ _ _ _))
        have y6 : w80 1 6 = w 1 6 := (by rw [← hw80]; exact (e_up_ne _ _ (Or.inr (by omega))).trans (by rw [← hw76]; exact (e_up_ne _ _ (Or.inr (by omega))).trans (by rw [← hw47]; exact (e_up_ne _ _ (Or.inr (by omega))).trans (by rw [← hw2]; exact (e_up_ne _ _ (Or.inr (by omega))).trans rfl))))
        have y7 : w80 1 7 = w 1 7 + 2 := (by rw [← hw80]; exact e_up_eq _ _ _ _)
        have y8 : w80 1 8 = w 1 8 := (by rw [← hw80]; exact (e_up_ne _ _ (Or.inr (by omega))).trans (by rw [← hw76]; exact (e_up_ne _ _ (Or.inr (by omega))).trans (by rw [← hw47]; exact (e_up_ne _ _ (Or.inr (by omega))).trans (by rw [← hw2]; exact (e_up_ne _ _ (Or.inr (by omega))).trans rfl))))
        exact ⟨rfl, f81, hT82, hH83, (by omega), (by omega)⟩
    · replace h56 : (z54 : Int) ≠ 61 := by have q : ¬ ((z54 : Int) = 61) := h56; omega
      refine e_Ok.rets rfl rfl ?_
      have y5 : w47 1 5 = 3 := (by rw [← hw47]; exact e_up_eq _ _ _ _)
      have y6 : w47 1 6 = w 1 6 := (by rw [← hw47]; exact (e_up_ne _ _ (Or.inr (by omega))).trans (by rw [← hw2]; exact (e_up_ne _ _ (Or.inr (by omega))).trans rfl))
      have y7 : w47 1 7 = w 1 7 + 1 := (by rw [← hw47]; exact (e_up_ne _ _ (Or.inr (by omega))).trans (by rw [← hw2]; exact e_up_eq _ _ _ _))
      have y8 : w47 1 8 = w 1 8 := (by rw [← hw47]; exact (e_up_ne _ _ (Or.inr (by omega))).trans (by rw [← hw2]; exact (e_up_ne _ _ (Or.inr (by omega))).trans rfl))
      exact ⟨rfl, f48, hT49, hH50, (by omega), (by omega)⟩
set_option maxHeartbeats 4000000 in
theorem l_123 {d : Nat} (hd : 24 ≤ d) {w : eW} (hT : e_Has kLt w) (hH : e_Has kLr w) (hn : w 1 7 ≤ w 1 0) : e_Ok 20 elay kcode eI d 123 (0, [(0, (1, 1))], [], w) (fun r w' => r = [] ∧ e_fr kRa w w' ∧ e_Has kLt w' ∧ e_Has kLr w' ∧ tkR w' ∧ w 1 7 ≤ w' 1 6 ∧ w' 1 5 ≠ 4) := by
  obtain ⟨d, rfl⟩ : ∃ e, d = e + 1 := ⟨d - 1, by omega⟩
  have p0 := e_Has.get hH (c := 1) (k := 0) (lo := 0) (hi := 4000) rfl (by decide)
  have p6 := e_Has.get hH (c := 1) (k := 6) (lo := 0) (hi := 4000) rfl (by decide)
  have p7 := e_Has.get hH (c := 1) (k := 7) (lo := 0) (hi := 4000) rfl (by decide)
  refine e_Ok.run (t' := (1, [(0, (1, 1))], [(1, 1)], w)) 1 rfl ?_
  have n4_0 : w 1 0 = w 1 0 := rfl
  have n4_5 : w 1 5 = w 1 5 := rfl
  have n4_6 : w 1 6 = w 1 6 := rfl
  have n4_7 : w 1 7 = w 1 7 := rfl
  have n4_8 : w 1 8 = w 1 8 := rfl
  refine e_Ok.callV rfl (by omega) rfl rfl rfl rfl (l_124 (by omega) hT hH (by omega)) (fun r1 w2 h3 => ?_)
  obtain ⟨rfl, q5f, q5T, q5H, q5x⟩ := h3
  have f6 : e_fr kRa w w2 := e_fr.trans (e_fr.refl w) (e_fr.mono q5f (fun c k q => by unfold kRn at q; unfold kRa; omega))
  have q57 := e_Has.get q5H (c := 1) (k := 7) (lo := 0) (hi := 4000) rfl (by decide)
  show e_Ok 20 elay kcode eI (d + 1) 123 (4, [(0, (1, 1))], [], w2) _
  refine e_Ok.run (t' := (6, [(0, (1, 1))], [(1, 1), (1, 1)], w2)) 2 rfl ?_
  refine e_Ok.getf (z := w2 1 7) rfl rfl rfl rfl rfl (by omega) ?_
  refine e_Ok.putf rfl rfl rfl rfl ?_
  generalize hw7 : e_up w2 1 6 (w2 1 7) = w7
  have f8 : e_fr kRa w w7 := e_fr.up f6 hw7 (by unfold kRa; omega)
  have hT9 : e_Has kLt w7 := e_Has.ups q5T hw7 rfl
  have hH10 : e_Has kLr w7 := e_Has.upr q5H hw7 rfl (by omega)
  refine e_Ok.run (t' := (14, [(0, (1, 1))], [(1, 1), (1, 1)], w7)) 2 rfl ?_
  refine e_Ok.getf (z := w2 1 7) rfl rfl rfl rfl (by rw [← hw7]; exact (e_up_ne _ _ (Or.inr (by omega))).trans rfl) (by omega) ?_
  refine e_Ok.callV rfl (by omega) rfl rfl rfl rfl (l_120 hT9 hH10 (by omega)) (fun r11 w12 h13 => ?_)
  obtain ⟨z14, rfl, rfl, q15r, q15x⟩ := h13
  replace q15x : (0 ≤ (w2 1 7) ∧ (w2 1 7) < (w 1 0) ∧ z14 = (w 5 (w2 1 7)) % 256) ∨ (((w2 1 7) < 0 ∨ (w 1 0) ≤ (w2 1 7)) ∧ z14 = 0) := by rw [show w7 1 0 = w 1 0 from (by rw [← hw7]; exact (e_up_ne _ _ (Or.inr (by omega))).trans ((q5f 1 0 (by unfold kRn; omega)).trans rfl)), show w7 5 (w2 1 7) = w 5 (w2 1 7) from (by rw [← hw7]; exact (e_up_ne _ _ (Or.inl (by omega))).trans ((q5f 5 (w2 1 7) (by unfold kRn; omega)).trans rfl))] at q15x; exact q15x
  show e_Ok 20 elay kcode eI (d + 1) 123 (20, [(0, (1, 1))], [(0, z14)], w7) _
  refine e_Ok.run (t' := (22, [(1, (0, z14)), (0, (1, 1))], [(1, 1)], w7)) 2 rfl ?_
  refine e_Ok.getf (z := w2 1 7) rfl rfl rfl rfl (by rw [← hw7]; exact (e_up_ne _ _ (Or.inr (by omega))).trans rfl) (by omega) ?_
  refine e_Ok.run (t' := (26, [(1, (0, z14)), (0, (1, 1))], [(1, 1), (0, w2 1 7)], w7)) 1 rfl ?_
  refine e_Ok.getf (z := w 1 0) rfl rfl rfl rfl (by rw [← hw7]; exact (e_up_ne _ _ (Or.inr (by omega))).trans ((q5f 1 0 (by unfold kRn; omega)).trans rfl)) (by omega) ?_
  refine e_Ok.if2 rfl (fun h16 => ?_) (fun h16 => ?_)
  · replace h16 : (w2 1 7 : Int) < w 1 0 := h16
    refine e_Ok.run (t' := (41, [(1, (0, z14)), (0, (1, 1))], [(0, z14)], w7)) 1 rfl ?_
    refine e_Ok.callS rfl (by omega) rfl rfl (c_121 (by omega)) (fun r17 w18 h19 => ?_)
    obtain ⟨z20, rfl, rfl, q21⟩ := h19
    obtain ⟨rfl, q21⟩ | ⟨rfl, q21⟩ := q21
    · show e_Ok 20 elay kcode eI (d + 1) 123 (44, [(1, (0, z14)), (0, (1, 1))], [(0, 1)], w7) _
      refine e_Ok.if1 rfl (fun h22 => ?_) (fun h22 => ?_)
      · replace h22 : (1 : Int) = 0 := h22
        exfalso; omega
      · replace h22 : (1 : Int) ≠ 0 := by have q : ¬ ((1 : Int) = 0) := h22; omega
        refine e_Ok.run (t' := (48, [(1, (0, z14)), (0, (1, 1))], [(1, 1)], w7)) 1 rfl ?_
        have n26_0 : w7 1 0 = w 1 0 := (by rw [← hw7]; exact (e_up_ne _ _ (Or.inr (by omega))).trans ((q5f 1 0 (by unfold kRn; omega)).trans rfl))
        have n26_5 : w7 1 5 = w2 1 5 := (by rw [← hw7]; exact (e_up_ne _ _ (Or.inr (by omega))).trans rfl)
        have n26_6 : w7 1 6 = w2 1 7 := (by rw [← hw7]; exact e_up_eq _ _ _ _)
        have n26_7 : w7 1 7 = w2 1 7 := (by rw [← hw7]; exact (e_up_ne _ _ (Or.inr (by omega))).trans rfl)
        have n26_8 : w7 1 8 = w2 1 8 := (by rw [← hw7]; exact (e_up_ne _ _ (Or.inr (by omega))).trans rfl)
        have n26_b : w7 5 (w7 1 7) = w 5 (w2 1 7) := by rw [n26_7]; exact (by rw [← hw7]; exact (e_up_ne _ _ (Or.inl (by omega))).trans ((q5f 5 (w2 1 7) (by unfold kRn; omega)).trans rfl))
        refine e_Ok.callV rfl (by omega) rfl rfl rfl rfl (l_127 (by omega) hT9 hH10 (by omega) (by omega) (by rw [n26_b]; omega)) (fun r23 w24 h25 => ?_)
        obtain ⟨rfl, q27f, q27T, q27H, q27x⟩ := h25
        have f28 : e_fr kRa w w24 := e_fr.trans f8 (e_fr.mono q27f (fun c k q => by unfold kRn at q; unfold kRa; omega))
        have q277 := e_Has.get q27H (c := 1) (k := 7) (lo := 0) (hi := 4000) rfl (by decide)
        show e_Ok 20 elay kcode eI (d + 1) 123 (51, [(1, (0, z14)), (0, (1, 1))], [], w24) _
        refine e_Ok.run (t' := (73, [(1, (0, z14)), (0, (1, 1))], [], w24)) 1 rfl ?_
        refine e_Ok.rets rfl rfl ?_
        have y0 : w24 1 0 = w 1 0 := ((q27f 1 0 (by unfold kRn; omega)).trans (by rw [← hw7]; exact (e_up_ne _ _ (Or.inr (by omega))).trans ((q5f 1 0 (by unfold kRn; omega)).trans rfl)))
        have y5 : w24 1 5 = w24 1 5 := rfl
        have y6 : w24 1 6 = w2 1 7 := ((q27f 1 6 (by unfold kRn; omega)).trans (by rw [← hw7]; exact e_up_eq _ _ _ _))
        have y7 : w24 1 7 = w24 1 7 := rfl
        have y8 : w24 1 8 = w24 1 8 := rfl
        exact ⟨rfl, f28, q27T, q27H, (by unfold tkR; omega), by omega, by omega⟩
    · show e_Ok 20 elay kcode eI (d + 1) 123 (44, [(1, (0, z14)), (0, (1, 1))], [(0, 0)], w7) _
      refine e_Ok.if1 rfl (fun h29 => ?_) (fun h29 => ?_)
      · replace h29 : (0 : Int) = 0 := h29
        refine e_Ok.run (t' := (55, [(1, (0, z14)), (0, (1, 1))], [(0, z14)], w7)) 1 rfl ?_
        refine e_Ok.callS rfl (by omega) rfl rfl (c_122 (by omega)) (fun r30 w31 h32 => ?_)
        obtain ⟨z33, rfl, rfl, q34⟩ := h32
        obtain ⟨rfl, q34⟩ | ⟨rfl, q34⟩ := q34
        · show e_Ok 20 elay kcode eI (d + 1) 123 (58, [(1, (0, z14)), (0, (1, 1))], [(0, 1)], w7) _
          refine e_Ok.if1 rfl (fun h35 => ?_) (fun h35 => ?_)
          · replace h35 : (1 : Int) = 0 := h35
            exfalso; omega
          · replace h35 : (1 : Int) ≠ 0 := by have q : ¬ ((1 : Int) = 0) := h35; omega
            refine e_Ok.run (t' := (62, [(1, (0, z14)), (0, (1, 1))], [(1, 1)], w7)) 1 rfl ?_
            have n40_0 : w7 1 0 = w 1 0 := (by rw [← hw7]; exact (e_up_ne _ _ (Or.inr (by omega))).trans ((q5f 1 0 (by unfold kRn; omega)).trans rfl))
            have n40_5 : w7 1 5 = w2 1 5 := (by rw [← hw7]; exact (e_up_ne _ _ (Or.inr (by omega))).trans rfl)
            have n40_6 : w7 1 6 = w2 1 7 := (by rw [← hw7]; exact e_up_eq _ _ _ _)
            have n40_7 : w7 1 7 = w2 1 7 := (by rw [← hw7]; exact (e_up_ne _ _ (Or.inr (by omega))).trans rfl)
            have n40_8 : w7 1 8 = w2 1 8 := (by rw [← hw7]; exact (e_up_ne _ _ (Or.inr (by omega))).trans rfl)
            have n40_b : w7 5 (w7 1 7) = w 5 (w2 1 7) := by rw [n40_7]; exact (by rw [← hw7]; exact (e_up_ne _ _ (Or.inl (by omega))).trans ((q5f 5 (w2 1 7) (by unfold kRn; omega)).trans rfl))
            refine e_Ok.callV rfl (by omega) rfl rfl rfl rfl (l_125 (by omega) hT9 hH10 (by omega) (by omega) (by rw [n40_b]; omega)) (fun r36 w37 h38 => ?_)
            obtain ⟨rfl, q41f, q41T, q41H, q41x⟩ := h38
            have f42 : e_fr kRa w w37 := e_fr.trans f8 (e_fr.mono q41f (fun c k q => by unfold kRn at q; unfold kRa; omega))
            have q417 := e_Has.get q41H (c := 1) (k := 7) (lo := 0) (hi := 4000) rfl (by decide)
            show e_Ok 20 elay kcode eI (d + 1) 123 (65, [(1, (0, z14)), (0, (1, 1))], [], w37) _
            refine e_Ok.run (t' := (73, [(1, (0, z14)), (0, (1, 1))], [], w37)) 1 rfl ?_
            refine e_Ok.rets rfl rfl ?_
            have y0 : w37 1 0 = w 1 0 := ((q41f 1 0 (by unfold kRn; omega)).trans (by rw [← hw7]; exact (e_up_ne _ _ (Or.inr (by omega))).trans ((q5f 1 0 (by unfold kRn; omega)).trans rfl)))
            have y5 : w37 1 5 = w37 1 5 := rfl
            have y6 : w37 1 6 = w2 1 7 := ((q41f 1 6 (by unfold kRn; omega)).trans (by rw [← hw7]; exact e_up_eq _ _ _ _))
            have y7 : w37 1 7 = w37 1 7 := rfl
            have y8 : w37 1 8 = w37 1 8 := rfl
            exact ⟨rfl, f42, q41T, q41H, (by unfold tkR; omega), by omega, by omega⟩
        · show e_Ok 20 elay kcode eI (d + 1) 123 (58, [(1, (0, z14)), (0, (1, 1))], [(0, 0)], w7) _
          refine e_Ok.if1 rfl (fun h43 => ?_) (fun h43 => ?_)
          · replace h43 : (0 : Int) = 0 := h43
            refine e_Ok.run (t' := (70, [(1, (0, z14)), (0, (1, 1))], [(0, z14), (1, 1)], w7)) 2 rfl ?_
            have n47_0 : w7 1 0 = w 1 0 := (by rw [← hw7]; exact (e_up_ne _ _ (Or.inr (by omega))).trans ((q5f 1 0 (by unfold kRn; omega)).trans rfl))
            have n47_5 : w7 1 5 = w2 1 5 := (by rw [← hw7]; exact (e_up_ne _ _ (Or.inr (by omega))).trans rfl)
            have n47_6 : w7 1 6 = w2 1 7 := (by rw [← hw7]; exact e_up_eq _ _ _ _)
            have n47_7 : w7 1 7 = w2 1 7 := (by rw [← hw7]; exact (e_up_ne _ _ (Or.inr (by omega))).trans rfl)
            have n47_8 : w7 1 8 = w2 1 8 := (by rw [← hw7]; exact (e_up_ne _ _ (Or.inr (by omega))).trans rfl)
            refine e_Ok.callV rfl (by omega) rfl rfl rfl rfl (l_128 (by omega) hT9 hH10 (by omega) (by omega) (by omega)) (fun r44 w45 h46 => ?_)
            obtain ⟨rfl, q48f, q48T, q48H, q48x⟩ := h46
            have f49 : e_fr kRa w w45 := e_fr.trans f8 (e_fr.mono q48f (fun c k q => by unfold kRn at q; unfold kRa; omega))
            have q487 := e_Has.get q48H (c := 1) (k := 7) (lo := 0) (hi := 4000) rfl (by decide)
            show e_Ok 20 elay kcode eI (d + 1) 123 (73, [(1, (0, z14)), (0, (1, 1))], [], w45) _
            refine e_Ok.rets rfl rfl ?_
            have y0 : w45 1 0 = w 1 0 := ((q48f 1 0 (by unfold kRn; omega)).trans (by rw [← hw7]; exact (e_up_ne _ _ (Or.inr (by omega))).trans ((q5f 1 0 (by unfold kRn; omega)).trans rfl)))
            have y5 : w45 1 5 = w45 1 5 := rfl
            have y6 : w45 1 6 = w2 1 7 := ((q48f 1 6 (by unfold kRn; omega)).trans (by rw [← hw7]; exact e_up_eq _ _ _ _))
            have y7 : w45 1 7 = w45 1 7 := rfl
            have y8 : w45 1 8 = w45 1 8 := rfl
            exact ⟨rfl, f49, q48T, q48H, (by unfold tkR; omega), by omega, by omega⟩
          · replace h43 : (0 : Int) ≠ 0 := by have q : ¬ ((0 : Int) = 0) := h43; omega
            exfalso; omega
      · replace h29 : (0 : Int) ≠ 0 := by have q : ¬ ((0 : Int) = 0) := h29; omega
        exfalso; omega
  · replace h16 : (w2 1 7 : Int) ≥ w 1 0 := by have q : ¬ ((w2 1 7 : Int) < w 1 0) := h16; omega
    refine e_Ok.run (t' := (34, [(1, (0, z14)), (0, (1, 1))], [(0, 0), (1, 1)], w7)) 2 rfl ?_
    refine e_Ok.putf rfl rfl rfl rfl ?_
    generalize hw50 : e_up w7 1 5 0 = w50
    have f51 : e_fr kRa w w50 := e_fr.up f8 hw50 (by unfold kRa; omega)
    have hT52 : e_Has kLt w50 := e_Has.ups hT9 hw50 rfl
    have hH53 : e_Has kLr w50 := e_Has.upr hH10 hw50 rfl (by omega)
    refine e_Ok.run (t' := (73, [(1, (0, z14)), (0, (1, 1))], [], w50)) 1 rfl ?_
    refine e_Ok.rets rfl rfl ?_
    have y0 : w50 1 0 = w 1 0 := (by rw [← hw50]; exact (e_up_ne _ _ (Or.inr (by omega))).trans (by rw [← hw7]; exact (e_up_ne _ _ (Or.inr (by omega))).trans ((q5f 1 0 (by unfold kRn; omega)).trans rfl)))
    have y5 : w50 1 5 = 0 := (by rw [← hw50]; exact e_up_eq _ _ _ _)
    have y6 : w50 1 6 = w2 1 7 := (by rw [← hw50]; exact (e_up_ne _ _ (Or.inr (by omega))).trans (by rw [← hw7]; exact e_up_eq _ _ _ _))
    have y7 : w50 1 7 = w2 1 7 := (by rw [← hw50]; exact (e_up_ne _ _ (Or.inr (by omega))).trans (by rw [← hw7]; exact (e_up_ne _ _ (Or.inr (by omega))).trans rfl))
    have y8 : w50 1 8 = w2 1 8 := (by rw [← hw50]; exact (e_up_ne _ _ (Or.inr (by omega))).trans (by rw [← hw7]; exact (e_up_ne _ _ (Or.inr (by omega))).trans rfl))
    exact ⟨rfl, f51, hT52, hH53, (by unfold tkR; omega), by omega, by omega⟩
theorem l_124_x {d : Nat} (hd : 21 ≤ d) {w : eW} (hT : e_Has kLt w) (hH : e_Has kLr w) (hn : w 1 7 ≤ w 1 0) : e_Ok 20 elay kcode eI d 124 (0, [(0, (1, 1))], [], w) (fun r w' => r = [] ∧ w' 1 7 = skF (w 5) (w 1 0) (w 1 7) 0) := by
  obtain ⟨d, rfl⟩ : ∃ e, d = e + 1 := ⟨d - 1, by omega⟩
  have p0 := e_Has.get hH (c := 1) (k := 0) (lo := 0) (hi := 4000) rfl (by decide)
  have p6 := e_Has.get hH (c := 1) (k := 6) (lo := 0) (hi := 4000) rfl (by decide)
  have p7 := e_Has.get hH (c := 1) (k := 7) (lo := 0) (hi := 4000) rfl (by decide)
  refine e_Ok.run (t' := (2, [(1, (0, 0)), (0, (1, 1))], [], w)) 2 rfl ?_
  have hL1 : ∀ (nn : Nat) (y1 : Int) (v1 : eW), e_fr kRn w v1 ∧ e_Has kLt v1 ∧ e_Has kLr v1 ∧ ((w 1 7 ≤ v1 1 7 ∧ v1 1 7 ≤ w 1 0)) ∧ ((0 ≤ y1 ∧ y1 ≤ 1)) ∧ skF (w 5) (w 1 0) (v1 1 7) y1 = skF (w 5) (w 1 0) (w 1 7) 0 → 4001 - v1 1 7 < nn → e_Ok 20 elay kcode eI (d + 1) 124 (2, [(0, (1, 1)), (1, (0, y1))], [], v1) (fun r w' => r = [] ∧ w' 1 7 = skF (w 5) (w 1 0) (w 1 7) 0) := by
    intro nn
    induction nn with
    | zero => intro y1 v1 hj hm; obtain ⟨j3, j4, j5, j6, j7, j8⟩ := hj; exfalso; omega
    | succ nn ih2 =>
      intro y1 v1 hj hm
      obtain ⟨j3, j4, j5, j6, j7, j8⟩ := hj
      have u7 := e_Has.get j5 (c := 1) (k := 7) (lo := 0) (hi := 4000) rfl (by decide)
      refine e_Ok.run (t' := (3, [(0, (1, 1)), (1, (0, y1))], [(1, 1)], v1)) 1 rfl ?_
      refine e_Ok.getf (z := v1 1 7) rfl rfl rfl rfl rfl (by omega) ?_
      refine e_Ok.run (t' := (7, [(0, (1, 1)), (1, (0, y1))], [(1, 1), (0, v1 1 7)], v1)) 1 rfl ?_
      have h9 := (e_Has.get hH (c := 1) (k := 0) (lo := 0) (hi := 4000) rfl (by decide))
      refine e_Ok.getf (z := w 1 0) rfl rfl rfl rfl ((j3 1 0 (by unfold kRn; omega)).trans rfl) (by omega) ?_
      refine e_Ok.if2 rfl (fun h10 => ?_) (fun h10 => ?_)
      · replace h10 : (v1 1 7 : Int) ≥ w 1 0 := h10
        refine e_Ok.rets rfl rfl ?_
        have y5 : v1 1 5 = v1 1 5 := rfl
        have y6 : v1 1 6 = w 1 6 := ((j3 1 6 (by unfold kRn; omega)).trans rfl)
        have y7 : v1 1 7 = v1 1 7 := rfl
        have y8 : v1 1 8 = v1 1 8 := rfl
        exact ⟨rfl, (by rw [y7]; first | exact ((skF_end (by omega)).symm.trans j8) | (have hy : y1 = 0 := (by omega); have g := j8; have e := skF_st (T := w 5) (N := w 1 0) (i := v1 1 7) (by omega) (by omega) (by omega); rw [hy, e] at g; exact g))⟩
      · replace h10 : (v1 1 7 : Int) < w 1 0 := by have q : ¬ ((v1 1 7 : Int) ≥ w 1 0) := h10; omega
        refine e_Ok.run (t' := (15, [(0, (1, 1)), (1, (0, y1))], [(1, 1), (1, 1)], v1)) 2 rfl ?_
        refine e_Ok.getf (z := v1 1 7) rfl rfl rfl rfl rfl (by omega) ?_
        refine e_Ok.callV rfl (by omega) rfl rfl rfl rfl (l_120 j4 j5 (by omega)) (fun r11 w12 h13 => ?_)
        obtain ⟨z14, rfl, rfl, q15r, q15x⟩ := h13
        replace q15x : (0 ≤ (v1 1 7) ∧ (v1 1 7) < (w 1 0) ∧ z14 = (w 5 (v1 1 7)) % 256) ∨ (((v1 1 7) < 0 ∨ (w 1 0) ≤ (v1 1 7)) ∧ z14 = 0) := by rw [show v1 1 0 = w 1 0 from ((j3 1 0 (by unfold kRn; omega)).trans rfl), show v1 5 (v1 1 7) = w 5 (v1 1 7) from ((j3 5 (v1 1 7) (by unfold kRn; omega)).trans rfl)] at q15x; exact q15x
        show e_Ok 20 elay kcode eI (d + 1) 124 (21, [(0, (1, 1)), (1, (0, y1))], [(0, z14)], v1) _
        refine e_Ok.run (t' := (25, [(2, (0, z14)), (0, (1, 1)), (1, (0, y1))], [(0, 35), (0, z14)], v1)) 3 rfl ?_
        refine e_Ok.if2 rfl (fun h16 => ?_) (fun h16 => ?_)
        · replace h16 : (z14 : Int) ≠ 35 := h16
          refine e_Ok.run (t' := (36, [(2, (0, z14)), (0, (1, 1)), (1, (0, y1))], [(0, 10), (0, z14)], v1)) 2 rfl ?_
          refine e_Ok.if2 rfl (fun h17 => ?_) (fun h17 => ?_)
          · replace h17 : (z14 : Int) ≠ 10 := h17
            refine e_Ok.run (t' := (47, [(2, (0, z14)), (0, (1, 1)), (1, (0, y1))], [(0, 32), (0, z14)], v1)) 2 rfl ?_
            refine e_Ok.if2 rfl (fun h18 => ?_) (fun h18 => ?_)
            · replace h18 : (z14 : Int) ≤ 32 := h18
              refine e_Ok.run (t' := (57, [(2, (0, z14)), (0, (1, 1)), (1, (0, y1))], [(1, 1), (1, 1)], v1)) 2 rfl ?_
              refine e_Ok.getf (z := v1 1 7) rfl rfl rfl rfl rfl (by omega) ?_
              refine e_Ok.run (t' := (61, [(2, (0, z14)), (0, (1, 1)), (1, (0, y1))], [(0, 1), (0, v1 1 7), (1, 1)], v1)) 1 rfl ?_
              refine e_Ok.add (z := v1 1 7 + 1) rfl (by omega) (by omega) ?_
              refine e_Ok.putf rfl rfl rfl rfl ?_
              generalize hw19 : e_up v1 1 7 (v1 1 7 + 1) = w19
              have f20 : e_fr kRn w w19 := e_fr.up j3 hw19 (by unfold kRn; omega)
              have hT21 : e_Has kLt w19 := e_Has.ups j4 hw19 rfl
              have hH22 : e_Has kLr w19 := e_Has.upr j5 hw19 rfl (by omega)
              refine e_Ok.run (t' := (2, [(2, (0, z14)), (0, (1, 1)), (1, (0, y1))], [], w19)) 1 rfl ?_
              refine e_Ok.sub kAlk (e_sub_of rfl ?_) (ih2 y1 w19 ⟨f20, hT21, hH22, (by have g7 : w19 1 7 = v1 1 7 + 1 := (by rw [← hw19]; exact e_up_eq _ _ _ _); omega), (by omega), (by have g7 : w19 1 7 = v1 1 7 + 1 := (by rw [← hw19]; exact e_up_eq _ _ _ _); rw [g7]; first | exact (skF_cm (by omega) (by omega)).symm.trans j8 | exact (skF_nl (by omega) (by omega)).symm.trans j8 | exact (skF_bl (by omega) (by omega) (by omega) (by omega)).symm.trans j8)⟩ ((by have g7 : w19 1 7 = v1 1 7 + 1 := (by rw [← hw19]; exact e_up_eq _ _ _ _); omega)))
              exact ⟨rfl, rfl, trivial⟩
            · replace h18 : (z14 : Int) > 32 := by have q : ¬ ((z14 : Int) ≤ 32) := h18; omega
              refine e_Ok.run (t' := (51, [(2, (0, z14)), (0, (1, 1)), (1, (0, y1))], [(0, y1)], v1)) 1 rfl ?_
              refine e_Ok.if1 rfl (fun h23 => ?_) (fun h23 => ?_)
              · replace h23 : (y1 : Int) ≠ 0 := h23
                refine e_Ok.run (t' := (57, [(2, (0, z14)), (0, (1, 1)), (1, (0, y1))], [(1, 1), (1, 1)], v1)) 2 rfl ?_
                refine e_Ok.getf (z := v1 1 7) rfl rfl rfl rfl rfl (by omega) ?_
                refine e_Ok.run (t' := (61, [(2, (0, z14)), (0, (1, 1)), (1, (0, y1))], [(0, 1), (0, v1 1 7), (1, 1)], v1)) 1 rfl ?_
                refine e_Ok.add (z := v1 1 7 + 1) rfl (by omega) (by omega) ?_
                refine e_Ok.putf rfl rfl rfl rfl ?_
                generalize hw24 : e_up v1 1 7 (v1 1 7 + 1) = w24
                have f25 : e_fr kRn w w24 := e_fr.up j3 hw24 (by unfold kRn; omega)
                have hT26 : e_Has kLt w24 := e_Has.ups j4 hw24 rfl
                have hH27 : e_Has kLr w24 := e_Has.upr j5 hw24 rfl (by omega)
                refine e_Ok.run (t' := (2, [(2, (0, z14)), (0, (1, 1)), (1, (0, y1))], [], w24)) 1 rfl ?_
                refine e_Ok.sub kAlk (e_sub_of rfl ?_) (ih2 y1 w24 ⟨f25, hT26, hH27, (by have g7 : w24 1 7 = v1 1 7 + 1 := (by rw [← hw24]; exact e_up_eq _ _ _ _); omega), (by omega), (by have g7 : w24 1 7 = v1 1 7 + 1 := (by rw [← hw24]; exact e_up_eq _ _ _ _); rw [g7]; first | exact (skF_cm (by omega) (by omega)).symm.trans j8 | exact (skF_nl (by omega) (by omega)).symm.trans j8 | exact (skF_bl (by omega) (by omega) (by omega) (by omega)).symm.trans j8)⟩ ((by have g7 : w24 1 7 = v1 1 7 + 1 := (by rw [← hw24]; exact e_up_eq _ _ _ _); omega)))
                exact ⟨rfl, rfl, trivial⟩
              · replace h23 : (y1 : Int) = 0 := by have q : ¬ ((y1 : Int) ≠ 0) := h23; omega
                refine e_Ok.rets rfl rfl ?_
                have y5 : v1 1 5 = v1 1 5 := rfl
                have y6 : v1 1 6 = w 1 6 := ((j3 1 6 (by unfold kRn; omega)).trans rfl)
                have y7 : v1 1 7 = v1 1 7 := rfl
                have y8 : v1 1 8 = v1 1 8 := rfl
                exact ⟨rfl, (by rw [y7]; first | exact ((skF_end (by omega)).symm.trans j8) | (have hy : y1 = 0 := (by omega); have g := j8; have e := skF_st (T := w 5) (N := w 1 0) (i := v1 1 7) (by omega) (by omega) (by omega); rw [hy, e] at g; exact g))⟩
          · replace h17 : (z14 : Int) = 10 := by have q : ¬ ((z14 : Int) ≠ 10) := h17; omega
            refine e_Ok.run (t' := (57, [(1, (0, 0)), (2, (0, z14)), (0, (1, 1))], [(1, 1), (1, 1)], v1)) 5 rfl ?_
            refine e_Ok.getf (z := v1 1 7) rfl rfl rfl rfl rfl (by omega) ?_
            refine e_Ok.run (t' := (61, [(1, (0, 0)), (2, (0, z14)), (0, (1, 1))], [(0, 1), (0, v1 1 7), (1, 1)], v1)) 1 rfl ?_
            refine e_Ok.add (z := v1 1 7 + 1) rfl (by omega) (by omega) ?_
            refine e_Ok.putf rfl rfl rfl rfl ?_
            generalize hw28 : e_up v1 1 7 (v1 1 7 + 1) = w28
            have f29 : e_fr kRn w w28 := e_fr.up j3 hw28 (by unfold kRn; omega)
            have hT30 : e_Has kLt w28 := e_Has.ups j4 hw28 rfl
            have hH31 : e_Has kLr w28 := e_Has.upr j5 hw28 rfl (by omega)
            refine e_Ok.run (t' := (2, [(1, (0, 0)), (2, (0, z14)), (0, (1, 1))], [], w28)) 1 rfl ?_
            refine e_Ok.sub kAlk (e_sub_of rfl ?_) (ih2 0 w28 ⟨f29, hT30, hH31, (by have g7 : w28 1 7 = v1 1 7 + 1 := (by rw [← hw28]; exact e_up_eq _ _ _ _); omega), (by omega), (by have g7 : w28 1 7 = v1 1 7 + 1 := (by rw [← hw28]; exact e_up_eq _ _ _ _); rw [g7]; first | exact (skF_cm (by omega) (by omega)).symm.trans j8 | exact (skF_nl (by omega) (by omega)).symm.trans j8 | exact (skF_bl (by omega) (by omega) (by omega) (by omega)).symm.trans j8)⟩ ((by have g7 : w28 1 7 = v1 1 7 + 1 := (by rw [← hw28]; exact e_up_eq _ _ _ _); omega)))
            exact ⟨rfl, rfl, trivial⟩
        · replace h16 : (z14 : Int) = 35 := by have q : ¬ ((z14 : Int) ≠ 35) := h16; omega
          refine e_Ok.run (t' := (57, [(1, (0, 1)), (2, (0, z14)), (0, (1, 1))], [(1, 1), (1, 1)], v1)) 5 rfl ?_
          refine e_Ok.getf (z := v1 1 7) rfl rfl rfl rfl rfl (by omega) ?_
          refine e_Ok.run (t' := (61, [(1, (0, 1)), (2, (0, z14)), (0, (1, 1))], [(0, 1), (0, v1 1 7), (1, 1)], v1)) 1 rfl ?_
          refine e_Ok.add (z := v1 1 7 + 1) rfl (by omega) (by omega) ?_
          refine e_Ok.putf rfl rfl rfl rfl ?_
          generalize hw32 : e_up v1 1 7 (v1 1 7 + 1) = w32
          have f33 : e_fr kRn w w32 := e_fr.up j3 hw32 (by unfold kRn; omega)
          have hT34 : e_Has kLt w32 := e_Has.ups j4 hw32 rfl
          have hH35 : e_Has kLr w32 := e_Has.upr j5 hw32 rfl (by omega)
          refine e_Ok.run (t' := (2, [(1, (0, 1)), (2, (0, z14)), (0, (1, 1))], [], w32)) 1 rfl ?_
          refine e_Ok.sub kAlk (e_sub_of rfl ?_) (ih2 1 w32 ⟨f33, hT34, hH35, (by have g7 : w32 1 7 = v1 1 7 + 1 := (by rw [← hw32]; exact e_up_eq _ _ _ _); omega), (by omega), (by have g7 : w32 1 7 = v1 1 7 + 1 := (by rw [← hw32]; exact e_up_eq _ _ _ _); rw [g7]; first | exact (skF_cm (by omega) (by omega)).symm.trans j8 | exact (skF_nl (by omega) (by omega)).symm.trans j8 | exact (skF_bl (by omega) (by omega) (by omega) (by omega)).symm.trans j8)⟩ ((by have g7 : w32 1 7 = v1 1 7 + 1 := (by rw [← hw32]; exact e_up_eq _ _ _ _); omega)))
          exact ⟨rfl, rfl, trivial⟩
  refine e_Ok.sub kAlk (e_sub_of rfl ?_) (hL1 (4001 + 1 : Int).toNat 0 w ⟨(e_fr.refl w), hT, hH, (by omega), (by omega), rfl⟩ (by omega))
  exact ⟨rfl, rfl, trivial⟩
set_option maxHeartbeats 4000000 in
theorem l_127_x {d : Nat} (hd : 21 ≤ d) {w : eW} (hT : e_Has kLt w) (hH : e_Has kLr w) (hn : w 1 7 < w 1 0) (ha : w 1 6 = w 1 7) (hdg : 48 ≤ w 5 (w 1 7) % 256 ∧ w 5 (w 1 7) % 256 ≤ 57) : e_Ok 20 elay kcode eI d 127 (0, [(0, (1, 1))], [], w) (fun r w' => r = [] ∧ w' 1 7 = (dgF (w 5) (w 1 0) (w 1 7) 0).1 ∧ ((2147483647 < (dgF (w 5) (w 1 0) (w 1 7) 0).2 ∧ w' 1 5 = 3) ∨ ((dgF (w 5) (w 1 0) (w 1 7) 0).2 ≤ 2147483647 ∧ w' 1 5 = 2 ∧ w' 1 8 = (dgF (w 5) (w 1 0) (w 1 7) 0).2))) := by
  obtain ⟨d, rfl⟩ : ∃ e, d = e + 1 := ⟨d - 1, by omega⟩
  have p0 := e_Has.get hH (c := 1) (k := 0) (lo := 0) (hi := 4000) rfl (by decide)
  have p6 := e_Has.get hH (c := 1) (k := 6) (lo := 0) (hi := 4000) rfl (by decide)
  have p7 := e_Has.get hH (c := 1) (k := 7) (lo := 0) (hi := 4000) rfl (by decide)
  refine e_Ok.run (t' := (2, [(1, (4, 0)), (0, (1, 1))], [], w)) 2 rfl ?_
  have hL1 : ∀ (nn : Nat) (y1 : Int) (v1 : eW) (u : Int), e_fr kRn w v1 ∧ e_Has kLt v1 ∧ e_Has kLr v1 ∧ ((w 1 7 ≤ v1 1 7 ∧ v1 1 7 ≤ w 1 0)) ∧ ((w 1 7 < v1 1 7 ∨ (v1 1 7 = w 1 7 ∧ w 5 (v1 1 7) = w 5 (w 1 7)))) ∧ ((0 ≤ y1 ∧ y1 ≤ 4294967296)) ∧ (v1 1 7 ≤ w 1 7 → y1 = 0) ∧ (v1 1 7 ≤ w 1 7 + 1 → y1 ≤ 9) ∧ ((dgF (w 5) (w 1 0) (v1 1 7) u = dgF (w 5) (w 1 0) (w 1 7) 0 ∧ ((0 ≤ u ∧ u ≤ 2147483647 ∧ y1 = u) ∨ (2147483647 < u ∧ 2147483647 < y1)))) → 4001 - v1 1 7 < nn → e_Ok 20 elay kcode eI (d + 1) 127 (2, [(0, (1, 1)), (1, (4, y1))], [], v1) (fun r w' => r = [] ∧ w' 1 7 = (dgF (w 5) (w 1 0) (w 1 7) 0).1 ∧ ((2147483647 < (dgF (w 5) (w 1 0) (w 1 7) 0).2 ∧ w' 1 5 = 3) ∨ ((dgF (w 5) (w 1 0) (w 1 7) 0).2 ≤ 2147483647 ∧ w' 1 5 = 2 ∧ w' 1 8 = (dgF (w 5) (w 1 0) (w 1 7) 0).2))) := by
    intro nn
    induction nn with
    | zero => intro y1 v1 u hj hm; obtain ⟨j3, j4, j5, j6, j7, j8, j9, j10, j11⟩ := hj; exfalso; omega
    | succ nn ih2 =>
      intro y1 v1 u hj hm
      obtain ⟨j3, j4, j5, j6, j7, j8, j9, j10, j11⟩ := hj
      have u7 := e_Has.get j5 (c := 1) (k := 7) (lo := 0) (hi := 4000) rfl (by decide)
      refine e_Ok.run (t' := (3, [(0, (1, 1)), (1, (4, y1))], [(1, 1)], v1)) 1 rfl ?_
      refine e_Ok.getf (z := v1 1 7) rfl rfl rfl rfl rfl (by omega) ?_
      refine e_Ok.run (t' := (7, [(0, (1, 1)), (1, (4, y1))], [(1, 1), (0, v1 1 7)], v1)) 1 rfl ?_
      have h12 := (e_Has.get hH (c := 1) (k := 0) (lo := 0) (hi := 4000) rfl (by decide))
      refine e_Ok.getf (z := w 1 0) rfl rfl rfl rfl ((j3 1 0 (by unfold kRn; omega)).trans rfl) (by omega) ?_
      refine e_Ok.if2 rfl (fun h13 => ?_) (fun h13 => ?_)
      · replace h13 : (v1 1 7 : Int) ≥ w 1 0 := h13
        refine e_Ok.run (t' := (71, [(0, (1, 1)), (1, (4, y1))], [(4, 2147483647), (4, y1), (1, 1)], v1)) 3 rfl ?_
        refine e_Ok.lcmp rfl (fun z14 z14a z14b z14c => ?_)
        refine e_Ok.if1 rfl (fun h15 => ?_) (fun h15 => ?_)
        · replace h15 : (z14 : Int) ≤ 0 := h15
          refine e_Ok.run (t' := (80, [(0, (1, 1)), (1, (4, y1))], [(0, 2), (1, 1)], v1)) 1 rfl ?_
          refine e_Ok.putf rfl rfl rfl rfl ?_
          generalize hw16 : e_up v1 1 5 2 = w16
          have f17 : e_fr kRn w w16 := e_fr.up j3 hw16 (by unfold kRn; omega)
          have hT18 : e_Has kLt w16 := e_Has.ups j4 hw16 rfl
          have hH19 : e_Has kLr w16 := e_Has.upr j5 hw16 rfl (by omega)
          refine e_Ok.run (t' := (85, [(0, (1, 1)), (1, (4, y1))], [(4, y1), (1, 1)], w16)) 2 rfl ?_
          refine e_Ok.l2iz rfl (fun z20 z20a z20b => ?_)
          replace z20b : -2147483648 ≤ y1 → y1 ≤ 2147483647 → z20 = y1 := z20b
          refine e_Ok.putf rfl rfl rfl rfl ?_
          generalize hw21 : e_up w16 1 8 z20 = w21
          have f22 : e_fr kRn w w21 := e_fr.up f17 hw21 (by unfold kRn; omega)
          have hT23 : e_Has kLt w21 := e_Has.ups hT18 hw21 rfl
          have hH24 : e_Has kLr w21 := e_Has.upr hH19 hw21 rfl (by omega)
          refine e_Ok.rets rfl rfl ?_
          have y5 : w21 1 5 = 2 := (by rw [← hw21]; exact (e_up_ne _ _ (Or.inr (by omega))).trans (by rw [← hw16]; exact e_up_eq _ _ _ _))
          have y6 : w21 1 6 = w 1 6 := (by rw [← hw21]; exact (e_up_ne _ _ (Or.inr (by omega))).trans (by rw [← hw16]; exact (e_up_ne _ _ (Or.inr (by omega))).trans ((j3 1 6 (by unfold kRn; omega)).trans rfl)))
          have y7 : w21 1 7 = v1 1 7 := (by rw [← hw21]; exact (e_up_ne _ _ (Or.inr (by omega))).trans (by rw [← hw16]; exact (e_up_ne _ _ (Or.inr (by omega))).trans rfl))
          have y8 : w21 1 8 = z20 := (by rw [← hw21]; exact e_up_eq _ _ _ _)
          have ge := (dgF_end (T := w 5) (N := w 1 0) (i := v1 1 7) (v := u) (by omega)).symm.trans j11.1
          have hu := j11.2
          exact ⟨rfl, by rw [← ge, y7], by rw [← ge]; show (2147483647 < u ∧ _) ∨ (u ≤ 2147483647 ∧ _ ∧ _); omega⟩
        · replace h15 : (z14 : Int) > 0 := by have q : ¬ ((z14 : Int) ≤ 0) := h15; omega
          refine e_Ok.run (t' := (80, [(0, (1, 1)), (1, (4, y1))], [(0, 3), (1, 1)], v1)) 2 rfl ?_
          refine e_Ok.putf rfl rfl rfl rfl ?_
          generalize hw25 : e_up v1 1 5 3 = w25
          have f26 : e_fr kRn w w25 := e_fr.up j3 hw25 (by unfold kRn; omega)
          have hT27 : e_Has kLt w25 := e_Has.ups j4 hw25 rfl
          have hH28 : e_Has kLr w25 := e_Has.upr j5 hw25 rfl (by omega)
          refine e_Ok.run (t' := (85, [(0, (1, 1)), (1, (4, y1))], [(4, y1), (1, 1)], w25)) 2 rfl ?_
          refine e_Ok.l2iz rfl (fun z29 z29a z29b => ?_)
          replace z29b : -2147483648 ≤ y1 → y1 ≤ 2147483647 → z29 = y1 := z29b
          refine e_Ok.putf rfl rfl rfl rfl ?_
          generalize hw30 : e_up w25 1 8 z29 = w30
          have f31 : e_fr kRn w w30 := e_fr.up f26 hw30 (by unfold kRn; omega)
          have hT32 : e_Has kLt w30 := e_Has.ups hT27 hw30 rfl
          have hH33 : e_Has kLr w30 := e_Has.upr hH28 hw30 rfl (by omega)
          refine e_Ok.rets rfl rfl ?_
          have y5 : w30 1 5 = 3 := (by rw [← hw30]; exact (e_up_ne _ _ (Or.inr (by omega))).trans (by rw [← hw25]; exact e_up_eq _ _ _ _))
          have y6 : w30 1 6 = w 1 6 := (by rw [← hw30]; exact (e_up_ne _ _ (Or.inr (by omega))).trans (by rw [← hw25]; exact (e_up_ne _ _ (Or.inr (by omega))).trans ((j3 1 6 (by unfold kRn; omega)).trans rfl)))
          have y7 : w30 1 7 = v1 1 7 := (by rw [← hw30]; exact (e_up_ne _ _ (Or.inr (by omega))).trans (by rw [← hw25]; exact (e_up_ne _ _ (Or.inr (by omega))).trans rfl))
          have y8 : w30 1 8 = z29 := (by rw [← hw30]; exact e_up_eq _ _ _ _)
          have ge := (dgF_end (T := w 5) (N := w 1 0) (i := v1 1 7) (v := u) (by omega)).symm.trans j11.1
          have hu := j11.2
          exact ⟨rfl, by rw [← ge, y7], by rw [← ge]; show (2147483647 < u ∧ _) ∨ (u ≤ 2147483647 ∧ _ ∧ _); omega⟩
      · replace h13 : (v1 1 7 : Int) < w 1 0 := by have q : ¬ ((v1 1 7 : Int) ≥ w 1 0) := h13; omega
        refine e_Ok.run (t' := (15, [(0, (1, 1)), (1, (4, y1))], [(1, 1), (1, 1)], v1)) 2 rfl ?_
        refine e_Ok.getf (z := v1 1 7) rfl rfl rfl rfl rfl (by omega) ?_
        refine e_Ok.callV rfl (by omega) rfl rfl rfl rfl (l_120 j4 j5 (by omega)) (fun r34 w35 h36 => ?_)
        obtain ⟨z37, rfl, rfl, q38r, q38x⟩ := h36
        replace q38x : (0 ≤ (v1 1 7) ∧ (v1 1 7) < (w 1 0) ∧ z37 = (w 5 (v1 1 7)) % 256) ∨ (((v1 1 7) < 0 ∨ (w 1 0) ≤ (v1 1 7)) ∧ z37 = 0) := by rw [show v1 1 0 = w 1 0 from ((j3 1 0 (by unfold kRn; omega)).trans rfl), show v1 5 (v1 1 7) = w 5 (v1 1 7) from ((j3 5 (v1 1 7) (by unfold kRn; omega)).trans rfl)] at q38x; exact q38x
        show e_Ok 20 elay kcode eI (d + 1) 127 (21, [(0, (1, 1)), (1, (4, y1))], [(0, z37)], v1) _
        refine e_Ok.callS rfl (by omega) rfl rfl (c_121 (by omega)) (fun r40 w41 h42 => ?_)
        obtain ⟨z43, rfl, rfl, q44⟩ := h42
        obtain ⟨rfl, q44⟩ | ⟨rfl, q44⟩ := q44
        · show e_Ok 20 elay kcode eI (d + 1) 127 (24, [(0, (1, 1)), (1, (4, y1))], [(0, 1)], v1) _
          refine e_Ok.if1 rfl (fun h45 => ?_) (fun h45 => ?_)
          · replace h45 : (1 : Int) = 0 := h45
            exfalso; omega
          · replace h45 : (1 : Int) ≠ 0 := by have q : ¬ ((1 : Int) = 0) := h45; omega
            refine e_Ok.run (t' := (31, [(0, (1, 1)), (1, (4, y1))], [(4, 10), (4, y1)], v1)) 2 rfl ?_
            refine e_Ok.mulL (z := 10 * y1) rfl (by omega) (by omega) ?_
            refine e_Ok.run (t' := (34, [(0, (1, 1)), (1, (4, y1))], [(1, 1), (1, 1), (4, 10 * y1)], v1)) 2 rfl ?_
            refine e_Ok.getf (z := v1 1 7) rfl rfl rfl rfl rfl (by omega) ?_
            refine e_Ok.callV rfl (by omega) rfl rfl rfl rfl (l_120 j4 j5 (by omega)) (fun r47 w48 h49 => ?_)
            obtain ⟨z50, rfl, rfl, q51r, q51x⟩ := h49
            replace q51x : (0 ≤ (v1 1 7) ∧ (v1 1 7) < (w 1 0) ∧ z50 = (w 5 (v1 1 7)) % 256) ∨ (((v1 1 7) < 0 ∨ (w 1 0) ≤ (v1 1 7)) ∧ z50 = 0) := by rw [show v1 1 0 = w 1 0 from ((j3 1 0 (by unfold kRn; omega)).trans rfl), show v1 5 (v1 1 7) = w 5 (v1 1 7) from ((j3 5 (v1 1 7) (by unfold kRn; omega)).trans rfl)] at q51x; exact q51x
            show e_Ok 20 elay kcode eI (d + 1) 127 (40, [(0, (1, 1)), (1, (4, y1))], [(0, z50), (4, 10 * y1)], v1) _
            refine e_Ok.run (t' := (41, [(0, (1, 1)), (1, (4, y1))], [(4, z50), (4, 10 * y1)], v1)) 1 rfl ?_
            refine e_Ok.addL (z := 10 * y1 + z50) rfl (by omega) (by omega) ?_
            refine e_Ok.run (t' := (45, [(0, (1, 1)), (1, (4, y1))], [(4, 48), (4, 10 * y1 + z50)], v1)) 1 rfl ?_
            refine e_Ok.subL (z := 10 * y1 + z50 - 48) rfl (by omega) (by omega) ?_
            refine e_Ok.run (t' := (49, [(0, (1, 1)), (1, (4, y1))], [(4, 4294967296), (4, 10 * y1 + z50 - 48)], v1)) 1 rfl ?_
            refine e_Ok.ml rfl rfl (fun x54 hx54 => ?_)
            replace hx54 : ((10 * y1 + z50 - 48) ≤ 4294967296 ∧ x54 = 10 * y1 + z50 - 48) ∨ (4294967296 < 10 * y1 + z50 - 48 ∧ x54 = 4294967296) := hx54
            refine e_Ok.run (t' := (55, [(1, (4, x54)), (0, (1, 1))], [(1, 1), (1, 1)], v1)) 3 rfl ?_
            refine e_Ok.getf (z := v1 1 7) rfl rfl rfl rfl rfl (by omega) ?_
            refine e_Ok.run (t' := (59, [(1, (4, x54)), (0, (1, 1))], [(0, 1), (0, v1 1 7), (1, 1)], v1)) 1 rfl ?_
            refine e_Ok.add (z := v1 1 7 + 1) rfl (by omega) (by omega) ?_
            refine e_Ok.putf rfl rfl rfl rfl ?_
            generalize hw55 : e_up v1 1 7 (v1 1 7 + 1) = w55
            have f56 : e_fr kRn w w55 := e_fr.up j3 hw55 (by unfold kRn; omega)
            have hT57 : e_Has kLt w55 := e_Has.ups j4 hw55 rfl
            have hH58 : e_Has kLr w55 := e_Has.upr j5 hw55 rfl (by omega)
            refine e_Ok.run (t' := (2, [(1, (4, x54)), (0, (1, 1))], [], w55)) 1 rfl ?_
            refine e_Ok.sub kAlk (e_sub_of rfl ?_) (ih2 x54 w55 (if 2147483647 < u then u else 10 * u + (w 5 (v1 1 7) % 256 - 48)) ⟨f56, hT57, hH58, (by have g7 : w55 1 7 = v1 1 7 + 1 := (by rw [← hw55]; exact e_up_eq _ _ _ _); omega), (Or.inl (by have g7 : w55 1 7 = v1 1 7 + 1 := (by rw [← hw55]; exact e_up_eq _ _ _ _); omega)), (by omega), (fun g => by have g7 : w55 1 7 = v1 1 7 + 1 := (by rw [← hw55]; exact e_up_eq _ _ _ _); omega), (fun g => by have g7 : w55 1 7 = v1 1 7 + 1 := (by rw [← hw55]; exact e_up_eq _ _ _ _); omega), (by have g7 : w55 1 7 = v1 1 7 + 1 := (by rw [← hw55]; exact e_up_eq _ _ _ _); rw [g7]; refine ⟨(dgF_go (by omega) (by omega)).symm.trans j11.1, ?_⟩; have hu := j11.2; by_cases g9 : 2147483647 < u; (rw [if_pos g9]; omega); (rw [if_neg g9]; omega))⟩ ((by have g7 : w55 1 7 = v1 1 7 + 1 := (by rw [← hw55]; exact e_up_eq _ _ _ _); omega)))
            exact ⟨rfl, rfl, trivial⟩
        · show e_Ok 20 elay kcode eI (d + 1) 127 (24, [(0, (1, 1)), (1, (4, y1))], [(0, 0)], v1) _
          refine e_Ok.if1 rfl (fun h59 => ?_) (fun h59 => ?_)
          · replace h59 : (0 : Int) = 0 := h59
            refine e_Ok.run (t' := (71, [(0, (1, 1)), (1, (4, y1))], [(4, 2147483647), (4, y1), (1, 1)], v1)) 3 rfl ?_
            refine e_Ok.lcmp rfl (fun z60 z60a z60b z60c => ?_)
            refine e_Ok.if1 rfl (fun h61 => ?_) (fun h61 => ?_)
            · replace h61 : (z60 : Int) ≤ 0 := h61
              refine e_Ok.run (t' := (80, [(0, (1, 1)), (1, (4, y1))], [(0, 2), (1, 1)], v1)) 1 rfl ?_
              refine e_Ok.putf rfl rfl rfl rfl ?_
              generalize hw62 : e_up v1 1 5 2 = w62
              have f63 : e_fr kRn w w62 := e_fr.up j3 hw62 (by unfold kRn; omega)
              have hT64 : e_Has kLt w62 := e_Has.ups j4 hw62 rfl
              have hH65 : e_Has kLr w62 := e_Has.upr j5 hw62 rfl (by omega)
              refine e_Ok.run (t' := (85, [(0, (1, 1)), (1, (4, y1))], [(4, y1), (1, 1)], w62)) 2 rfl ?_
              refine e_Ok.l2iz rfl (fun z66 z66a z66b => ?_)
              replace z66b : -2147483648 ≤ y1 → y1 ≤ 2147483647 → z66 = y1 := z66b
              refine e_Ok.putf rfl rfl rfl rfl ?_
              generalize hw67 : e_up w62 1 8 z66 = w67
              have f68 : e_fr kRn w w67 := e_fr.up f63 hw67 (by unfold kRn; omega)
              have hT69 : e_Has kLt w67 := e_Has.ups hT64 hw67 rfl
              have hH70 : e_Has kLr w67 := e_Has.upr hH65 hw67 rfl (by omega)
              refine e_Ok.rets rfl rfl ?_
              have y5 : w67 1 5 = 2 := (by rw [← hw67]; exact (e_up_ne _ _ (Or.inr (by omega))).trans (by rw [← hw62]; exact e_up_eq _ _ _ _))
              have y6 : w67 1 6 = w 1 6 := (by rw [← hw67]; exact (e_up_ne _ _ (Or.inr (by omega))).trans (by rw [← hw62]; exact (e_up_ne _ _ (Or.inr (by omega))).trans ((j3 1 6 (by unfold kRn; omega)).trans rfl)))
              have y7 : w67 1 7 = v1 1 7 := (by rw [← hw67]; exact (e_up_ne _ _ (Or.inr (by omega))).trans (by rw [← hw62]; exact (e_up_ne _ _ (Or.inr (by omega))).trans rfl))
              have y8 : w67 1 8 = z66 := (by rw [← hw67]; exact e_up_eq _ _ _ _)
              have ge := (dgF_end (T := w 5) (N := w 1 0) (i := v1 1 7) (v := u) (by omega)).symm.trans j11.1
              have hu := j11.2
              exact ⟨rfl, by rw [← ge, y7], by rw [← ge]; show (2147483647 < u ∧ _) ∨ (u ≤ 2147483647 ∧ _ ∧ _); omega⟩
            · replace h61 : (z60 : Int) > 0 := by have q : ¬ ((z60 : Int) ≤ 0) := h61; omega
              refine e_Ok.run (t' := (80, [(0, (1, 1)), (1, (4, y1))], [(0, 3), (1, 1)], v1)) 2 rfl ?_
              refine e_Ok.putf rfl rfl rfl rfl ?_
              generalize hw71 : e_up v1 1 5 3 = w71
              have f72 : e_fr kRn w w71 := e_fr.up j3 hw71 (by unfold kRn; omega)
              have hT73 : e_Has kLt w71 := e_Has.ups j4 hw71 rfl
              have hH74 : e_Has kLr w71 := e_Has.upr j5 hw71 rfl (by omega)
              refine e_Ok.run (t' := (85, [(0, (1, 1)), (1, (4, y1))], [(4, y1), (1, 1)], w71)) 2 rfl ?_
              refine e_Ok.l2iz rfl (fun z75 z75a z75b => ?_)
              replace z75b : -2147483648 ≤ y1 → y1 ≤ 2147483647 → z75 = y1 := z75b
              refine e_Ok.putf rfl rfl rfl rfl ?_
              generalize hw76 : e_up w71 1 8 z75 = w76
              have f77 : e_fr kRn w w76 := e_fr.up f72 hw76 (by unfold kRn; omega)
              have hT78 : e_Has kLt w76 := e_Has.ups hT73 hw76 rfl
              have hH79 : e_Has kLr w76 := e_Has.upr hH74 hw76 rfl (by omega)
              refine e_Ok.rets rfl rfl ?_
              have y5 : w76 1 5 = 3 := (by rw [← hw76]; exact (e_up_ne _ _ (Or.inr (by omega))).trans (by rw [← hw71]; exact e_up_eq _ _ _ _))
              have y6 : w76 1 6 = w 1 6 := (by rw [← hw76]; exact (e_up_ne _ _ (Or.inr (by omega))).trans (by rw [← hw71]; exact (e_up_ne _ _ (Or.inr (by omega))).trans ((j3 1 6 (by unfold kRn; omega)).trans rfl)))
              have y7 : w76 1 7 = v1 1 7 := (by rw [← hw76]; exact (e_up_ne _ _ (Or.inr (by omega))).trans (by rw [← hw71]; exact (e_up_ne _ _ (Or.inr (by omega))).trans rfl))
              have y8 : w76 1 8 = z75 := (by rw [← hw76]; exact e_up_eq _ _ _ _)
              have ge := (dgF_end (T := w 5) (N := w 1 0) (i := v1 1 7) (v := u) (by omega)).symm.trans j11.1
              have hu := j11.2
              exact ⟨rfl, by rw [← ge, y7], by rw [← ge]; show (2147483647 < u ∧ _) ∨ (u ≤ 2147483647 ∧ _ ∧ _); omega⟩
          · replace h59 : (0 : Int) ≠ 0 := by have q : ¬ ((0 : Int) = 0) := h59; omega
            exfalso; omega
  refine e_Ok.sub kAlk (e_sub_of rfl ?_) (hL1 (4001 + 1 : Int).toNat 0 w 0 ⟨(e_fr.refl w), hT, hH, (by omega), (Or.inr ⟨rfl, rfl⟩), (by omega), (fun _ => rfl), (by omega), ⟨rfl, Or.inl ⟨by decide, by decide, rfl⟩⟩⟩ (by omega))
  exact ⟨rfl, rfl, trivial⟩
set_option maxHeartbeats 4000000 in
end
