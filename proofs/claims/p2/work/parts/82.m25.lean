noncomputable section
theorem wyP.from {w : eW} {a i i' : Int} {P : Int → Int → Int} (h : wyP w a i P) (hi : i ≤ i') : wyP w a i' P := ⟨fun m g1 g2 => h.1 m (by omega) g2, fun m j g1 g2 g3 g4 => h.2.1 m j (by omega) g2 g3 g4, fun m j g1 g2 g3 g4 => h.2.2 m j (by omega) g2 g3 g4⟩
theorem joOk.halt {st v s goal lo hi g : Int} (h : joOk st v s goal lo hi g) (hs : s = 0) : joOk 0 v s goal lo hi g := ⟨h.1, fun _ => hs, fun e => by omega, fun e => by omega⟩
def mNw (a c k : Int) : Prop := c = 276 ∧ (k = 36 * a + 16 ∨ (36 * a + 22 ≤ k ∧ k ≤ 36 * a + 25) ∨ k = 36 * a + 27 ∨ (36 * a + 44 ≤ k ∧ k ≤ 36 * a + 49))
def mVS (a c k : Int) : Prop := c = 276 ∧ 36 * a + 32 ≤ k ∧ k ≤ 36 * a + 43
def mG1 (a c k : Int) : Prop := c = 280 ∨ (c = 276 ∧ (k = 5 ∨ 25060 ≤ k ∨ k = 36 * a + 16 ∨ k = 36 * a + 24 ∨ k = 36 * a + 25 ∨ (36 * a + 32 ≤ k ∧ k ≤ 36 * a + 43) ∨ (16 ≤ k ∧ k < 160 ∧ ((k - 16) % 36 = 4 ∨ (k - 16) % 36 = 5))))
theorem moK_nw {a c k : Int} (ha : 0 ≤ a ∧ a ≤ 3) (q : moK c k) (q2 : ¬ (c = 276 ∧ ((36 * a + 44 ≤ k ∧ k ≤ 36 * a + 49) ∨ k = 36 * a + 23))) : ¬ mNw a c k := by unfold moK at q; unfold mNw; omega
theorem moK_g1 {a c k : Int} (ha : 0 ≤ a ∧ a ≤ 3) (q : moK c k) (q2 : ¬ (c = 276 ∧ ((36 * a + 32 ≤ k ∧ k ≤ 36 * a + 43) ∨ (k < 160 ∧ (k - 16) % 36 = 4)))) : ¬ mG1 a c k := by unfold moK at q; unfold mG1; omega
def mGn (a c k : Int) : Prop := mG1 a c k ∨ mNw a c k
theorem c_386_b {d : Nat} {w : eW} {f s v g : Int} (hf : 0 ≤ f ∧ f ≤ 200000) (hg : 1 ≤ g ∧ g ≤ 2000) (hs : -2000 ≤ s ∧ s ≤ 2000) (hv : 1 ≤ v ∧ v ≤ 2000) : e_Ok 20 elay ecode eI d 386 (0, [(0, (0, f)), (1, (0, s)), (2, (0, v)), (3, (0, g))], [], w) (fun r w' => ∃ z : Int, r = [(0, z)] ∧ w = w' ∧ -2000 ≤ z ∧ z ≤ 2000) := by
  refine e_Ok.run (t' := (2, [(0, (0, f)), (1, (0, s)), (2, (0, v)), (3, (0, g))], [(0, g), (0, s)], w)) 2 rfl ?_
  refine e_Ok.add (z := s + g) rfl (by omega) (by omega) ?_
  refine e_Ok.run (t' := (4, [(0, (0, f)), (1, (0, s)), (2, (0, v)), (3, (0, g))], [(0, v), (0, s + g)], w)) 1 rfl ?_
  refine e_Ok.if2 rfl (fun h1 => ?_) (fun h1 => ?_)
  · replace h1 : (s + g : Int) ≥ v := h1
    refine e_Ok.run (t' := (18, [(4, (0, v)), (0, (0, f)), (1, (0, s)), (2, (0, v)), (3, (0, g))], [(0, v)], w)) 3 rfl ?_
    refine e_Ok.if1 rfl (fun h2 => ?_) (fun h2 => ?_)
    · replace h2 : (v : Int) > 0 := h2
      refine e_Ok.run (t' := (27, [(5, (0, 0)), (4, (0, v)), (0, (0, f)), (1, (0, s)), (2, (0, v)), (3, (0, g))], [], w)) 2 rfl ?_
      have hL3 : ∀ (nn : Nat) (y4 : Int) (y5 : Int), 0 ≤ y5 ∧ y5 ≤ y4 ∧ y4 ≤ 2000 → y4 - y5 < nn → e_Ok 20 elay ecode eI d 386 (27, [(0, (0, f)), (3, (0, g)), (4, (0, y4)), (5, (0, y5))], [], w) (fun r w' => ∃ z : Int, r = [(0, z)] ∧ w = w' ∧ -2000 ≤ z ∧ z ≤ 2000) := by
        intro nn
        induction nn with
        | zero => intro y4 y5 hj hm; obtain j5 := hj; exfalso; omega
        | succ nn ih4 =>
          intro y4 y5 hj hm
          obtain j5 := hj
          refine e_Ok.run (t' := (31, [(0, (0, f)), (3, (0, g)), (4, (0, y4)), (5, (0, y5))], [(0, y4), (0, y5)], w)) 2 rfl ?_
          refine e_Ok.if2 rfl (fun h6 => ?_) (fun h6 => ?_)
          · replace h6 : (y5 : Int) ≥ y4 := h6
            refine e_Ok.run (t' := (101, [(0, (0, f)), (3, (0, g)), (4, (0, y4)), (5, (0, y5))], [(0, y5)], w)) 1 rfl ?_
            refine e_Ok.rets rfl rfl ?_
            exact ⟨_, rfl, rfl, by omega, by omega⟩
          · replace h6 : (y5 : Int) < y4 := by have q : ¬ ((y5 : Int) ≥ y4) := h6; omega
            refine e_Ok.run (t' := (38, [(0, (0, f)), (3, (0, g)), (4, (0, y4)), (5, (0, y5))], [(0, y4), (0, y5)], w)) 2 rfl ?_
            refine e_Ok.add (z := y5 + y4) rfl (by omega) (by omega) ?_
            refine e_Ok.run (t' := (40, [(0, (0, f)), (3, (0, g)), (4, (0, y4)), (5, (0, y5))], [(0, 1), (0, y5 + y4)], w)) 1 rfl ?_
            refine e_Ok.add (z := y5 + y4 + 1) rfl (by omega) (by omega) ?_
            refine e_Ok.run (t' := (42, [(0, (0, f)), (3, (0, g)), (4, (0, y4)), (5, (0, y5))], [(0, 2), (0, y5 + y4 + 1)], w)) 1 rfl ?_
            refine e_Ok.divn (fun z7 hz7 => ?_) rfl (by omega) (by omega)
            replace hz7 : z7 = (y5 + y4 + 1) / 2 := hz7
            have z7r : 1 ≤ z7 ∧ z7 ≤ 2000 := by omega
            refine e_Ok.run (t' := (48, [(6, (0, z7)), (0, (0, f)), (3, (0, g)), (4, (0, y4)), (5, (0, y5))], [(0, g), (0, z7)], w)) 3 rfl ?_
            refine e_Ok.add (z := z7 + g) rfl (by omega) (by omega) ?_
            refine e_Ok.run (t' := (50, [(6, (0, z7)), (0, (0, f)), (3, (0, g)), (4, (0, y4)), (5, (0, y5))], [(0, 1), (0, z7 + g)], w)) 1 rfl ?_
            refine e_Ok.sub' (z := z7 + g - 1) rfl (by omega) (by omega) ?_
            refine e_Ok.run (t' := (52, [(6, (0, z7)), (0, (0, f)), (3, (0, g)), (4, (0, y4)), (5, (0, y5))], [(0, g), (0, z7 + g - 1)], w)) 1 rfl ?_
            refine e_Ok.divn (fun z8 hz8 => ?_) rfl (by omega) (by omega)
            replace hz8 : z8 = (z7 + g - 1) / g := hz8
            refine e_Ok.run (t' := (54, [(6, (0, z7)), (0, (0, f)), (3, (0, g)), (4, (0, y4)), (5, (0, y5))], [(4, z8)], w)) 1 rfl ?_
            have hb := rW_bd (g := g) (d := z7) (by omega) (by omega) z8 hz8
            refine e_Ok.run (t' := (61, [(7, (4, z8)), (6, (0, z7)), (0, (0, f)), (3, (0, g)), (4, (0, y4)), (5, (0, y5))], [(4, z7), (4, z8)], w)) 4 rfl ?_
            refine e_Ok.mulL (z := z8 * z7) rfl (by omega) (by omega) ?_
            refine e_Ok.run (t' := (69, [(7, (4, z8)), (6, (0, z7)), (0, (0, f)), (3, (0, g)), (4, (0, y4)), (5, (0, y5))], [(4, 1), (4, z8), (4, z8), (4, g), (4, z8 * z7)], w)) 5 rfl ?_
            refine e_Ok.subL (z := z8 - 1) rfl (by omega) (by omega) ?_
            refine e_Ok.mulL (z := z8 * (z8 - 1)) rfl (by omega) (by omega) ?_
            refine e_Ok.run (t' := (74, [(7, (4, z8)), (6, (0, z7)), (0, (0, f)), (3, (0, g)), (4, (0, y4)), (5, (0, y5))], [(4, 2), (4, z8 * (z8 - 1)), (4, g), (4, z8 * z7)], w)) 1 rfl ?_
            refine e_Ok.ldivn (fun x12 hx12 => ?_) rfl (by omega) (by omega)
            replace hx12 : x12 = (z8 * (z8 - 1)) / 2 := hx12
            have hb2 := hb.2.2.2 x12 hx12
            refine e_Ok.mulL (z := g * x12) rfl (by omega) (by omega) ?_
            refine e_Ok.subL (z := z8 * z7 - g * x12) rfl (by omega) (by omega) ?_
            refine e_Ok.run (t' := (79, [(7, (4, z8)), (6, (0, z7)), (0, (0, f)), (3, (0, g)), (4, (0, y4)), (5, (0, y5))], [(4, f), (4, z8 * z7 - g * x12)], w)) 2 rfl ?_
            refine e_Ok.lcmp rfl (fun z15 z15a z15b z15c => ?_)
            refine e_Ok.if1 rfl (fun h16 => ?_) (fun h16 => ?_)
            · replace h16 : (z15 : Int) > 0 := h16
              refine e_Ok.run (t' := (93, [(7, (4, z8)), (6, (0, z7)), (0, (0, f)), (3, (0, g)), (4, (0, y4)), (5, (0, y5))], [(0, 1), (0, z7)], w)) 2 rfl ?_
              refine e_Ok.sub' (z := z7 - 1) rfl (by omega) (by omega) ?_
              refine e_Ok.run (t' := (27, [(4, (0, z7 - 1)), (7, (4, z8)), (6, (0, z7)), (0, (0, f)), (3, (0, g)), (5, (0, y5))], [], w)) 2 rfl ?_
              refine e_Ok.sub eAlk (e_sub_of rfl ?_) (ih4 (z7 - 1) y5 (by omega) (by omega))
              exact ⟨rfl, rfl, rfl, rfl, trivial⟩
            · replace h16 : (z15 : Int) ≤ 0 := by have q : ¬ ((z15 : Int) > 0) := h16; omega
              refine e_Ok.run (t' := (27, [(5, (0, z7)), (7, (4, z8)), (6, (0, z7)), (0, (0, f)), (3, (0, g)), (4, (0, y4))], [], w)) 4 rfl ?_
              refine e_Ok.sub eAlk (e_sub_of rfl ?_) (ih4 y4 z7 (by omega) (by omega))
              exact ⟨rfl, rfl, rfl, rfl, trivial⟩
      refine e_Ok.sub eAlk (e_sub_of rfl ?_) (hL3 (2000 + 1 : Int).toNat v 0 (by omega) (by omega))
      exact ⟨rfl, rfl, rfl, rfl, trivial⟩
    · replace h2 : (v : Int) ≤ 0 := by have q : ¬ ((v : Int) > 0) := h2; omega
      exfalso; omega
  · replace h1 : (s + g : Int) < v := by have q : ¬ ((s + g : Int) ≥ v) := h1; omega
    refine e_Ok.run (t' := (9, [(0, (0, f)), (1, (0, s)), (2, (0, v)), (3, (0, g))], [(0, g), (0, s)], w)) 2 rfl ?_
    refine e_Ok.add (z := s + g) rfl (by omega) (by omega) ?_
    refine e_Ok.run (t' := (18, [(4, (0, s + g)), (0, (0, f)), (1, (0, s)), (2, (0, v)), (3, (0, g))], [(0, s + g)], w)) 3 rfl ?_
    refine e_Ok.if1 rfl (fun h17 => ?_) (fun h17 => ?_)
    · replace h17 : (s + g : Int) > 0 := h17
      refine e_Ok.run (t' := (27, [(5, (0, 0)), (4, (0, s + g)), (0, (0, f)), (1, (0, s)), (2, (0, v)), (3, (0, g))], [], w)) 2 rfl ?_
      have hL18 : ∀ (nn : Nat) (y4 : Int) (y5 : Int), 0 ≤ y5 ∧ y5 ≤ y4 ∧ y4 ≤ 2000 → y4 - y5 < nn → e_Ok 20 elay ecode eI d 386 (27, [(0, (0, f)), (3, (0, g)), (4, (0, y4)), (5, (0, y5))], [], w) (fun r w' => ∃ z : Int, r = [(0, z)] ∧ w = w' ∧ -2000 ≤ z ∧ z ≤ 2000) := by
        intro nn
        induction nn with
        | zero => intro y4 y5 hj hm; obtain j20 := hj; exfalso; omega
        | succ nn ih19 =>
          intro y4 y5 hj hm
          obtain j20 := hj
          refine e_Ok.run (t' := (31, [(0, (0, f)), (3, (0, g)), (4, (0, y4)), (5, (0, y5))], [(0, y4), (0, y5)], w)) 2 rfl ?_
          refine e_Ok.if2 rfl (fun h21 => ?_) (fun h21 => ?_)
          · replace h21 : (y5 : Int) ≥ y4 := h21
            refine e_Ok.run (t' := (101, [(0, (0, f)), (3, (0, g)), (4, (0, y4)), (5, (0, y5))], [(0, y5)], w)) 1 rfl ?_
            refine e_Ok.rets rfl rfl ?_
            exact ⟨_, rfl, rfl, by omega, by omega⟩
          · replace h21 : (y5 : Int) < y4 := by have q : ¬ ((y5 : Int) ≥ y4) := h21; omega
            refine e_Ok.run (t' := (38, [(0, (0, f)), (3, (0, g)), (4, (0, y4)), (5, (0, y5))], [(0, y4), (0, y5)], w)) 2 rfl ?_
            refine e_Ok.add (z := y5 + y4) rfl (by omega) (by omega) ?_
            refine e_Ok.run (t' := (40, [(0, (0, f)), (3, (0, g)), (4, (0, y4)), (5, (0, y5))], [(0, 1), (0, y5 + y4)], w)) 1 rfl ?_
            refine e_Ok.add (z := y5 + y4 + 1) rfl (by omega) (by omega) ?_
            refine e_Ok.run (t' := (42, [(0, (0, f)), (3, (0, g)), (4, (0, y4)), (5, (0, y5))], [(0, 2), (0, y5 + y4 + 1)], w)) 1 rfl ?_
            refine e_Ok.divn (fun z22 hz22 => ?_) rfl (by omega) (by omega)
            replace hz22 : z22 = (y5 + y4 + 1) / 2 := hz22
            have z22r : 1 ≤ z22 ∧ z22 ≤ 2000 := by omega
            refine e_Ok.run (t' := (48, [(6, (0, z22)), (0, (0, f)), (3, (0, g)), (4, (0, y4)), (5, (0, y5))], [(0, g), (0, z22)], w)) 3 rfl ?_
            refine e_Ok.add (z := z22 + g) rfl (by omega) (by omega) ?_
            refine e_Ok.run (t' := (50, [(6, (0, z22)), (0, (0, f)), (3, (0, g)), (4, (0, y4)), (5, (0, y5))], [(0, 1), (0, z22 + g)], w)) 1 rfl ?_
            refine e_Ok.sub' (z := z22 + g - 1) rfl (by omega) (by omega) ?_
            refine e_Ok.run (t' := (52, [(6, (0, z22)), (0, (0, f)), (3, (0, g)), (4, (0, y4)), (5, (0, y5))], [(0, g), (0, z22 + g - 1)], w)) 1 rfl ?_
            refine e_Ok.divn (fun z23 hz23 => ?_) rfl (by omega) (by omega)
            replace hz23 : z23 = (z22 + g - 1) / g := hz23
            refine e_Ok.run (t' := (54, [(6, (0, z22)), (0, (0, f)), (3, (0, g)), (4, (0, y4)), (5, (0, y5))], [(4, z23)], w)) 1 rfl ?_
            have hb := rW_bd (g := g) (d := z22) (by omega) (by omega) z23 hz23
            refine e_Ok.run (t' := (61, [(7, (4, z23)), (6, (0, z22)), (0, (0, f)), (3, (0, g)), (4, (0, y4)), (5, (0, y5))], [(4, z22), (4, z23)], w)) 4 rfl ?_
            refine e_Ok.mulL (z := z23 * z22) rfl (by omega) (by omega) ?_
            refine e_Ok.run (t' := (69, [(7, (4, z23)), (6, (0, z22)), (0, (0, f)), (3, (0, g)), (4, (0, y4)), (5, (0, y5))], [(4, 1), (4, z23), (4, z23), (4, g), (4, z23 * z22)], w)) 5 rfl ?_
            refine e_Ok.subL (z := z23 - 1) rfl (by omega) (by omega) ?_
            refine e_Ok.mulL (z := z23 * (z23 - 1)) rfl (by omega) (by omega) ?_
            refine e_Ok.run (t' := (74, [(7, (4, z23)), (6, (0, z22)), (0, (0, f)), (3, (0, g)), (4, (0, y4)), (5, (0, y5))], [(4, 2), (4, z23 * (z23 - 1)), (4, g), (4, z23 * z22)], w)) 1 rfl ?_
            refine e_Ok.ldivn (fun x27 hx27 => ?_) rfl (by omega) (by omega)
            replace hx27 : x27 = (z23 * (z23 - 1)) / 2 := hx27
            have hb2 := hb.2.2.2 x27 hx27
            refine e_Ok.mulL (z := g * x27) rfl (by omega) (by omega) ?_
            refine e_Ok.subL (z := z23 * z22 - g * x27) rfl (by omega) (by omega) ?_
            refine e_Ok.run (t' := (79, [(7, (4, z23)), (6, (0, z22)), (0, (0, f)), (3, (0, g)), (4, (0, y4)), (5, (0, y5))], [(4, f), (4, z23 * z22 - g * x27)], w)) 2 rfl ?_
            refine e_Ok.lcmp rfl (fun z30 z30a z30b z30c => ?_)
            refine e_Ok.if1 rfl (fun h31 => ?_) (fun h31 => ?_)
            · replace h31 : (z30 : Int) > 0 := h31
              refine e_Ok.run (t' := (93, [(7, (4, z23)), (6, (0, z22)), (0, (0, f)), (3, (0, g)), (4, (0, y4)), (5, (0, y5))], [(0, 1), (0, z22)], w)) 2 rfl ?_
              refine e_Ok.sub' (z := z22 - 1) rfl (by omega) (by omega) ?_
              refine e_Ok.run (t' := (27, [(4, (0, z22 - 1)), (7, (4, z23)), (6, (0, z22)), (0, (0, f)), (3, (0, g)), (5, (0, y5))], [], w)) 2 rfl ?_
              refine e_Ok.sub eAlk (e_sub_of rfl ?_) (ih19 (z22 - 1) y5 (by omega) (by omega))
              exact ⟨rfl, rfl, rfl, rfl, trivial⟩
            · replace h31 : (z30 : Int) ≤ 0 := by have q : ¬ ((z30 : Int) > 0) := h31; omega
              refine e_Ok.run (t' := (27, [(5, (0, z22)), (7, (4, z23)), (6, (0, z22)), (0, (0, f)), (3, (0, g)), (4, (0, y4))], [], w)) 4 rfl ?_
              refine e_Ok.sub eAlk (e_sub_of rfl ?_) (ih19 y4 z22 (by omega) (by omega))
              exact ⟨rfl, rfl, rfl, rfl, trivial⟩
      refine e_Ok.sub eAlk (e_sub_of rfl ?_) (hL18 (2000 + 1 : Int).toNat (s + g) 0 (by omega) (by omega))
      exact ⟨rfl, rfl, rfl, rfl, trivial⟩
    · replace h17 : (s + g : Int) ≤ 0 := by have q : ¬ ((s + g : Int) > 0) := h17; omega
      refine e_Ok.run (t' := (23, [(4, (0, s + g)), (0, (0, f)), (1, (0, s)), (2, (0, v)), (3, (0, g))], [(0, s + g)], w)) 1 rfl ?_
      refine e_Ok.rets rfl rfl ?_
      exact ⟨_, rfl, rfl, by omega, by omega⟩
set_option maxHeartbeats 4000000 in
theorem c_391 {d : Nat} (hd : 22 ≤ d) {w : eW} (hT : e_Has mTy w) (hCf : mCf w) {a : Int} (ha : 0 ≤ a ∧ a ≤ 3) (hMo : mMo w a) (hS : w 276 (36 * a + 16) = 0) (hPw : w 276 1 = 1) : e_Ok 20 elay ecode eI d 391 (0, [(0, (1, 275)), (1, (0, a))], [], w) (fun r w' => r = [] ∧ e_fr (mNw a) w w' ∧ e_Has mTy w' ∧ mMo w' (-1)) := by
  obtain ⟨d, rfl⟩ : ∃ e, d = e + 1 := ⟨d - 1, by omega⟩
  have hja := (e_Has.get hT (c := 286) (k := a) (lo := 0) (hi := 6) rfl (by decide))
  refine e_Ok.run (t' := (1, [(0, (1, 275)), (1, (0, a))], [(0, a)], w)) 1 rfl ?_
  refine e_Ok.callS rfl (by omega) rfl rfl (c_268 (by omega)) (fun r1 w2 h3 => ?_)
  obtain ⟨rfl, rfl⟩ := h3
  show e_Ok 20 elay ecode eI (d + 1) 391 (4, [(0, (1, 275)), (1, (0, a))], [(0, 36 * a + 16)], w) _
  refine e_Ok.run (t' := (6, [(2, (0, 36 * a + 16)), (0, (1, 275)), (1, (0, a))], [(1, 275)], w)) 2 rfl ?_
  refine e_Ok.getr (z := 276) rfl rfl rfl rfl (e_Has.eq hT rfl) (by omega) ?_
  refine e_Ok.run (t' := (12, [(2, (0, 36 * a + 16)), (0, (1, 275)), (1, (0, a))], [(0, 6), (0, 36 * a + 16), (1, 276)], w)) 2 rfl ?_
  refine e_Ok.add (z := 36 * a + 22) rfl (by omega) (by omega) ?_
  have h4 := (e_Has.get hT (c := 276) (k := 36 * a + 22) (lo := 0) (hi := 1) (nR_TRAVELS (a := a) (by omega)) (by decide))
  refine e_Ok.ald (z := w 276 (36 * a + 22)) rfl rfl rfl (by omega) rfl (by omega) ?_
  refine e_Ok.if1 rfl (fun h5 => ?_) (fun h5 => ?_)
  · replace h5 : (w 276 (36 * a + 22) : Int) ≠ 0 := h5
    obtain ⟨-, hle, P, hP1, hP2⟩ := (hMo.2.1 a ha.1 ha.2).2 (by omega)
    have hsz := e_Has.get hT (nR_WAY_SIZE (a := a) ha) (by decide)
    have hta := e_Has.get hT (nR_TRAVEL_AT (a := a) ha) (by decide)
    refine e_Ok.run (t' := (19, [(2, (0, 36 * a + 16)), (0, (1, 275)), (1, (0, a))], [(1, 275)], w)) 1 rfl ?_
    refine e_Ok.getr (z := 276) rfl rfl rfl rfl (e_Has.eq hT rfl) (by omega) ?_
    refine e_Ok.run (t' := (25, [(2, (0, 36 * a + 16)), (0, (1, 275)), (1, (0, a))], [(0, 7), (0, 36 * a + 16), (1, 276)], w)) 2 rfl ?_
    refine e_Ok.add (z := 36 * a + 23) rfl (by omega) (by omega) ?_
    have h6 := (e_Has.get hT (c := 276) (k := 36 * a + 23) (lo := 0) (hi := 1000) (nR_TRAVEL_AT (a := a) (by omega)) (by decide))
    refine e_Ok.ald (z := w 276 (36 * a + 23)) rfl rfl rfl (by omega) rfl (by omega) ?_
    refine e_Ok.run (t' := (30, [(3, (0, w 276 (36 * a + 23))), (2, (0, 36 * a + 16)), (0, (1, 275)), (1, (0, a))], [(1, 275), (0, w 276 (36 * a + 23))], w)) 3 rfl ?_
    refine e_Ok.getr (z := 276) rfl rfl rfl rfl (e_Has.eq hT rfl) (by omega) ?_
    refine e_Ok.run (t' := (35, [(3, (0, w 276 (36 * a + 23))), (2, (0, 36 * a + 16)), (0, (1, 275)), (1, (0, a))], [(0, 3), (0, 36 * a + 16), (1, 276), (0, w 276 (36 * a + 23))], w)) 2 rfl ?_
    refine e_Ok.add (z := 36 * a + 19) rfl (by omega) (by omega) ?_
    have h7 := (e_Has.get hT (c := 276) (k := 36 * a + 19) (lo := (-1)) (hi := 999) (nR_WAY_SIZE (a := a) (by omega)) (by decide))
    refine e_Ok.ald (z := w 276 (36 * a + 19)) rfl rfl rfl (by omega) rfl (by omega) ?_
    refine e_Ok.if2 rfl (fun h8 => ?_) (fun h8 => ?_)
    · replace h8 : (w 276 (36 * a + 23) : Int) ≠ w 276 (36 * a + 19) := h8
      refine e_Ok.run (t' := (54, [(4, (0, 0)), (3, (0, w 276 (36 * a + 23))), (2, (0, 36 * a + 16)), (0, (1, 275)), (1, (0, a))], [], w)) 2 rfl ?_
      have hL9 : ∀ (nn : Nat) (y4 : Int) (v1 : eW), e_fr (mNw a) w v1 ∧ e_Has mTy v1 ∧ (0 ≤ y4 ∧ y4 ≤ 6) ∧ (∀ j, 0 ≤ j → j < y4 → v1 276 (36 * a + j + 44) = w 276 (36 * a + j + 32)) ∧ e_fr (mGo a) w v1 → 7 - y4 < nn → e_Ok 20 elay ecode eI (d + 1) 391 (54, [(0, (1, 275)), (1, (0, a)), (2, (0, 36 * a + 16)), (3, (0, w 276 (36 * a + 23))), (4, (0, y4))], [], v1) (fun r w' => r = [] ∧ e_fr (mNw a) w w' ∧ e_Has mTy w' ∧ mMo w' (-1)) := by
        intro nn
        induction nn with
        | zero => intro y4 v1 hj hm; obtain ⟨j11, j12, j13, j14, j15⟩ := hj; exfalso; omega
        | succ nn ih10 =>
          intro y4 v1 hj hm
          obtain ⟨j11, j12, j13, j14, j15⟩ := hj
          refine e_Ok.run (t' := (57, [(0, (1, 275)), (1, (0, a)), (2, (0, 36 * a + 16)), (3, (0, w 276 (36 * a + 23))), (4, (0, y4))], [(1, 275), (0, y4)], v1)) 2 rfl ?_
          refine e_Ok.getr (z := 286) rfl rfl rfl rfl ((j15 275 15 (by unfold mGo; omega)).trans (e_Has.eq hT rfl)) (by omega) ?_
          refine e_Ok.run (t' := (61, [(0, (1, 275)), (1, (0, a)), (2, (0, 36 * a + 16)), (3, (0, w 276 (36 * a + 23))), (4, (0, y4))], [(0, a), (1, 286), (0, y4)], v1)) 1 rfl ?_
          refine e_Ok.ald (z := w 286 a) rfl rfl rfl (by omega) ((j15 286 a (by unfold mGo; omega)).trans rfl) (by omega) ?_
          refine e_Ok.if2 rfl (fun h16 => ?_) (fun h16 => ?_)
          · replace h16 : (y4 : Int) ≥ w 286 a := h16
            refine e_Ok.run (t' := (96, [(0, (1, 275)), (1, (0, a)), (2, (0, 36 * a + 16)), (3, (0, w 276 (36 * a + 23))), (4, (0, y4))], [(1, 275)], v1)) 1 rfl ?_
            refine e_Ok.getr (z := 276) rfl rfl rfl rfl ((j15 275 0 (by unfold mGo; omega)).trans (e_Has.eq hT rfl)) (by omega) ?_
            refine e_Ok.run (t' := (106, [(0, (1, 275)), (1, (0, a)), (2, (0, 36 * a + 16)), (3, (0, w 276 (36 * a + 23))), (4, (0, y4))], [(0, a), (0, 1000), (0, 21060), (1, 276)], v1)) 3 rfl ?_
            refine e_Ok.mul (z := 1000 * a) rfl (by omega) (by omega) ?_
            refine e_Ok.add (z := 1000 * a + 21060) rfl (by omega) (by omega) ?_
            refine e_Ok.run (t' := (109, [(0, (1, 275)), (1, (0, a)), (2, (0, 36 * a + 16)), (3, (0, w 276 (36 * a + 23))), (4, (0, y4))], [(0, w 276 (36 * a + 23)), (0, 1000 * a + 21060), (1, 276)], v1)) 1 rfl ?_
            refine e_Ok.add (z := 1000 * a + w 276 (36 * a + 23) + 21060) rfl (by omega) (by omega) ?_
            have h17 := (e_Has.get hT (c := 276) (k := 1000 * a + w 276 (36 * a + 23) + 21060) (lo := 0) (hi := 11) (nR_WAY (by omega)) (by decide))
            refine e_Ok.ald (z := w 276 (1000 * a + w 276 (36 * a + 23) + 21060)) rfl rfl rfl (by omega) ((j15 276 (1000 * a + w 276 (36 * a + 23) + 21060) (by unfold mGo; omega)).trans rfl) (by omega) ?_
            refine e_Ok.run (t' := (113, [(4, (0, w 276 (1000 * a + w 276 (36 * a + 23) + 21060))), (0, (1, 275)), (1, (0, a)), (2, (0, 36 * a + 16)), (3, (0, w 276 (36 * a + 23)))], [], v1)) 1 rfl ?_
            have hL18 : ∀ (nn : Nat) (y3 : Int) (v2 : eW), e_fr (mNw a) w v2 ∧ e_Has mTy v2 ∧ (w 276 (36 * a + 23) ≤ y3 ∧ y3 ≤ w 276 (36 * a + 19)) ∧ (∀ j, 0 ≤ j → j < w 286 a → v2 276 (36 * a + j + 44) = P y3 j) ∧ e_fr (mGo a) w v2 → 1000 - y3 < nn → e_Ok 20 elay ecode eI (d + 1) 391 (113, [(0, (1, 275)), (1, (0, a)), (2, (0, 36 * a + 16)), (3, (0, y3)), (4, (0, w 276 (1000 * a + w 276 (36 * a + 23) + 21060)))], [], v2) (fun r w' => r = [] ∧ e_fr (mNw a) w w' ∧ e_Has mTy w' ∧ mMo w' (-1)) := by
              intro nn
              induction nn with
              | zero => intro y3 v2 hj hm; obtain ⟨j20, j21, j22, j23, j24⟩ := hj; exfalso; omega
              | succ nn ih19 =>
                intro y3 v2 hj hm
                obtain ⟨j20, j21, j22, j23, j24⟩ := hj
                refine e_Ok.run (t' := (115, [(0, (1, 275)), (1, (0, a)), (2, (0, 36 * a + 16)), (3, (0, y3)), (4, (0, w 276 (1000 * a + w 276 (36 * a + 23) + 21060)))], [(1, 275), (0, y3)], v2)) 2 rfl ?_
                refine e_Ok.getr (z := 276) rfl rfl rfl rfl ((j24 275 0 (by unfold mGo; omega)).trans (e_Has.eq hT rfl)) (by omega) ?_
                refine e_Ok.run (t' := (120, [(0, (1, 275)), (1, (0, a)), (2, (0, 36 * a + 16)), (3, (0, y3)), (4, (0, w 276 (1000 * a + w 276 (36 * a + 23) + 21060)))], [(0, 3), (0, 36 * a + 16), (1, 276), (0, y3)], v2)) 2 rfl ?_
                refine e_Ok.add (z := 36 * a + 19) rfl (by omega) (by omega) ?_
                refine e_Ok.ald (z := w 276 (36 * a + 19)) rfl rfl rfl (by omega) ((j24 276 (36 * a + 19) (by unfold mGo; omega)).trans rfl) (by omega) ?_
                refine e_Ok.if2 rfl (fun h25 => ?_) (fun h25 => ?_)
                · replace h25 : (y3 : Int) ≥ w 276 (36 * a + 19) := h25
                  refine e_Ok.run (t' := (199, [(0, (1, 275)), (1, (0, a)), (2, (0, 36 * a + 16)), (3, (0, y3)), (4, (0, w 276 (1000 * a + w 276 (36 * a + 23) + 21060)))], [(1, 275)], v2)) 1 rfl ?_
                  refine e_Ok.getr (z := 276) rfl rfl rfl rfl ((j24 275 0 (by unfold mGo; omega)).trans (e_Has.eq hT rfl)) (by omega) ?_
                  refine e_Ok.run (t' := (205, [(0, (1, 275)), (1, (0, a)), (2, (0, 36 * a + 16)), (3, (0, y3)), (4, (0, w 276 (1000 * a + w 276 (36 * a + 23) + 21060)))], [(0, 7), (0, 36 * a + 16), (1, 276)], v2)) 2 rfl ?_
                  refine e_Ok.add (z := 36 * a + 23) rfl (by omega) (by omega) ?_
                  refine e_Ok.run (t' := (207, [(0, (1, 275)), (1, (0, a)), (2, (0, 36 * a + 16)), (3, (0, y3)), (4, (0, w 276 (1000 * a + w 276 (36 * a + 23) + 21060)))], [(0, y3), (0, 36 * a + 23), (1, 276)], v2)) 1 rfl ?_
                  refine e_Ok.ast rfl rfl rfl rfl (by omega) ?_
                  generalize hw26 : e_up v2 276 (36 * a + 23) y3 = w26
                  have f27 : e_fr (mNw a) w w26 := e_fr.up j20 hw26 (by unfold mNw; omega)
                  have hT28 : e_Has mTy w26 := e_Has.upr j21 hw26 (nR_TRAVEL_AT (a := a) (by omega)) (by omega)
                  refine e_Ok.run (t' := (210, [(0, (1, 275)), (1, (0, a)), (2, (0, 36 * a + 16)), (3, (0, y3)), (4, (0, w 276 (1000 * a + w 276 (36 * a + 23) + 21060)))], [(0, a), (1, 275)], w26)) 2 rfl ?_
                  refine e_Ok.callV rfl (by omega) rfl rfl rfl rfl (c_381 (by omega) hT28 (mCf.fr hCf (fun c k q => (by rw [← hw26]; exact (e_up_ne _ _ (Or.inl (by omega))).trans ((j24 c k (by unfold mGo; omega)).trans rfl)))) (by omega)) (fun r29 w30 h31 => ?_)
                  obtain ⟨rfl, q32, q32T, q32s⟩ := h31
                  have f33 : e_fr (mNw a) w w30 := e_fr.trans f27 (e_fr.mono q32 (fun c k q => by unfold mBe at q; unfold mNw; omega))
                  show e_Ok 20 elay ecode eI (d + 1) 391 (213, [(0, (1, 275)), (1, (0, a)), (2, (0, 36 * a + 16)), (3, (0, y3)), (4, (0, w 276 (1000 * a + w 276 (36 * a + 23) + 21060)))], [], w30) _
                  refine e_Ok.rets rfl rfl ?_
                  have e23 : w30 276 (36 * a + 23) = y3 := ((q32 276 (36 * a + 23) (by unfold mBe; omega)).trans (by rw [← hw26]; exact e_up_eq _ _ _ _))
                  have e19 : w30 276 (36 * a + 19) = w 276 (36 * a + 19) := ((q32 276 (36 * a + 19) (by unfold mBe; omega)).trans (by rw [← hw26]; exact (e_up_ne _ _ (Or.inr (by omega))).trans ((j24 276 (36 * a + 19) (by unfold mGo; omega)).trans rfl)))
                  have e26 : w30 276 (36 * a + 26) = w 276 (36 * a + 26) := ((q32 276 (36 * a + 26) (by unfold mBe; omega)).trans (by rw [← hw26]; exact (e_up_ne _ _ (Or.inr (by omega))).trans ((j24 276 (36 * a + 26) (by unfold mGo; omega)).trans rfl)))
                  have e286 : w30 286 a = w 286 a := ((q32 286 a (by unfold mBe; omega)).trans (by rw [← hw26]; exact (e_up_ne _ _ (Or.inl (by omega))).trans ((j24 286 a (by unfold mGo; omega)).trans rfl)))
                  have egl : ∀ j, 0 ≤ j → j < w 286 a → w30 276 (36 * a + j + 44) = P y3 j := fun j g1 g2 => (Eq.trans ((q32 276 (36 * a + j + 44) (by unfold mBe; omega)).trans (by rw [← hw26]; exact (e_up_ne _ _ (Or.inr (by omega))).trans rfl)) (j23 j g1 (by omega)))
                  exact ⟨rfl, f33, q32T, mMo.begin hMo (Or.inr rfl) (e_Has.mo hT) ha hS (by omega) (fun c k q q2 => f33 c k (moK_nw ha q q2)) (fun b g1 g2 g3 => ⟨f33 276 _ (by unfold mNw; omega), f33 276 _ (by unfold mNw; omega)⟩) q32s (fun j g1 g2 => by rw [egl j g1 g2]; exact hP1.2.2 y3 j (by omega) (by omega) g1 g2) (fun _ => by rw [e23, e19, e286]; exact ⟨by omega, P, (hP1.from (by omega)).fr ha (by omega) (by omega) e19 e26 (fun c k q => f33 c k (by unfold mNw; omega)) (fun k q1 q2 => f33 276 k (by unfold mNw; omega)), fun j g1 g2 => (egl j g1 g2).symm⟩)⟩
                · replace h25 : (y3 : Int) < w 276 (36 * a + 19) := by have q : ¬ ((y3 : Int) ≥ w 276 (36 * a + 19)) := h25; omega
                  refine e_Ok.run (t' := (126, [(0, (1, 275)), (1, (0, a)), (2, (0, 36 * a + 16)), (3, (0, y3)), (4, (0, w 276 (1000 * a + w 276 (36 * a + 23) + 21060)))], [(1, 275)], v2)) 1 rfl ?_
                  refine e_Ok.getr (z := 276) rfl rfl rfl rfl ((j24 275 0 (by unfold mGo; omega)).trans (e_Has.eq hT rfl)) (by omega) ?_
                  refine e_Ok.run (t' := (136, [(0, (1, 275)), (1, (0, a)), (2, (0, 36 * a + 16)), (3, (0, y3)), (4, (0, w 276 (1000 * a + w 276 (36 * a + 23) + 21060)))], [(0, a), (0, 1000), (0, 21060), (1, 276)], v2)) 3 rfl ?_
                  refine e_Ok.mul (z := 1000 * a) rfl (by omega) (by omega) ?_
                  refine e_Ok.add (z := 1000 * a + 21060) rfl (by omega) (by omega) ?_
                  refine e_Ok.run (t' := (139, [(0, (1, 275)), (1, (0, a)), (2, (0, 36 * a + 16)), (3, (0, y3)), (4, (0, w 276 (1000 * a + w 276 (36 * a + 23) + 21060)))], [(0, y3), (0, 1000 * a + 21060), (1, 276)], v2)) 1 rfl ?_
                  refine e_Ok.add (z := 1000 * a + y3 + 21060) rfl (by omega) (by omega) ?_
                  have h34 := (e_Has.get hT (c := 276) (k := 1000 * a + y3 + 21060) (lo := 0) (hi := 11) (nR_WAY (by omega)) (by decide))
                  refine e_Ok.ald (z := w 276 (1000 * a + y3 + 21060)) rfl rfl rfl (by omega) ((j24 276 (1000 * a + y3 + 21060) (by unfold mGo; omega)).trans rfl) (by omega) ?_
                  refine e_Ok.run (t' := (143, [(0, (1, 275)), (1, (0, a)), (2, (0, 36 * a + 16)), (3, (0, y3)), (4, (0, w 276 (1000 * a + w 276 (36 * a + 23) + 21060)))], [(0, w 276 (1000 * a + w 276 (36 * a + 23) + 21060)), (0, w 276 (1000 * a + y3 + 21060))], v2)) 1 rfl ?_
                  refine e_Ok.if2 rfl (fun h35 => ?_) (fun h35 => ?_)
                  · replace h35 : (w 276 (1000 * a + y3 + 21060) : Int) ≠ w 276 (1000 * a + w 276 (36 * a + 23) + 21060) := h35
                    refine e_Ok.run (t' := (199, [(0, (1, 275)), (1, (0, a)), (2, (0, 36 * a + 16)), (3, (0, y3)), (4, (0, w 276 (1000 * a + w 276 (36 * a + 23) + 21060)))], [(1, 275)], v2)) 1 rfl ?_
                    refine e_Ok.getr (z := 276) rfl rfl rfl rfl ((j24 275 0 (by unfold mGo; omega)).trans (e_Has.eq hT rfl)) (by omega) ?_
                    refine e_Ok.run (t' := (205, [(0, (1, 275)), (1, (0, a)), (2, (0, 36 * a + 16)), (3, (0, y3)), (4, (0, w 276 (1000 * a + w 276 (36 * a + 23) + 21060)))], [(0, 7), (0, 36 * a + 16), (1, 276)], v2)) 2 rfl ?_
                    refine e_Ok.add (z := 36 * a + 23) rfl (by omega) (by omega) ?_
                    refine e_Ok.run (t' := (207, [(0, (1, 275)), (1, (0, a)), (2, (0, 36 * a + 16)), (3, (0, y3)), (4, (0, w 276 (1000 * a + w 276 (36 * a + 23) + 21060)))], [(0, y3), (0, 36 * a + 23), (1, 276)], v2)) 1 rfl ?_
                    refine e_Ok.ast rfl rfl rfl rfl (by omega) ?_
                    generalize hw36 : e_up v2 276 (36 * a + 23) y3 = w36
                    have f37 : e_fr (mNw a) w w36 := e_fr.up j20 hw36 (by unfold mNw; omega)
                    have hT38 : e_Has mTy w36 := e_Has.upr j21 hw36 (nR_TRAVEL_AT (a := a) (by omega)) (by omega)
                    refine e_Ok.run (t' := (210, [(0, (1, 275)), (1, (0, a)), (2, (0, 36 * a + 16)), (3, (0, y3)), (4, (0, w 276 (1000 * a + w 276 (36 * a + 23) + 21060)))], [(0, a), (1, 275)], w36)) 2 rfl ?_
                    refine e_Ok.callV rfl (by omega) rfl rfl rfl rfl (c_381 (by omega) hT38 (mCf.fr hCf (fun c k q => (by rw [← hw36]; exact (e_up_ne _ _ (Or.inl (by omega))).trans ((j24 c k (by unfold mGo; omega)).trans rfl)))) (by omega)) (fun r39 w40 h41 => ?_)
                    obtain ⟨rfl, q42, q42T, q42s⟩ := h41
                    have f43 : e_fr (mNw a) w w40 := e_fr.trans f37 (e_fr.mono q42 (fun c k q => by unfold mBe at q; unfold mNw; omega))
                    show e_Ok 20 elay ecode eI (d + 1) 391 (213, [(0, (1, 275)), (1, (0, a)), (2, (0, 36 * a + 16)), (3, (0, y3)), (4, (0, w 276 (1000 * a + w 276 (36 * a + 23) + 21060)))], [], w40) _
                    refine e_Ok.rets rfl rfl ?_
                    have e23 : w40 276 (36 * a + 23) = y3 := ((q42 276 (36 * a + 23) (by unfold mBe; omega)).trans (by rw [← hw36]; exact e_up_eq _ _ _ _))
                    have e19 : w40 276 (36 * a + 19) = w 276 (36 * a + 19) := ((q42 276 (36 * a + 19) (by unfold mBe; omega)).trans (by rw [← hw36]; exact (e_up_ne _ _ (Or.inr (by omega))).trans ((j24 276 (36 * a + 19) (by unfold mGo; omega)).trans rfl)))
                    have e26 : w40 276 (36 * a + 26) = w 276 (36 * a + 26) := ((q42 276 (36 * a + 26) (by unfold mBe; omega)).trans (by rw [← hw36]; exact (e_up_ne _ _ (Or.inr (by omega))).trans ((j24 276 (36 * a + 26) (by unfold mGo; omega)).trans rfl)))
                    have e286 : w40 286 a = w 286 a := ((q42 286 a (by unfold mBe; omega)).trans (by rw [← hw36]; exact (e_up_ne _ _ (Or.inl (by omega))).trans ((j24 286 a (by unfold mGo; omega)).trans rfl)))
                    have egl : ∀ j, 0 ≤ j → j < w 286 a → w40 276 (36 * a + j + 44) = P y3 j := fun j g1 g2 => (Eq.trans ((q42 276 (36 * a + j + 44) (by unfold mBe; omega)).trans (by rw [← hw36]; exact (e_up_ne _ _ (Or.inr (by omega))).trans rfl)) (j23 j g1 (by omega)))
                    exact ⟨rfl, f43, q42T, mMo.begin hMo (Or.inr rfl) (e_Has.mo hT) ha hS (by omega) (fun c k q q2 => f43 c k (moK_nw ha q q2)) (fun b g1 g2 g3 => ⟨f43 276 _ (by unfold mNw; omega), f43 276 _ (by unfold mNw; omega)⟩) q42s (fun j g1 g2 => by rw [egl j g1 g2]; exact hP1.2.2 y3 j (by omega) (by omega) g1 g2) (fun _ => by rw [e23, e19, e286]; exact ⟨by omega, P, (hP1.from (by omega)).fr ha (by omega) (by omega) e19 e26 (fun c k q => f43 c k (by unfold mNw; omega)) (fun k q1 q2 => f43 276 k (by unfold mNw; omega)), fun j g1 g2 => (egl j g1 g2).symm⟩)⟩
                  · replace h35 : (w 276 (1000 * a + y3 + 21060) : Int) = w 276 (1000 * a + w 276 (36 * a + 23) + 21060) := by have q : ¬ ((w 276 (1000 * a + y3 + 21060) : Int) ≠ w 276 (1000 * a + w 276 (36 * a + 23) + 21060)) := h35; omega
                    refine e_Ok.run (t' := (147, [(0, (1, 275)), (1, (0, a)), (2, (0, 36 * a + 16)), (3, (0, y3)), (4, (0, w 276 (1000 * a + w 276 (36 * a + 23) + 21060)))], [(1, 275)], v2)) 1 rfl ?_
                    refine e_Ok.getr (z := 276) rfl rfl rfl rfl ((j24 275 0 (by unfold mGo; omega)).trans (e_Has.eq hT rfl)) (by omega) ?_
                    refine e_Ok.run (t' := (153, [(0, (1, 275)), (1, (0, a)), (2, (0, 36 * a + 16)), (3, (0, y3)), (4, (0, w 276 (1000 * a + w 276 (36 * a + 23) + 21060)))], [(0, 28), (0, 36 * a + 16), (1, 276)], v2)) 2 rfl ?_
                    refine e_Ok.add (z := 36 * a + 44) rfl (by omega) (by omega) ?_
                    refine e_Ok.run (t' := (157, [(0, (1, 275)), (1, (0, a)), (2, (0, 36 * a + 16)), (3, (0, y3)), (4, (0, w 276 (1000 * a + w 276 (36 * a + 23) + 21060)))], [(0, 2), (0, w 276 (1000 * a + w 276 (36 * a + 23) + 21060)), (0, 36 * a + 44), (1, 276)], v2)) 2 rfl ?_
                    refine e_Ok.divn (fun z44 hz44 => ?_) rfl (by omega) (by omega)
                    replace hz44 : z44 = (w 276 (1000 * a + w 276 (36 * a + 23) + 21060)) / 2 := hz44
                    have z44r : 0 ≤ z44 ∧ z44 ≤ 5 := by omega
                    refine e_Ok.add (z := 36 * a + z44 + 44) rfl (by omega) (by omega) ?_
                    refine e_Ok.run (t' := (160, [(0, (1, 275)), (1, (0, a)), (2, (0, 36 * a + 16)), (3, (0, y3)), (4, (0, w 276 (1000 * a + w 276 (36 * a + 23) + 21060)))], [(0, 36 * a + z44 + 44), (1, 276), (0, 36 * a + z44 + 44), (1, 276)], v2)) 1 rfl ?_
                    have h45 := (e_Has.get j21 (c := 276) (k := 36 * a + z44 + 44) (lo := (-100000)) (hi := 100000) (nR_GOAL (a := a) (j := z44) (by omega) (by omega)) (by decide))
                    refine e_Ok.ald (z := v2 276 (36 * a + z44 + 44)) rfl rfl rfl (by omega) rfl (by omega) ?_
                    refine e_Ok.run (t' := (164, [(0, (1, 275)), (1, (0, a)), (2, (0, 36 * a + 16)), (3, (0, y3)), (4, (0, w 276 (1000 * a + w 276 (36 * a + 23) + 21060)))], [(0, 2), (0, w 276 (1000 * a + w 276 (36 * a + 23) + 21060)), (0, v2 276 (36 * a + z44 + 44)), (0, 36 * a + z44 + 44), (1, 276)], v2)) 2 rfl ?_
                    refine e_Ok.remn (fun z46 hz46 => ?_) rfl (by omega) (by omega)
                    replace hz46 : z46 = (w 276 (1000 * a + w 276 (36 * a + 23) + 21060)) % 2 := hz46
                    have z46r : 0 ≤ z46 ∧ z46 ≤ 1 := by omega
                    refine e_Ok.if1 rfl (fun h47 => ?_) (fun h47 => ?_)
                    · replace h47 : (z46 : Int) ≠ 0 := h47
                      refine e_Ok.run (t' := (181, [(0, (1, 275)), (1, (0, a)), (2, (0, 36 * a + 16)), (3, (0, y3)), (4, (0, w 276 (1000 * a + w 276 (36 * a + 23) + 21060)))], [(1, 275), (0, v2 276 (36 * a + z44 + 44)), (0, 36 * a + z44 + 44), (1, 276)], v2)) 1 rfl ?_
                      refine e_Ok.getr (z := 276) rfl rfl rfl rfl ((j24 275 0 (by unfold mGo; omega)).trans (e_Has.eq hT rfl)) (by omega) ?_
                      refine e_Ok.run (t' := (187, [(0, (1, 275)), (1, (0, a)), (2, (0, 36 * a + 16)), (3, (0, y3)), (4, (0, w 276 (1000 * a + w 276 (36 * a + 23) + 21060)))], [(0, 10), (0, 36 * a + 16), (1, 276), (0, v2 276 (36 * a + z44 + 44)), (0, 36 * a + z44 + 44), (1, 276)], v2)) 2 rfl ?_
                      refine e_Ok.add (z := 36 * a + 26) rfl (by omega) (by omega) ?_
                      have h48 := (e_Has.get hT (c := 276) (k := 36 * a + 26) (lo := 0) (hi := 16) (nR_WIDE (a := a) (by omega)) (by decide))
                      refine e_Ok.ald (z := w 276 (36 * a + 26)) rfl rfl rfl (by omega) ((j24 276 (36 * a + 26) (by unfold mGo; omega)).trans rfl) (by omega) ?_
                      refine e_Ok.neg (z := -w 276 (36 * a + 26)) rfl (by omega) (by omega) ?_
                      have hw1 := hP1.1 y3 (by omega) (by omega)
                      have hw2 := hP1.2.1 y3 z44 (by omega) (by omega) (by omega) (by omega)
                      have hw3 := hP1.2.2 (y3 + 1) z44 (by omega) (by omega) (by omega) (by omega)
                      have hw4 := j23 z44 (by omega) (by omega)
                      have hb288 := e_Has.get hT (c := 288) (k := 6 * a + z44) (lo := -100000) (hi := 0) rfl (by decide)
                      have hb289 := e_Has.get hT (c := 289) (k := 6 * a + z44) (lo := 0) (hi := 100000) rfl (by decide)
                      refine e_Ok.add (z := v2 276 (36 * a + z44 + 44) - w 276 (36 * a + 26)) rfl (by omega) (by omega) ?_
                      refine e_Ok.ast rfl rfl rfl rfl (by omega) ?_
                      generalize hw49 : e_up v2 276 (36 * a + z44 + 44) (v2 276 (36 * a + z44 + 44) - w 276 (36 * a + 26)) = w49
                      have f50 : e_fr (mNw a) w w49 := e_fr.up j20 hw49 (by unfold mNw; omega)
                      have hT51 : e_Has mTy w49 := e_Has.upr j21 hw49 (nR_GOAL (a := a) (j := z44) (by omega) (by omega)) (by omega)
                      refine e_Ok.inc (z := y3 + 1) rfl rfl (by omega) (by omega) ?_
                      show e_Ok 20 elay ecode eI (d + 1) 391 (195, [(3, (0, y3 + 1)), (0, (1, 275)), (1, (0, a)), (2, (0, 36 * a + 16)), (4, (0, w 276 (1000 * a + w 276 (36 * a + 23) + 21060)))], [], w49) _
                      refine e_Ok.run (t' := (113, [(3, (0, y3 + 1)), (0, (1, 275)), (1, (0, a)), (2, (0, 36 * a + 16)), (4, (0, w 276 (1000 * a + w 276 (36 * a + 23) + 21060)))], [], w49)) 1 rfl ?_
                      refine e_Ok.sub eAlk (e_sub_of rfl ?_) (ih19 (y3 + 1) w49 ⟨f50, hT51, by omega, (fun j g1 g2 => Decidable.byCases (p := j = z44) (fun e => by rw [e, ← hw49, e_up_eq]; omega) (fun e => Eq.trans (by rw [← hw49]; exact e_up_ne _ _ (Or.inr (by omega))) (by have q1 := j23 j g1 g2; have q2 := (hP1.2.1 y3 j (by omega) (by omega) g1 (by omega)).2.2 (by omega) (by omega); omega))), (e_fr.up j24 hw49 (by unfold mGo; omega))⟩ (by omega))
                      exact ⟨rfl, rfl, rfl, rfl, rfl, trivial⟩
                    · replace h47 : (z46 : Int) = 0 := by have q : ¬ ((z46 : Int) ≠ 0) := h47; omega
                      refine e_Ok.run (t' := (169, [(0, (1, 275)), (1, (0, a)), (2, (0, 36 * a + 16)), (3, (0, y3)), (4, (0, w 276 (1000 * a + w 276 (36 * a + 23) + 21060)))], [(1, 275), (0, v2 276 (36 * a + z44 + 44)), (0, 36 * a + z44 + 44), (1, 276)], v2)) 1 rfl ?_
                      refine e_Ok.getr (z := 276) rfl rfl rfl rfl ((j24 275 0 (by unfold mGo; omega)).trans (e_Has.eq hT rfl)) (by omega) ?_
                      refine e_Ok.run (t' := (175, [(0, (1, 275)), (1, (0, a)), (2, (0, 36 * a + 16)), (3, (0, y3)), (4, (0, w 276 (1000 * a + w 276 (36 * a + 23) + 21060)))], [(0, 10), (0, 36 * a + 16), (1, 276), (0, v2 276 (36 * a + z44 + 44)), (0, 36 * a + z44 + 44), (1, 276)], v2)) 2 rfl ?_
                      refine e_Ok.add (z := 36 * a + 26) rfl (by omega) (by omega) ?_
                      have h52 := (e_Has.get hT (c := 276) (k := 36 * a + 26) (lo := 0) (hi := 16) (nR_WIDE (a := a) (by omega)) (by decide))
                      refine e_Ok.ald (z := w 276 (36 * a + 26)) rfl rfl rfl (by omega) ((j24 276 (36 * a + 26) (by unfold mGo; omega)).trans rfl) (by omega) ?_
                      refine e_Ok.run (t' := (190, [(0, (1, 275)), (1, (0, a)), (2, (0, 36 * a + 16)), (3, (0, y3)), (4, (0, w 276 (1000 * a + w 276 (36 * a + 23) + 21060)))], [(0, w 276 (36 * a + 26)), (0, v2 276 (36 * a + z44 + 44)), (0, 36 * a + z44 + 44), (1, 276)], v2)) 1 rfl ?_
                      have hw1 := hP1.1 y3 (by omega) (by omega)
                      have hw2 := hP1.2.1 y3 z44 (by omega) (by omega) (by omega) (by omega)
                      have hw3 := hP1.2.2 (y3 + 1) z44 (by omega) (by omega) (by omega) (by omega)
                      have hw4 := j23 z44 (by omega) (by omega)
                      have hb288 := e_Has.get hT (c := 288) (k := 6 * a + z44) (lo := -100000) (hi := 0) rfl (by decide)
                      have hb289 := e_Has.get hT (c := 289) (k := 6 * a + z44) (lo := 0) (hi := 100000) rfl (by decide)
                      refine e_Ok.add (z := v2 276 (36 * a + z44 + 44) + w 276 (36 * a + 26)) rfl (by omega) (by omega) ?_
                      refine e_Ok.ast rfl rfl rfl rfl (by omega) ?_
                      generalize hw53 : e_up v2 276 (36 * a + z44 + 44) (v2 276 (36 * a + z44 + 44) + w 276 (36 * a + 26)) = w53
                      have f54 : e_fr (mNw a) w w53 := e_fr.up j20 hw53 (by unfold mNw; omega)
                      have hT55 : e_Has mTy w53 := e_Has.upr j21 hw53 (nR_GOAL (a := a) (j := z44) (by omega) (by omega)) (by omega)
                      refine e_Ok.inc (z := y3 + 1) rfl rfl (by omega) (by omega) ?_
                      show e_Ok 20 elay ecode eI (d + 1) 391 (195, [(3, (0, y3 + 1)), (0, (1, 275)), (1, (0, a)), (2, (0, 36 * a + 16)), (4, (0, w 276 (1000 * a + w 276 (36 * a + 23) + 21060)))], [], w53) _
                      refine e_Ok.run (t' := (113, [(3, (0, y3 + 1)), (0, (1, 275)), (1, (0, a)), (2, (0, 36 * a + 16)), (4, (0, w 276 (1000 * a + w 276 (36 * a + 23) + 21060)))], [], w53)) 1 rfl ?_
                      refine e_Ok.sub eAlk (e_sub_of rfl ?_) (ih19 (y3 + 1) w53 ⟨f54, hT55, by omega, (fun j g1 g2 => Decidable.byCases (p := j = z44) (fun e => by rw [e, ← hw53, e_up_eq]; omega) (fun e => Eq.trans (by rw [← hw53]; exact e_up_ne _ _ (Or.inr (by omega))) (by have q1 := j23 j g1 g2; have q2 := (hP1.2.1 y3 j (by omega) (by omega) g1 (by omega)).2.2 (by omega) (by omega); omega))), (e_fr.up j24 hw53 (by unfold mGo; omega))⟩ (by omega))
                      exact ⟨rfl, rfl, rfl, rfl, rfl, trivial⟩
            refine e_Ok.sub eAlk (e_sub_of rfl ?_) (hL18 (1000 + 1 : Int).toNat (w 276 (36 * a + 23)) v1 ⟨j11, j12, by omega, (fun j g1 g2 => Eq.trans (j14 j g1 (by omega)) (Eq.symm ((hP2 j g1 g2).2 rfl))), j15⟩ (by omega))
            exact ⟨rfl, rfl, rfl, rfl, rfl, trivial⟩
          · replace h16 : (y4 : Int) < w 286 a := by have q : ¬ ((y4 : Int) ≥ w 286 a) := h16; omega
            refine e_Ok.run (t' := (66, [(0, (1, 275)), (1, (0, a)), (2, (0, 36 * a + 16)), (3, (0, w 276 (36 * a + 23))), (4, (0, y4))], [(1, 275)], v1)) 1 rfl ?_
            refine e_Ok.getr (z := 276) rfl rfl rfl rfl ((j15 275 0 (by unfold mGo; omega)).trans (e_Has.eq hT rfl)) (by omega) ?_
            refine e_Ok.run (t' := (72, [(0, (1, 275)), (1, (0, a)), (2, (0, 36 * a + 16)), (3, (0, w 276 (36 * a + 23))), (4, (0, y4))], [(0, 28), (0, 36 * a + 16), (1, 276)], v1)) 2 rfl ?_
            refine e_Ok.add (z := 36 * a + 44) rfl (by omega) (by omega) ?_
            refine e_Ok.run (t' := (75, [(0, (1, 275)), (1, (0, a)), (2, (0, 36 * a + 16)), (3, (0, w 276 (36 * a + 23))), (4, (0, y4))], [(0, y4), (0, 36 * a + 44), (1, 276)], v1)) 1 rfl ?_
            refine e_Ok.add (z := 36 * a + y4 + 44) rfl (by omega) (by omega) ?_
            refine e_Ok.run (t' := (77, [(0, (1, 275)), (1, (0, a)), (2, (0, 36 * a + 16)), (3, (0, w 276 (36 * a + 23))), (4, (0, y4))], [(1, 275), (0, 36 * a + y4 + 44), (1, 276)], v1)) 1 rfl ?_
            refine e_Ok.getr (z := 276) rfl rfl rfl rfl ((j15 275 0 (by unfold mGo; omega)).trans (e_Has.eq hT rfl)) (by omega) ?_
            refine e_Ok.run (t' := (83, [(0, (1, 275)), (1, (0, a)), (2, (0, 36 * a + 16)), (3, (0, w 276 (36 * a + 23))), (4, (0, y4))], [(0, 16), (0, 36 * a + 16), (1, 276), (0, 36 * a + y4 + 44), (1, 276)], v1)) 2 rfl ?_
            refine e_Ok.add (z := 36 * a + 32) rfl (by omega) (by omega) ?_
            refine e_Ok.run (t' := (86, [(0, (1, 275)), (1, (0, a)), (2, (0, 36 * a + 16)), (3, (0, w 276 (36 * a + 23))), (4, (0, y4))], [(0, y4), (0, 36 * a + 32), (1, 276), (0, 36 * a + y4 + 44), (1, 276)], v1)) 1 rfl ?_
            refine e_Ok.add (z := 36 * a + y4 + 32) rfl (by omega) (by omega) ?_
            have h56 := (e_Has.get hT (c := 276) (k := 36 * a + y4 + 32) (lo := (-100000)) (hi := 100000) (nR_VALUE (a := a) (j := y4) (by omega) (by omega)) (by decide))
            refine e_Ok.ald (z := w 276 (36 * a + y4 + 32)) rfl rfl rfl (by omega) ((j15 276 (36 * a + y4 + 32) (by unfold mGo; omega)).trans rfl) (by omega) ?_
            refine e_Ok.ast rfl rfl rfl rfl (by omega) ?_
            generalize hw57 : e_up v1 276 (36 * a + y4 + 44) (w 276 (36 * a + y4 + 32)) = w57
            have f58 : e_fr (mNw a) w w57 := e_fr.up j11 hw57 (by unfold mNw; omega)
            have hT59 : e_Has mTy w57 := e_Has.upr j12 hw57 (nR_GOAL (a := a) (j := y4) (by omega) (by omega)) (by omega)
            refine e_Ok.inc (z := y4 + 1) rfl rfl (by omega) (by omega) ?_
            show e_Ok 20 elay ecode eI (d + 1) 391 (92, [(4, (0, y4 + 1)), (0, (1, 275)), (1, (0, a)), (2, (0, 36 * a + 16)), (3, (0, w 276 (36 * a + 23)))], [], w57) _
            refine e_Ok.run (t' := (54, [(4, (0, y4 + 1)), (0, (1, 275)), (1, (0, a)), (2, (0, 36 * a + 16)), (3, (0, w 276 (36 * a + 23)))], [], w57)) 1 rfl ?_
            refine e_Ok.sub eAlk (e_sub_of rfl ?_) (ih10 (y4 + 1) w57 ⟨f58, hT59, by omega, (fun j g1 g2 => Decidable.byCases (p := j = y4) (fun e => by rw [e, ← hw57]; exact e_up_eq _ _ _ _) (fun e => Eq.trans (by rw [← hw57]; exact e_up_ne _ _ (Or.inr (by omega))) (j14 j g1 (by omega)))), (e_fr.up j15 hw57 (by unfold mGo; omega))⟩ (by omega))
            exact ⟨rfl, rfl, rfl, rfl, rfl, trivial⟩
      refine e_Ok.sub eAlk (e_sub_of rfl ?_) (hL9 (7 + 1 : Int).toNat 0 w ⟨(e_fr.refl w), hT, by omega, (fun j g1 g2 => by omega), (e_fr.refl w)⟩ (by omega))
      exact ⟨rfl, rfl, rfl, rfl, rfl, trivial⟩
    · replace h8 : (w 276 (36 * a + 23) : Int) = w 276 (36 * a + 19) := by have q : ¬ ((w 276 (36 * a + 23) : Int) ≠ w 276 (36 * a + 19)) := h8; omega
      refine e_Ok.run (t' := (41, [(3, (0, w 276 (36 * a + 23))), (2, (0, 36 * a + 16)), (0, (1, 275)), (1, (0, a))], [(1, 275)], w)) 1 rfl ?_
      refine e_Ok.getr (z := 276) rfl rfl rfl rfl (e_Has.eq hT rfl) (by omega) ?_
      refine e_Ok.run (t' := (47, [(3, (0, w 276 (36 * a + 23))), (2, (0, 36 * a + 16)), (0, (1, 275)), (1, (0, a))], [(0, 6), (0, 36 * a + 16), (1, 276)], w)) 2 rfl ?_
      refine e_Ok.add (z := 36 * a + 22) rfl (by omega) (by omega) ?_
      refine e_Ok.run (t' := (49, [(3, (0, w 276 (36 * a + 23))), (2, (0, 36 * a + 16)), (0, (1, 275)), (1, (0, a))], [(0, 0), (0, 36 * a + 22), (1, 276)], w)) 1 rfl ?_
      refine e_Ok.ast rfl rfl rfl rfl (by omega) ?_
      generalize hw60 : e_up w 276 (36 * a + 22) 0 = w60
      have f61 : e_fr (mNw a) w w60 := e_fr.up (e_fr.refl w) hw60 (by unfold mNw; omega)
      have hT62 : e_Has mTy w60 := e_Has.upr hT hw60 (nR_TRAVELS (a := a) (by omega)) (by omega)
      refine e_Ok.rets rfl rfl ?_
      exact ⟨rfl, f61, hT62, mMo.quit hMo (by omega) (e_Has.mo hT) (fun c k q => by rw [← hw60]; exact e_up_ne _ _ (by unfold moK at q; omega)) (fun b g1 g2 => by rw [← hw60]; exact e_up_ne _ _ (Or.inr (by omega))) (fun b g1 g2 g3 => by rw [← hw60]; exact e_up_ne _ _ (Or.inr (by omega))) (by rw [← hw60, e_up_eq]; decide)⟩
  · replace h5 : (w 276 (36 * a + 22) : Int) = 0 := by have q : ¬ ((w 276 (36 * a + 22) : Int) ≠ 0) := h5; omega
    refine e_Ok.rets rfl rfl ?_
    exact ⟨rfl, (e_fr.refl w), hT, mMo.quit hMo (by omega) (e_Has.mo hT) (fun c k q => rfl) (fun b g1 g2 => rfl) (fun b g1 g2 g3 => rfl) (by omega)⟩
set_option maxHeartbeats 4000000 in
theorem c_388 {d : Nat} (hd : 24 ≤ d) {w : eW} (hT : e_Has mTy w) (hCf : mCf w) {a : Int} (ha : 0 ≤ a ∧ a ≤ 3) (hMo : mMo w (-1)) (hPw : w 276 1 = 1) (hE : w 276 5 ≤ 2147483600) : e_Ok 20 elay ecode eI d 388 (0, [(0, (1, 275)), (1, (0, a))], [], w) (fun r w' => r = [] ∧ e_fr (mGn a) w w' ∧ e_Has mTy w' ∧ (w 276 5 ≤ w' 276 5 ∧ w' 276 5 ≤ w 276 5 + 1) ∧ mMo w' (-1)) := by
  obtain ⟨d, rfl⟩ : ∃ e, d = e + 1 := ⟨d - 1, by omega⟩
  have hja := (e_Has.get hT (c := 286) (k := a) (lo := 0) (hi := 6) rfl (by decide))
  refine e_Ok.run (t' := (1, [(0, (1, 275)), (1, (0, a))], [(0, a)], w)) 1 rfl ?_
  refine e_Ok.callS rfl (by omega) rfl rfl (c_268 (by omega)) (fun r1 w2 h3 => ?_)
  obtain ⟨rfl, rfl⟩ := h3
  show e_Ok 20 elay ecode eI (d + 1) 388 (4, [(0, (1, 275)), (1, (0, a))], [(0, 36 * a + 16)], w) _
  refine e_Ok.run (t' := (6, [(2, (0, 36 * a + 16)), (0, (1, 275)), (1, (0, a))], [(1, 275)], w)) 2 rfl ?_
  refine e_Ok.getr (z := 276) rfl rfl rfl rfl (e_Has.eq hT rfl) (by omega) ?_
  refine e_Ok.run (t' := (11, [(2, (0, 36 * a + 16)), (0, (1, 275)), (1, (0, a))], [(0, 0), (0, 36 * a + 16), (1, 276)], w)) 2 rfl ?_
  refine e_Ok.add (z := 36 * a + 16) rfl (by omega) (by omega) ?_
  have h4 := (e_Has.get hT (c := 276) (k := 36 * a + 16) (lo := 0) (hi := 2) (nR_STATE (a := a) (by omega)) (by decide))
  refine e_Ok.ald (z := w 276 (36 * a + 16)) rfl rfl rfl (by omega) rfl (by omega) ?_
  refine e_Ok.if1 rfl (fun h5 => ?_) (fun h5 => ?_)
  · replace h5 : (w 276 (36 * a + 16) : Int) ≠ 0 := h5
    refine e_Ok.run (t' := (18, [(2, (0, 36 * a + 16)), (0, (1, 275)), (1, (0, a))], [(1, 275)], w)) 1 rfl ?_
    refine e_Ok.getr (z := 276) rfl rfl rfl rfl (e_Has.eq hT rfl) (by omega) ?_
    refine e_Ok.run (t' := (23, [(2, (0, 36 * a + 16)), (0, (1, 275)), (1, (0, a))], [(0, 0), (0, 36 * a + 16), (1, 276)], w)) 2 rfl ?_
    refine e_Ok.add (z := 36 * a + 16) rfl (by omega) (by omega) ?_
    refine e_Ok.ald (z := w 276 (36 * a + 16)) rfl rfl rfl (by omega) rfl (by omega) ?_
    refine e_Ok.run (t' := (26, [(2, (0, 36 * a + 16)), (0, (1, 275)), (1, (0, a))], [(0, 1), (0, w 276 (36 * a + 16))], w)) 1 rfl ?_
    refine e_Ok.if2 rfl (fun h6 => ?_) (fun h6 => ?_)
    · replace h6 : (w 276 (36 * a + 16) : Int) ≠ 1 := h6
      refine e_Ok.run (t' := (44, [(6, (0, 0)), (5, (0, 0)), (4, (0, 1)), (3, (0, 0)), (2, (0, 36 * a + 16)), (0, (1, 275)), (1, (0, a))], [], w)) 8 rfl ?_
      have hL7 : ∀ (nn : Nat) (y4 : Int) (y5 : Int) (y6 : Int) (v1 : eW), e_fr (mGn a) w v1 ∧ e_Has mTy v1 ∧ (0 ≤ y4 ∧ y4 ≤ 1 ∧ 0 ≤ y5 ∧ y5 ≤ 1 ∧ 0 ≤ y6 ∧ y6 ≤ 6) ∧ (∀ j, 0 ≤ j → j < y6 → joOk (w 276 (36 * a + 16)) (v1 276 (36 * a + j + 32)) (v1 276 (36 * a + j + 38)) (w 276 (36 * a + j + 44)) (w 288 (6 * a + j)) (w 289 (6 * a + j)) (w 291 (6 * a + j))) ∧ (∀ j, y6 ≤ j → j ≤ 5 → v1 276 (36 * a + j + 32) = w 276 (36 * a + j + 32) ∧ v1 276 (36 * a + j + 38) = w 276 (36 * a + j + 38)) ∧ ((y5 = 0 → ∀ j, 0 ≤ j → j < y6 → v1 276 (36 * a + j + 32) = w 276 (36 * a + j + 32) ∧ v1 276 (36 * a + j + 38) = 0)) ∧ ((y4 = 1 → ∀ j, 0 ≤ j → j < y6 → v1 276 (36 * a + j + 38) = 0 ∧ (w 276 (36 * a + 16) = 1 → v1 276 (36 * a + j + 32) = w 276 (36 * a + j + 44)))) ∧ e_fr (mVS a) w v1 → 7 - y6 < nn → e_Ok 20 elay ecode eI (d + 1) 388 (44, [(0, (1, 275)), (1, (0, a)), (2, (0, 36 * a + 16)), (3, (0, 0)), (4, (0, y4)), (5, (0, y5)), (6, (0, y6))], [], v1) (fun r w' => r = [] ∧ e_fr (mGn a) w w' ∧ e_Has mTy w' ∧ (w 276 5 ≤ w' 276 5 ∧ w' 276 5 ≤ w 276 5 + 1) ∧ mMo w' (-1)) := by
        intro nn
        induction nn with
        | zero => intro y4 y5 y6 v1 hj hm; obtain ⟨j9, j10, j11, j12, j13, j14, j15, j16⟩ := hj; exfalso; omega
        | succ nn ih8 =>
          intro y4 y5 y6 v1 hj hm
          obtain ⟨j9, j10, j11, j12, j13, j14, j15, j16⟩ := hj
          refine e_Ok.run (t' := (47, [(0, (1, 275)), (1, (0, a)), (2, (0, 36 * a + 16)), (3, (0, 0)), (4, (0, y4)), (5, (0, y5)), (6, (0, y6))], [(1, 275), (0, y6)], v1)) 2 rfl ?_
          refine e_Ok.getr (z := 286) rfl rfl rfl rfl ((j16 275 15 (by unfold mVS; omega)).trans (e_Has.eq hT rfl)) (by omega) ?_
          refine e_Ok.run (t' := (51, [(0, (1, 275)), (1, (0, a)), (2, (0, 36 * a + 16)), (3, (0, 0)), (4, (0, y4)), (5, (0, y5)), (6, (0, y6))], [(0, a), (1, 286), (0, y6)], v1)) 1 rfl ?_
          refine e_Ok.ald (z := w 286 a) rfl rfl rfl (by omega) ((j16 286 a (by unfold mVS; omega)).trans rfl) (by omega) ?_
          refine e_Ok.if2 rfl (fun h17 => ?_) (fun h17 => ?_)
          · replace h17 : (y6 : Int) ≥ w 286 a := h17
            refine e_Ok.run (t' := (307, [(0, (1, 275)), (1, (0, a)), (2, (0, 36 * a + 16)), (3, (0, 0)), (4, (0, y4)), (5, (0, y5)), (6, (0, y6))], [(0, y5)], v1)) 1 rfl ?_
            refine e_Ok.if1 rfl (fun h18 => ?_) (fun h18 => ?_)
            · replace h18 : (y5 : Int) = 0 := h18
              refine e_Ok.run (t' := (316, [(0, (1, 275)), (1, (0, a)), (2, (0, 36 * a + 16)), (3, (0, 0)), (4, (0, y4)), (5, (0, y5)), (6, (0, y6))], [(0, 0)], v1)) 1 rfl ?_
              refine e_Ok.if1 rfl (fun h19 => ?_) (fun h19 => ?_)
              · replace h19 : (0 : Int) ≠ 0 := h19
                exfalso; omega
              · replace h19 : (0 : Int) = 0 := by have q : ¬ ((0 : Int) ≠ 0) := h19; omega
                refine e_Ok.run (t' := (320, [(0, (1, 275)), (1, (0, a)), (2, (0, 36 * a + 16)), (3, (0, 0)), (4, (0, y4)), (5, (0, y5)), (6, (0, y6))], [(1, 275)], v1)) 1 rfl ?_
                refine e_Ok.getr (z := 276) rfl rfl rfl rfl ((j16 275 0 (by unfold mVS; omega)).trans (e_Has.eq hT rfl)) (by omega) ?_
                refine e_Ok.run (t' := (325, [(0, (1, 275)), (1, (0, a)), (2, (0, 36 * a + 16)), (3, (0, 0)), (4, (0, y4)), (5, (0, y5)), (6, (0, y6))], [(0, 0), (0, 36 * a + 16), (1, 276)], v1)) 2 rfl ?_
                refine e_Ok.add (z := 36 * a + 16) rfl (by omega) (by omega) ?_
                refine e_Ok.run (t' := (328, [(0, (1, 275)), (1, (0, a)), (2, (0, 36 * a + 16)), (3, (0, 0)), (4, (0, y4)), (5, (0, y5)), (6, (0, y6))], [(0, y4), (0, 36 * a + 16), (1, 276)], v1)) 1 rfl ?_
                refine e_Ok.if1 rfl (fun h20 => ?_) (fun h20 => ?_)
                · replace h20 : (y4 : Int) = 0 := h20
                  refine e_Ok.run (t' := (336, [(0, (1, 275)), (1, (0, a)), (2, (0, 36 * a + 16)), (3, (0, 0)), (4, (0, y4)), (5, (0, y5)), (6, (0, y6))], [(0, 2), (0, 36 * a + 16), (1, 276)], v1)) 1 rfl ?_
                  refine e_Ok.ast rfl rfl rfl rfl (by omega) ?_
                  generalize hw21 : e_up v1 276 (36 * a + 16) 2 = w21
                  have f22 : e_fr (mGn a) w w21 := e_fr.up j9 hw21 (by unfold mGn mG1 mNw; omega)
                  have hT23 : e_Has mTy w21 := e_Has.upr j10 hw21 (nR_STATE (a := a) (by omega)) (by omega)
                  refine e_Ok.rets rfl rfl ?_
                  have e24 : w21 276 5 = w 276 5 := (by rw [← hw21]; exact (e_up_ne _ _ (Or.inr (by omega))).trans ((j16 276 5 (by unfold mVS; omega)).trans rfl))
                  have hG : e_fr (mG1 a) w w21 := (e_fr.up (e_fr.mono j16 (fun c k q => by unfold mVS at q; unfold mG1; omega)) hw21 (by unfold mG1; omega))
                  have eV : ∀ j, 0 ≤ j → j < w 286 a → w21 276 (36 * a + j + 32) = v1 276 (36 * a + j + 32) := fun j g1 g2 => (by rw [← hw21]; exact (e_up_ne _ _ (Or.inr (by omega))).trans rfl)
                  have eS : ∀ j, 0 ≤ j → j < w 286 a → w21 276 (36 * a + j + 38) = v1 276 (36 * a + j + 38) := fun j g1 g2 => (by rw [← hw21]; exact (e_up_ne _ _ (Or.inr (by omega))).trans rfl)
                  have eT : w21 276 (36 * a + 16) = 2 := (by rw [← hw21]; exact e_up_eq _ _ _ _)
                  have hwt : mMo w21 (-1) := mMo.went hMo (Or.inl rfl) (e_Has.mo hT) ha (by omega) (fun c k q q2 => hG c k (moK_g1 ha q q2)) (fun b g1 g2 g3 => ⟨hG 276 _ (by unfold mG1; omega), hG 276 _ (by unfold mG1; omega)⟩) (hG 276 _ (by unfold mG1; omega)) (fun j g1 g2 => by unfold moJ; rw [show w21 276 (36 * a + 16) = w 276 (36 * a + 16) by omega, eV j g1 g2, eS j g1 g2, hG 276 (36 * a + j + 44) (by unfold mG1; omega), hG 288 _ (by unfold mG1; omega), hG 289 _ (by unfold mG1; omega), hG 291 _ (by unfold mG1; omega)]; exact j12 j g1 (by omega)) (fun e => by exfalso; omega) (Or.inr ⟨fun b g1 g2 => (by rw [← hw21]; exact (e_up_ne _ _ (Or.inr (by omega))).trans ((j16 276 (36 * b + 20) (by unfold mVS; omega)).trans rfl)), fun j g1 g2 => Eq.trans (eV j g1 g2) (j14 (by omega) j g1 (by omega)).1⟩) (fun b g1 g2 => Or.inr (by rw [← hw21]; exact (e_up_ne _ _ (Or.inr (by omega))).trans ((j16 276 (36 * b + 20) (by unfold mVS; omega)).trans rfl)))
                  exact ⟨rfl, f22, hT23, by omega, hwt⟩
                · replace h20 : (y4 : Int) ≠ 0 := by have q : ¬ ((y4 : Int) = 0) := h20; omega
                  refine e_Ok.run (t' := (336, [(0, (1, 275)), (1, (0, a)), (2, (0, 36 * a + 16)), (3, (0, 0)), (4, (0, y4)), (5, (0, y5)), (6, (0, y6))], [(0, 0), (0, 36 * a + 16), (1, 276)], v1)) 2 rfl ?_
                  refine e_Ok.ast rfl rfl rfl rfl (by omega) ?_
                  generalize hw25 : e_up v1 276 (36 * a + 16) 0 = w25
                  have f26 : e_fr (mGn a) w w25 := e_fr.up j9 hw25 (by unfold mGn mG1 mNw; omega)
                  have hT27 : e_Has mTy w25 := e_Has.upr j10 hw25 (nR_STATE (a := a) (by omega)) (by omega)
                  refine e_Ok.rets rfl rfl ?_
                  have e28 : w25 276 5 = w 276 5 := (by rw [← hw25]; exact (e_up_ne _ _ (Or.inr (by omega))).trans ((j16 276 5 (by unfold mVS; omega)).trans rfl))
                  have hG : e_fr (mG1 a) w w25 := (e_fr.up (e_fr.mono j16 (fun c k q => by unfold mVS at q; unfold mG1; omega)) hw25 (by unfold mG1; omega))
                  have eV : ∀ j, 0 ≤ j → j < w 286 a → w25 276 (36 * a + j + 32) = v1 276 (36 * a + j + 32) := fun j g1 g2 => (by rw [← hw25]; exact (e_up_ne _ _ (Or.inr (by omega))).trans rfl)
                  have eS : ∀ j, 0 ≤ j → j < w 286 a → w25 276 (36 * a + j + 38) = v1 276 (36 * a + j + 38) := fun j g1 g2 => (by rw [← hw25]; exact (e_up_ne _ _ (Or.inr (by omega))).trans rfl)
                  have eT : w25 276 (36 * a + 16) = 0 := (by rw [← hw25]; exact e_up_eq _ _ _ _)
                  have hwt : mMo w25 (-1) := mMo.went hMo (Or.inl rfl) (e_Has.mo hT) ha (by omega) (fun c k q q2 => hG c k (moK_g1 ha q q2)) (fun b g1 g2 g3 => ⟨hG 276 _ (by unfold mG1; omega), hG 276 _ (by unfold mG1; omega)⟩) (hG 276 _ (by unfold mG1; omega)) (fun j g1 g2 => by unfold moJ; rw [eT, eV j g1 g2, eS j g1 g2, hG 276 (36 * a + j + 44) (by unfold mG1; omega), hG 288 _ (by unfold mG1; omega), hG 289 _ (by unfold mG1; omega), hG 291 _ (by unfold mG1; omega)]; exact joOk.halt (j12 j g1 (by omega)) (j15 (by omega) j g1 (by omega)).1) (fun e => by exfalso; omega) (Or.inr ⟨fun b g1 g2 => (by rw [← hw25]; exact (e_up_ne _ _ (Or.inr (by omega))).trans ((j16 276 (36 * b + 20) (by unfold mVS; omega)).trans rfl)), fun j g1 g2 => Eq.trans (eV j g1 g2) (j14 (by omega) j g1 (by omega)).1⟩) (fun b g1 g2 => Or.inr (by rw [← hw25]; exact (e_up_ne _ _ (Or.inr (by omega))).trans ((j16 276 (36 * b + 20) (by unfold mVS; omega)).trans rfl)))
                  exact ⟨rfl, f26, hT27, by omega, hwt⟩
            · replace h18 : (y5 : Int) ≠ 0 := by have q : ¬ ((y5 : Int) = 0) := h18; omega
              refine e_Ok.run (t' := (312, [(0, (1, 275)), (1, (0, a)), (2, (0, 36 * a + 16)), (3, (0, 0)), (4, (0, y4)), (5, (0, y5)), (6, (0, y6))], [(0, a), (1, 275)], v1)) 2 rfl ?_
              refine e_Ok.callV rfl (by omega) rfl rfl rfl rfl (c_390 (by omega) j10) (fun r29 w30 h31 => ?_)
              obtain ⟨rfl, q32, q32T, q32a, q32b⟩ := h31
              have f33 : e_fr (mGn a) w w30 := e_fr.trans j9 (e_fr.mono q32 (fun c k q => by unfold mSt at q; unfold mGn mG1 mNw; omega))
              show e_Ok 20 elay ecode eI (d + 1) 388 (315, [(0, (1, 275)), (1, (0, a)), (2, (0, 36 * a + 16)), (3, (0, 0)), (4, (0, y4)), (5, (0, y5)), (6, (0, y6))], [], w30) _
              refine e_Ok.run (t' := (316, [(0, (1, 275)), (1, (0, a)), (2, (0, 36 * a + 16)), (3, (0, 0)), (4, (0, y4)), (5, (0, y5)), (6, (0, y6))], [(0, 0)], w30)) 1 rfl ?_
              refine e_Ok.if1 rfl (fun h34 => ?_) (fun h34 => ?_)
              · replace h34 : (0 : Int) ≠ 0 := h34
                exfalso; omega
              · replace h34 : (0 : Int) = 0 := by have q : ¬ ((0 : Int) ≠ 0) := h34; omega
                refine e_Ok.run (t' := (320, [(0, (1, 275)), (1, (0, a)), (2, (0, 36 * a + 16)), (3, (0, 0)), (4, (0, y4)), (5, (0, y5)), (6, (0, y6))], [(1, 275)], w30)) 1 rfl ?_
                refine e_Ok.getr (z := 276) rfl rfl rfl rfl ((q32 275 0 (by unfold mSt; omega)).trans ((j16 275 0 (by unfold mVS; omega)).trans (e_Has.eq hT rfl))) (by omega) ?_
                refine e_Ok.run (t' := (325, [(0, (1, 275)), (1, (0, a)), (2, (0, 36 * a + 16)), (3, (0, 0)), (4, (0, y4)), (5, (0, y5)), (6, (0, y6))], [(0, 0), (0, 36 * a + 16), (1, 276)], w30)) 2 rfl ?_
                refine e_Ok.add (z := 36 * a + 16) rfl (by omega) (by omega) ?_
                refine e_Ok.run (t' := (328, [(0, (1, 275)), (1, (0, a)), (2, (0, 36 * a + 16)), (3, (0, 0)), (4, (0, y4)), (5, (0, y5)), (6, (0, y6))], [(0, y4), (0, 36 * a + 16), (1, 276)], w30)) 1 rfl ?_
                refine e_Ok.if1 rfl (fun h35 => ?_) (fun h35 => ?_)
                · replace h35 : (y4 : Int) = 0 := h35
                  refine e_Ok.run (t' := (336, [(0, (1, 275)), (1, (0, a)), (2, (0, 36 * a + 16)), (3, (0, 0)), (4, (0, y4)), (5, (0, y5)), (6, (0, y6))], [(0, 2), (0, 36 * a + 16), (1, 276)], w30)) 1 rfl ?_
                  refine e_Ok.ast rfl rfl rfl rfl (by omega) ?_
                  generalize hw36 : e_up w30 276 (36 * a + 16) 2 = w36
                  have f37 : e_fr (mGn a) w w36 := e_fr.up f33 hw36 (by unfold mGn mG1 mNw; omega)
                  have hT38 : e_Has mTy w36 := e_Has.upr q32T hw36 (nR_STATE (a := a) (by omega)) (by omega)
                  refine e_Ok.rets rfl rfl ?_
                  have e39 : w36 276 5 = w 276 5 := (by rw [← hw36]; exact (e_up_ne _ _ (Or.inr (by omega))).trans ((q32 276 5 (by unfold mSt; omega)).trans ((j16 276 5 (by unfold mVS; omega)).trans rfl)))
                  have hG : e_fr (mG1 a) w w36 := (e_fr.up (e_fr.trans (e_fr.mono j16 (fun c k q => by unfold mVS at q; unfold mG1; omega)) (e_fr.mono q32 (fun c k q => by unfold mSt at q; unfold mG1; omega))) hw36 (by unfold mG1; omega))
                  have eV : ∀ j, 0 ≤ j → j < w 286 a → w36 276 (36 * a + j + 32) = v1 276 (36 * a + j + 32) := fun j g1 g2 => (by rw [← hw36]; exact (e_up_ne _ _ (Or.inr (by omega))).trans ((q32 276 (36 * a + j + 32) (by unfold mSt; omega)).trans rfl))
                  have eS : ∀ j, 0 ≤ j → j < w 286 a → w36 276 (36 * a + j + 38) = v1 276 (36 * a + j + 38) := fun j g1 g2 => (by rw [← hw36]; exact (e_up_ne _ _ (Or.inr (by omega))).trans ((q32 276 (36 * a + j + 38) (by unfold mSt; omega)).trans rfl))
                  have eT : w36 276 (36 * a + 16) = 2 := (by rw [← hw36]; exact e_up_eq _ _ _ _)
                  have hwt : mMo w36 (-1) := mMo.went hMo (Or.inl rfl) (e_Has.mo hT) ha (by omega) (fun c k q q2 => hG c k (moK_g1 ha q q2)) (fun b g1 g2 g3 => ⟨hG 276 _ (by unfold mG1; omega), hG 276 _ (by unfold mG1; omega)⟩) (hG 276 _ (by unfold mG1; omega)) (fun j g1 g2 => by unfold moJ; rw [show w36 276 (36 * a + 16) = w 276 (36 * a + 16) by omega, eV j g1 g2, eS j g1 g2, hG 276 (36 * a + j + 44) (by unfold mG1; omega), hG 288 _ (by unfold mG1; omega), hG 289 _ (by unfold mG1; omega), hG 291 _ (by unfold mG1; omega)]; exact j12 j g1 (by omega)) (fun e => by exfalso; omega) (Or.inl (fun b g1 g2 => Eq.trans (by rw [← hw36]; exact (e_up_ne _ _ (Or.inr (by omega))).trans rfl) (q32a b g1 (by have q0 : v1 275 10 = w 275 10 := ((j16 275 10 (by unfold mVS; omega)).trans rfl); omega)))) (fun b g1 g2 => by have e := q32b b g1 g2; rw [show v1 276 (36 * b + 20) = w 276 (36 * b + 20) from ((j16 276 (36 * b + 20) (by unfold mVS; omega)).trans rfl)] at e; rw [show w36 276 (36 * b + 20) = w30 276 (36 * b + 20) from (by rw [← hw36]; exact (e_up_ne _ _ (Or.inr (by omega))).trans rfl)]; exact e)
                  exact ⟨rfl, f37, hT38, by omega, hwt⟩
                · replace h35 : (y4 : Int) ≠ 0 := by have q : ¬ ((y4 : Int) = 0) := h35; omega
                  refine e_Ok.run (t' := (336, [(0, (1, 275)), (1, (0, a)), (2, (0, 36 * a + 16)), (3, (0, 0)), (4, (0, y4)), (5, (0, y5)), (6, (0, y6))], [(0, 0), (0, 36 * a + 16), (1, 276)], w30)) 2 rfl ?_
                  refine e_Ok.ast rfl rfl rfl rfl (by omega) ?_
                  generalize hw40 : e_up w30 276 (36 * a + 16) 0 = w40
                  have f41 : e_fr (mGn a) w w40 := e_fr.up f33 hw40 (by unfold mGn mG1 mNw; omega)
                  have hT42 : e_Has mTy w40 := e_Has.upr q32T hw40 (nR_STATE (a := a) (by omega)) (by omega)
                  refine e_Ok.rets rfl rfl ?_
                  have e43 : w40 276 5 = w 276 5 := (by rw [← hw40]; exact (e_up_ne _ _ (Or.inr (by omega))).trans ((q32 276 5 (by unfold mSt; omega)).trans ((j16 276 5 (by unfold mVS; omega)).trans rfl)))
                  have hG : e_fr (mG1 a) w w40 := (e_fr.up (e_fr.trans (e_fr.mono j16 (fun c k q => by unfold mVS at q; unfold mG1; omega)) (e_fr.mono q32 (fun c k q => by unfold mSt at q; unfold mG1; omega))) hw40 (by unfold mG1; omega))
                  have eV : ∀ j, 0 ≤ j → j < w 286 a → w40 276 (36 * a + j + 32) = v1 276 (36 * a + j + 32) := fun j g1 g2 => (by rw [← hw40]; exact (e_up_ne _ _ (Or.inr (by omega))).trans ((q32 276 (36 * a + j + 32) (by unfold mSt; omega)).trans rfl))
                  have eS : ∀ j, 0 ≤ j → j < w 286 a → w40 276 (36 * a + j + 38) = v1 276 (36 * a + j + 38) := fun j g1 g2 => (by rw [← hw40]; exact (e_up_ne _ _ (Or.inr (by omega))).trans ((q32 276 (36 * a + j + 38) (by unfold mSt; omega)).trans rfl))
                  have eT : w40 276 (36 * a + 16) = 0 := (by rw [← hw40]; exact e_up_eq _ _ _ _)
                  have hwt : mMo w40 (-1) := mMo.went hMo (Or.inl rfl) (e_Has.mo hT) ha (by omega) (fun c k q q2 => hG c k (moK_g1 ha q q2)) (fun b g1 g2 g3 => ⟨hG 276 _ (by unfold mG1; omega), hG 276 _ (by unfold mG1; omega)⟩) (hG 276 _ (by unfold mG1; omega)) (fun j g1 g2 => by unfold moJ; rw [eT, eV j g1 g2, eS j g1 g2, hG 276 (36 * a + j + 44) (by unfold mG1; omega), hG 288 _ (by unfold mG1; omega), hG 289 _ (by unfold mG1; omega), hG 291 _ (by unfold mG1; omega)]; exact joOk.halt (j12 j g1 (by omega)) (j15 (by omega) j g1 (by omega)).1) (fun e => by exfalso; omega) (Or.inl (fun b g1 g2 => Eq.trans (by rw [← hw40]; exact (e_up_ne _ _ (Or.inr (by omega))).trans rfl) (q32a b g1 (by have q0 : v1 275 10 = w 275 10 := ((j16 275 10 (by unfold mVS; omega)).trans rfl); omega)))) (fun b g1 g2 => by have e := q32b b g1 g2; rw [show v1 276 (36 * b + 20) = w 276 (36 * b + 20) from ((j16 276 (36 * b + 20) (by unfold mVS; omega)).trans rfl)] at e; rw [show w40 276 (36 * b + 20) = w30 276 (36 * b + 20) from (by rw [← hw40]; exact (e_up_ne _ _ (Or.inr (by omega))).trans rfl)]; exact e)
                  exact ⟨rfl, f41, hT42, by omega, hwt⟩
          · replace h17 : (y6 : Int) < w 286 a := by have q : ¬ ((y6 : Int) ≥ w 286 a) := h17; omega
            have h4 := j13 y6 (by omega) (by omega)
            have hjo := hMo.1 a y6 ha.1 ha.2 (by omega) (by omega)
            unfold moJ at hjo
            have hST : w 276 (36 * a + 16) = 2 := by omega
            rw [hST] at hjo
            have hcf := hCf a y6 ha.1 ha.2 (by omega) (by omega)
            have hb288 := e_Has.get hT (c := 288) (k := 6 * a + y6) (lo := -100000) (hi := 0) rfl (by decide)
            have hb289 := e_Has.get hT (c := 289) (k := 6 * a + y6) (lo := 0) (hi := 100000) rfl (by decide)
            have hb290 := e_Has.get hT (c := 290) (k := 6 * a + y6) (lo := 0) (hi := 2000) rfl (by decide)
            have hb291 := e_Has.get hT (c := 291) (k := 6 * a + y6) (lo := 0) (hi := 2000) rfl (by decide)
            refine e_Ok.run (t' := (56, [(0, (1, 275)), (1, (0, a)), (2, (0, 36 * a + 16)), (3, (0, 0)), (4, (0, y4)), (5, (0, y5)), (6, (0, y6))], [(1, 275)], v1)) 1 rfl ?_
            refine e_Ok.getr (z := 276) rfl rfl rfl rfl ((j16 275 0 (by unfold mVS; omega)).trans (e_Has.eq hT rfl)) (by omega) ?_
            refine e_Ok.run (t' := (62, [(0, (1, 275)), (1, (0, a)), (2, (0, 36 * a + 16)), (3, (0, 0)), (4, (0, y4)), (5, (0, y5)), (6, (0, y6))], [(0, 22), (0, 36 * a + 16), (1, 276)], v1)) 2 rfl ?_
            refine e_Ok.add (z := 36 * a + 38) rfl (by omega) (by omega) ?_
            refine e_Ok.run (t' := (65, [(0, (1, 275)), (1, (0, a)), (2, (0, 36 * a + 16)), (3, (0, 0)), (4, (0, y4)), (5, (0, y5)), (6, (0, y6))], [(0, y6), (0, 36 * a + 38), (1, 276)], v1)) 1 rfl ?_
            refine e_Ok.add (z := 36 * a + y6 + 38) rfl (by omega) (by omega) ?_
            have h44 := (e_Has.get j10 (c := 276) (k := 36 * a + y6 + 38) (lo := (-2000)) (hi := 2000) (nR_STEP (a := a) (j := y6) (by omega) (by omega)) (by decide))
            refine e_Ok.ald (z := v1 276 (36 * a + y6 + 38)) rfl rfl rfl (by omega) rfl (by omega) ?_
            refine e_Ok.run (t' := (70, [(7, (0, v1 276 (36 * a + y6 + 38))), (0, (1, 275)), (1, (0, a)), (2, (0, 36 * a + 16)), (3, (0, 0)), (4, (0, y4)), (5, (0, y5)), (6, (0, y6))], [(0, 0)], v1)) 2 rfl ?_
            refine e_Ok.if1 rfl (fun h45 => ?_) (fun h45 => ?_)
            · replace h45 : (0 : Int) = 0 := h45
              refine e_Ok.run (t' := (106, [(8, (0, 0)), (7, (0, v1 276 (36 * a + y6 + 38))), (0, (1, 275)), (1, (0, a)), (2, (0, 36 * a + 16)), (3, (0, 0)), (4, (0, y4)), (5, (0, y5)), (6, (0, y6))], [(0, 0)], v1)) 3 rfl ?_
              refine e_Ok.if1 rfl (fun h46 => ?_) (fun h46 => ?_)
              · replace h46 : (0 : Int) ≥ 0 := h46
                refine e_Ok.run (t' := (151, [(8, (0, 0)), (7, (0, v1 276 (36 * a + y6 + 38))), (0, (1, 275)), (1, (0, a)), (2, (0, 36 * a + 16)), (3, (0, 0)), (4, (0, y4)), (5, (0, y5)), (6, (0, y6))], [(1, 275), (0, v1 276 (36 * a + y6 + 38)), (0, 0)], v1)) 3 rfl ?_
                refine e_Ok.getr (z := 290) rfl rfl rfl rfl ((j16 275 19 (by unfold mVS; omega)).trans (e_Has.eq hT rfl)) (by omega) ?_
                refine e_Ok.run (t' := (157, [(8, (0, 0)), (7, (0, v1 276 (36 * a + y6 + 38))), (0, (1, 275)), (1, (0, a)), (2, (0, 36 * a + 16)), (3, (0, 0)), (4, (0, y4)), (5, (0, y5)), (6, (0, y6))], [(0, a), (0, 6), (1, 290), (0, v1 276 (36 * a + y6 + 38)), (0, 0)], v1)) 2 rfl ?_
                refine e_Ok.mul (z := 6 * a) rfl (by omega) (by omega) ?_
                refine e_Ok.run (t' := (160, [(8, (0, 0)), (7, (0, v1 276 (36 * a + y6 + 38))), (0, (1, 275)), (1, (0, a)), (2, (0, 36 * a + 16)), (3, (0, 0)), (4, (0, y4)), (5, (0, y5)), (6, (0, y6))], [(0, y6), (0, 6 * a), (1, 290), (0, v1 276 (36 * a + y6 + 38)), (0, 0)], v1)) 1 rfl ?_
                refine e_Ok.add (z := 6 * a + y6) rfl (by omega) (by omega) ?_
                refine e_Ok.ald (z := w 290 (6 * a + y6)) rfl rfl rfl (by omega) ((j16 290 (6 * a + y6) (by unfold mVS; omega)).trans rfl) (by omega) ?_
                refine e_Ok.run (t' := (163, [(8, (0, 0)), (7, (0, v1 276 (36 * a + y6 + 38))), (0, (1, 275)), (1, (0, a)), (2, (0, 36 * a + 16)), (3, (0, 0)), (4, (0, y4)), (5, (0, y5)), (6, (0, y6))], [(1, 275), (0, w 290 (6 * a + y6)), (0, v1 276 (36 * a + y6 + 38)), (0, 0)], v1)) 1 rfl ?_
                refine e_Ok.getr (z := 291) rfl rfl rfl rfl ((j16 275 20 (by unfold mVS; omega)).trans (e_Has.eq hT rfl)) (by omega) ?_
                refine e_Ok.run (t' := (169, [(8, (0, 0)), (7, (0, v1 276 (36 * a + y6 + 38))), (0, (1, 275)), (1, (0, a)), (2, (0, 36 * a + 16)), (3, (0, 0)), (4, (0, y4)), (5, (0, y5)), (6, (0, y6))], [(0, a), (0, 6), (1, 291), (0, w 290 (6 * a + y6)), (0, v1 276 (36 * a + y6 + 38)), (0, 0)], v1)) 2 rfl ?_
                refine e_Ok.mul (z := 6 * a) rfl (by omega) (by omega) ?_
                refine e_Ok.run (t' := (172, [(8, (0, 0)), (7, (0, v1 276 (36 * a + y6 + 38))), (0, (1, 275)), (1, (0, a)), (2, (0, 36 * a + 16)), (3, (0, 0)), (4, (0, y4)), (5, (0, y5)), (6, (0, y6))], [(0, y6), (0, 6 * a), (1, 291), (0, w 290 (6 * a + y6)), (0, v1 276 (36 * a + y6 + 38)), (0, 0)], v1)) 1 rfl ?_
                refine e_Ok.add (z := 6 * a + y6) rfl (by omega) (by omega) ?_
                refine e_Ok.ald (z := w 291 (6 * a + y6)) rfl rfl rfl (by omega) ((j16 291 (6 * a + y6) (by unfold mVS; omega)).trans rfl) (by omega) ?_
                refine e_Ok.callS rfl (by omega) rfl rfl (c_386_b (by omega) (by omega) (by omega) (by omega)) (fun r47 w48 h49 => ?_)
                obtain ⟨z50, rfl, rfl, q51⟩ := h49
                show e_Ok 20 elay ecode eI (d + 1) 388 (177, [(8, (0, 0)), (7, (0, v1 276 (36 * a + y6 + 38))), (0, (1, 275)), (1, (0, a)), (2, (0, 36 * a + 16)), (3, (0, 0)), (4, (0, y4)), (5, (0, y5)), (6, (0, y6))], [(0, z50)], v1) _
                refine e_Ok.run (t' := (180, [(9, (0, z50)), (8, (0, 0)), (7, (0, v1 276 (36 * a + y6 + 38))), (0, (1, 275)), (1, (0, a)), (2, (0, 36 * a + 16)), (3, (0, 0)), (4, (0, y4)), (5, (0, y5)), (6, (0, y6))], [(0, 0)], v1)) 2 rfl ?_
                refine e_Ok.if1 rfl (fun h52 => ?_) (fun h52 => ?_)
                · replace h52 : (0 : Int) = 0 := h52
                  refine e_Ok.run (t' := (191, [(9, (0, z50)), (8, (0, 0)), (7, (0, v1 276 (36 * a + y6 + 38))), (0, (1, 275)), (1, (0, a)), (2, (0, 36 * a + 16)), (3, (0, 0)), (4, (0, y4)), (5, (0, y5)), (6, (0, y6))], [(1, 275), (0, v1 276 (36 * a + y6 + 38))], v1)) 2 rfl ?_
                  refine e_Ok.getr (z := 291) rfl rfl rfl rfl ((j16 275 20 (by unfold mVS; omega)).trans (e_Has.eq hT rfl)) (by omega) ?_
                  refine e_Ok.run (t' := (197, [(9, (0, z50)), (8, (0, 0)), (7, (0, v1 276 (36 * a + y6 + 38))), (0, (1, 275)), (1, (0, a)), (2, (0, 36 * a + 16)), (3, (0, 0)), (4, (0, y4)), (5, (0, y5)), (6, (0, y6))], [(0, a), (0, 6), (1, 291), (0, v1 276 (36 * a + y6 + 38))], v1)) 2 rfl ?_
                  refine e_Ok.mul (z := 6 * a) rfl (by omega) (by omega) ?_
                  refine e_Ok.run (t' := (200, [(9, (0, z50)), (8, (0, 0)), (7, (0, v1 276 (36 * a + y6 + 38))), (0, (1, 275)), (1, (0, a)), (2, (0, 36 * a + 16)), (3, (0, 0)), (4, (0, y4)), (5, (0, y5)), (6, (0, y6))], [(0, y6), (0, 6 * a), (1, 291), (0, v1 276 (36 * a + y6 + 38))], v1)) 1 rfl ?_
                  refine e_Ok.add (z := 6 * a + y6) rfl (by omega) (by omega) ?_
                  refine e_Ok.ald (z := w 291 (6 * a + y6)) rfl rfl rfl (by omega) ((j16 291 (6 * a + y6) (by unfold mVS; omega)).trans rfl) (by omega) ?_
                  refine e_Ok.callS rfl (by omega) rfl rfl (c_387 (by omega) (by omega)) (fun r53 w54 h55 => ?_)
                  obtain ⟨z56, rfl, rfl, q57⟩ := h55
                  have z56b : -2000 ≤ z56 ∧ z56 ≤ 2000 := by omega
                  show e_Ok 20 elay ecode eI (d + 1) 388 (205, [(9, (0, z50)), (8, (0, 0)), (7, (0, v1 276 (36 * a + y6 + 38))), (0, (1, 275)), (1, (0, a)), (2, (0, 36 * a + 16)), (3, (0, 0)), (4, (0, y4)), (5, (0, y5)), (6, (0, y6))], [(0, z56)], v1) _
                  refine e_Ok.run (t' := (207, [(9, (0, z56)), (8, (0, 0)), (7, (0, v1 276 (36 * a + y6 + 38))), (0, (1, 275)), (1, (0, a)), (2, (0, 36 * a + 16)), (3, (0, 0)), (4, (0, y4)), (5, (0, y5)), (6, (0, y6))], [], v1)) 1 rfl ?_
                  have hjn : joOk (w 276 (36 * a + 16)) (w 276 (36 * a + y6 + 32) + z56) z56 (w 276 (36 * a + y6 + 44)) (w 288 (6 * a + y6)) (w 289 (6 * a + y6)) (w 291 (6 * a + y6)) := by rw [hST]; exact joOk.slow hcf.2 hjo (by omega)
                  have hjl := hjn.1
                  refine e_Ok.run (t' := (208, [(9, (0, z56)), (8, (0, 0)), (7, (0, v1 276 (36 * a + y6 + 38))), (0, (1, 275)), (1, (0, a)), (2, (0, 36 * a + 16)), (3, (0, 0)), (4, (0, y4)), (5, (0, y5)), (6, (0, y6))], [(1, 275)], v1)) 1 rfl ?_
                  refine e_Ok.getr (z := 276) rfl rfl rfl rfl ((j16 275 0 (by unfold mVS; omega)).trans (e_Has.eq hT rfl)) (by omega) ?_
                  refine e_Ok.run (t' := (214, [(9, (0, z56)), (8, (0, 0)), (7, (0, v1 276 (36 * a + y6 + 38))), (0, (1, 275)), (1, (0, a)), (2, (0, 36 * a + 16)), (3, (0, 0)), (4, (0, y4)), (5, (0, y5)), (6, (0, y6))], [(0, 22), (0, 36 * a + 16), (1, 276)], v1)) 2 rfl ?_
                  refine e_Ok.add (z := 36 * a + 38) rfl (by omega) (by omega) ?_
                  refine e_Ok.run (t' := (217, [(9, (0, z56)), (8, (0, 0)), (7, (0, v1 276 (36 * a + y6 + 38))), (0, (1, 275)), (1, (0, a)), (2, (0, 36 * a + 16)), (3, (0, 0)), (4, (0, y4)), (5, (0, y5)), (6, (0, y6))], [(0, y6), (0, 36 * a + 38), (1, 276)], v1)) 1 rfl ?_
                  refine e_Ok.add (z := 36 * a + y6 + 38) rfl (by omega) (by omega) ?_
                  refine e_Ok.run (t' := (220, [(9, (0, z56)), (8, (0, 0)), (7, (0, v1 276 (36 * a + y6 + 38))), (0, (1, 275)), (1, (0, a)), (2, (0, 36 * a + 16)), (3, (0, 0)), (4, (0, y4)), (5, (0, y5)), (6, (0, y6))], [(0, z56), (0, 36 * a + y6 + 38), (1, 276)], v1)) 1 rfl ?_
                  refine e_Ok.ast rfl rfl rfl rfl (by omega) ?_
                  generalize hw58 : e_up v1 276 (36 * a + y6 + 38) z56 = w58
                  have f59 : e_fr (mGn a) w w58 := e_fr.up j9 hw58 (by unfold mGn mG1 mNw; omega)
                  have hT60 : e_Has mTy w58 := e_Has.upr j10 hw58 (nR_STEP (a := a) (j := y6) (by omega) (by omega)) (by omega)
                  refine e_Ok.run (t' := (222, [(9, (0, z56)), (8, (0, 0)), (7, (0, v1 276 (36 * a + y6 + 38))), (0, (1, 275)), (1, (0, a)), (2, (0, 36 * a + 16)), (3, (0, 0)), (4, (0, y4)), (5, (0, y5)), (6, (0, y6))], [(1, 275)], w58)) 1 rfl ?_
                  refine e_Ok.getr (z := 276) rfl rfl rfl rfl (by rw [← hw58]; exact (e_up_ne _ _ (Or.inl (by omega))).trans ((j16 275 0 (by unfold mVS; omega)).trans (e_Has.eq hT rfl))) (by omega) ?_
                  refine e_Ok.run (t' := (228, [(9, (0, z56)), (8, (0, 0)), (7, (0, v1 276 (36 * a + y6 + 38))), (0, (1, 275)), (1, (0, a)), (2, (0, 36 * a + 16)), (3, (0, 0)), (4, (0, y4)), (5, (0, y5)), (6, (0, y6))], [(0, 16), (0, 36 * a + 16), (1, 276)], w58)) 2 rfl ?_
                  refine e_Ok.add (z := 36 * a + 32) rfl (by omega) (by omega) ?_
                  refine e_Ok.run (t' := (231, [(9, (0, z56)), (8, (0, 0)), (7, (0, v1 276 (36 * a + y6 + 38))), (0, (1, 275)), (1, (0, a)), (2, (0, 36 * a + 16)), (3, (0, 0)), (4, (0, y4)), (5, (0, y5)), (6, (0, y6))], [(0, y6), (0, 36 * a + 32), (1, 276)], w58)) 1 rfl ?_
                  refine e_Ok.add (z := 36 * a + y6 + 32) rfl (by omega) (by omega) ?_
                  refine e_Ok.run (t' := (233, [(9, (0, z56)), (8, (0, 0)), (7, (0, v1 276 (36 * a + y6 + 38))), (0, (1, 275)), (1, (0, a)), (2, (0, 36 * a + 16)), (3, (0, 0)), (4, (0, y4)), (5, (0, y5)), (6, (0, y6))], [(0, 36 * a + y6 + 32), (1, 276), (0, 36 * a + y6 + 32), (1, 276)], w58)) 1 rfl ?_
                  have h61 := (e_Has.get j10 (c := 276) (k := 36 * a + y6 + 32) (lo := (-100000)) (hi := 100000) (nR_VALUE (a := a) (j := y6) (by omega) (by omega)) (by decide))
                  refine e_Ok.ald (z := v1 276 (36 * a + y6 + 32)) rfl rfl rfl (by omega) (by rw [← hw58]; exact (e_up_ne _ _ (Or.inr (by omega))).trans rfl) (by omega) ?_
                  refine e_Ok.run (t' := (236, [(9, (0, z56)), (8, (0, 0)), (7, (0, v1 276 (36 * a + y6 + 38))), (0, (1, 275)), (1, (0, a)), (2, (0, 36 * a + 16)), (3, (0, 0)), (4, (0, y4)), (5, (0, y5)), (6, (0, y6))], [(0, z56), (0, v1 276 (36 * a + y6 + 32)), (0, 36 * a + y6 + 32), (1, 276)], w58)) 1 rfl ?_
                  refine e_Ok.add (z := v1 276 (36 * a + y6 + 32) + z56) rfl (by omega) (by omega) ?_
                  refine e_Ok.ast rfl rfl rfl rfl (by omega) ?_
                  generalize hw62 : e_up w58 276 (36 * a + y6 + 32) (v1 276 (36 * a + y6 + 32) + z56) = w62
                  have f63 : e_fr (mGn a) w w62 := e_fr.up f59 hw62 (by unfold mGn mG1 mNw; omega)
                  have hT64 : e_Has mTy w62 := e_Has.upr hT60 hw62 (nR_VALUE (a := a) (j := y6) (by omega) (by omega)) (by omega)
                  refine e_Ok.run (t' := (242, [(9, (0, z56)), (8, (0, 0)), (7, (0, v1 276 (36 * a + y6 + 38))), (0, (1, 275)), (1, (0, a)), (2, (0, 36 * a + 16)), (3, (0, 0)), (4, (0, y4)), (5, (0, y5)), (6, (0, y6))], [(0, z56), (0, y5)], w62)) 2 rfl ?_
                  refine e_Ok.if1 rfl (fun h65 => ?_) (fun h65 => ?_)
                  · replace h65 : (z56 : Int) = 0 := h65
                    refine e_Ok.run (t' := (250, [(9, (0, z56)), (8, (0, 0)), (7, (0, v1 276 (36 * a + y6 + 38))), (0, (1, 275)), (1, (0, a)), (2, (0, 36 * a + 16)), (3, (0, 0)), (4, (0, y4)), (5, (0, y5)), (6, (0, y6))], [(0, 0), (0, y5)], w62)) 1 rfl ?_
                    refine e_Ok.or01 (by omega) (by omega) (fun z66 hz66 => ?_) rfl
                    replace hz66 : (0 ≤ z66 ∧ z66 ≤ 1) ∧ (z66 = 0 ↔ (y5 = 0 ∧ 0 = 0)) := hz66
                    refine e_Ok.run (t' := (257, [(5, (0, z66)), (9, (0, z56)), (8, (0, 0)), (7, (0, v1 276 (36 * a + y6 + 38))), (0, (1, 275)), (1, (0, a)), (2, (0, 36 * a + 16)), (3, (0, 0)), (4, (0, y4)), (6, (0, y6))], [(0, z56), (0, y4)], w62)) 3 rfl ?_
                    refine e_Ok.if1 rfl (fun h67 => ?_) (fun h67 => ?_)
                    · replace h67 : (z56 : Int) ≠ 0 := h67
                      exfalso; omega
                    · replace h67 : (z56 : Int) = 0 := by have q : ¬ ((z56 : Int) ≠ 0) := h67; omega
                      refine e_Ok.run (t' := (261, [(5, (0, z66)), (9, (0, z56)), (8, (0, 0)), (7, (0, v1 276 (36 * a + y6 + 38))), (0, (1, 275)), (1, (0, a)), (2, (0, 36 * a + 16)), (3, (0, 0)), (4, (0, y4)), (6, (0, y6))], [(0, 0), (0, y4)], w62)) 1 rfl ?_
                      refine e_Ok.if1 rfl (fun h68 => ?_) (fun h68 => ?_)
                      · replace h68 : (0 : Int) = 0 := h68
                        refine e_Ok.run (t' := (296, [(5, (0, z66)), (9, (0, z56)), (8, (0, 0)), (7, (0, v1 276 (36 * a + y6 + 38))), (0, (1, 275)), (1, (0, a)), (2, (0, 36 * a + 16)), (3, (0, 0)), (4, (0, y4)), (6, (0, y6))], [(0, 1), (0, y4)], w62)) 2 rfl ?_
                        refine e_Ok.and01 (by omega) (by omega) (fun z69 hz69 => ?_) rfl
                        replace hz69 : (0 ≤ z69 ∧ z69 ≤ 1) ∧ (z69 = 1 ↔ (y4 = 1 ∧ 1 = 1)) := hz69
                        refine e_Ok.run (t' := (299, [(4, (0, z69)), (5, (0, z66)), (9, (0, z56)), (8, (0, 0)), (7, (0, v1 276 (36 * a + y6 + 38))), (0, (1, 275)), (1, (0, a)), (2, (0, 36 * a + 16)), (3, (0, 0)), (6, (0, y6))], [], w62)) 1 rfl ?_
                        refine e_Ok.inc (z := y6 + 1) rfl rfl (by omega) (by omega) ?_
                        show e_Ok 20 elay ecode eI (d + 1) 388 (302, [(6, (0, y6 + 1)), (4, (0, z69)), (5, (0, z66)), (9, (0, z56)), (8, (0, 0)), (7, (0, v1 276 (36 * a + y6 + 38))), (0, (1, 275)), (1, (0, a)), (2, (0, 36 * a + 16)), (3, (0, 0))], [], w62) _
                        refine e_Ok.run (t' := (44, [(6, (0, y6 + 1)), (4, (0, z69)), (5, (0, z66)), (9, (0, z56)), (8, (0, 0)), (7, (0, v1 276 (36 * a + y6 + 38))), (0, (1, 275)), (1, (0, a)), (2, (0, 36 * a + 16)), (3, (0, 0))], [], w62)) 1 rfl ?_
                        refine e_Ok.sub eAlk (e_sub_of rfl ?_) (ih8 z69 z66 (y6 + 1) w62 ⟨f63, hT64, by omega, (fun j g1 g2 => Decidable.byCases (p := j = y6) (fun e => by rw [e, show w62 276 (36 * a + y6 + 32) = w 276 (36 * a + y6 + 32) + z56 from Eq.trans (by rw [← hw62]; exact e_up_eq _ _ _ _) (by omega), show w62 276 (36 * a + y6 + 38) = z56 from (by rw [← hw62]; exact (e_up_ne _ _ (Or.inr (by omega))).trans (by rw [← hw58]; exact e_up_eq _ _ _ _))]; exact hjn) (fun e => by rw [show w62 276 (36 * a + j + 32) = v1 276 (36 * a + j + 32) from (by rw [← hw62]; exact (e_up_ne _ _ (Or.inr (by omega))).trans (by rw [← hw58]; exact (e_up_ne _ _ (Or.inr (by omega))).trans rfl)), show w62 276 (36 * a + j + 38) = v1 276 (36 * a + j + 38) from (by rw [← hw62]; exact (e_up_ne _ _ (Or.inr (by omega))).trans (by rw [← hw58]; exact (e_up_ne _ _ (Or.inr (by omega))).trans rfl))]; exact j12 j g1 (by omega))), (fun j g1 g2 => by rw [show w62 276 (36 * a + j + 32) = v1 276 (36 * a + j + 32) from (by rw [← hw62]; exact (e_up_ne _ _ (Or.inr (by omega))).trans (by rw [← hw58]; exact (e_up_ne _ _ (Or.inr (by omega))).trans rfl)), show w62 276 (36 * a + j + 38) = v1 276 (36 * a + j + 38) from (by rw [← hw62]; exact (e_up_ne _ _ (Or.inr (by omega))).trans (by rw [← hw58]; exact (e_up_ne _ _ (Or.inr (by omega))).trans rfl))]; exact j13 j (by omega) g2), (fun e j g1 g2 => Decidable.byCases (p := j = y6) (fun e1 => by rw [e1, show w62 276 (36 * a + y6 + 32) = w 276 (36 * a + y6 + 32) + z56 from Eq.trans (by rw [← hw62]; exact e_up_eq _ _ _ _) (by omega), show w62 276 (36 * a + y6 + 38) = z56 from (by rw [← hw62]; exact (e_up_ne _ _ (Or.inr (by omega))).trans (by rw [← hw58]; exact e_up_eq _ _ _ _))]; omega) (fun e1 => by rw [show w62 276 (36 * a + j + 32) = v1 276 (36 * a + j + 32) from (by rw [← hw62]; exact (e_up_ne _ _ (Or.inr (by omega))).trans (by rw [← hw58]; exact (e_up_ne _ _ (Or.inr (by omega))).trans rfl)), show w62 276 (36 * a + j + 38) = v1 276 (36 * a + j + 38) from (by rw [← hw62]; exact (e_up_ne _ _ (Or.inr (by omega))).trans (by rw [← hw58]; exact (e_up_ne _ _ (Or.inr (by omega))).trans rfl))]; exact j14 (by omega) j g1 (by omega))), (fun e j g1 g2 => Decidable.byCases (p := j = y6) (fun e1 => by rw [e1, show w62 276 (36 * a + y6 + 32) = w 276 (36 * a + y6 + 32) + z56 from Eq.trans (by rw [← hw62]; exact e_up_eq _ _ _ _) (by omega), show w62 276 (36 * a + y6 + 38) = z56 from (by rw [← hw62]; exact (e_up_ne _ _ (Or.inr (by omega))).trans (by rw [← hw58]; exact e_up_eq _ _ _ _))]; omega) (fun e1 => by rw [show w62 276 (36 * a + j + 32) = v1 276 (36 * a + j + 32) from (by rw [← hw62]; exact (e_up_ne _ _ (Or.inr (by omega))).trans (by rw [← hw58]; exact (e_up_ne _ _ (Or.inr (by omega))).trans rfl)), show w62 276 (36 * a + j + 38) = v1 276 (36 * a + j + 38) from (by rw [← hw62]; exact (e_up_ne _ _ (Or.inr (by omega))).trans (by rw [← hw58]; exact (e_up_ne _ _ (Or.inr (by omega))).trans rfl))]; exact j15 (by omega) j g1 (by omega))), (e_fr.up (e_fr.up j16 hw58 (by unfold mVS; omega)) hw62 (by unfold mVS; omega))⟩ (by omega))
                        exact ⟨rfl, rfl, rfl, rfl, rfl, rfl, rfl, trivial⟩
                      · replace h68 : (0 : Int) ≠ 0 := by have q : ¬ ((0 : Int) = 0) := h68; omega
                        exfalso; omega
                  · replace h65 : (z56 : Int) ≠ 0 := by have q : ¬ ((z56 : Int) = 0) := h65; omega
                    refine e_Ok.run (t' := (250, [(9, (0, z56)), (8, (0, 0)), (7, (0, v1 276 (36 * a + y6 + 38))), (0, (1, 275)), (1, (0, a)), (2, (0, 36 * a + 16)), (3, (0, 0)), (4, (0, y4)), (5, (0, y5)), (6, (0, y6))], [(0, 1), (0, y5)], w62)) 2 rfl ?_
                    refine e_Ok.or01 (by omega) (by omega) (fun z70 hz70 => ?_) rfl
                    replace hz70 : (0 ≤ z70 ∧ z70 ≤ 1) ∧ (z70 = 0 ↔ (y5 = 0 ∧ 1 = 0)) := hz70
                    refine e_Ok.run (t' := (257, [(5, (0, z70)), (9, (0, z56)), (8, (0, 0)), (7, (0, v1 276 (36 * a + y6 + 38))), (0, (1, 275)), (1, (0, a)), (2, (0, 36 * a + 16)), (3, (0, 0)), (4, (0, y4)), (6, (0, y6))], [(0, z56), (0, y4)], w62)) 3 rfl ?_
                    refine e_Ok.if1 rfl (fun h71 => ?_) (fun h71 => ?_)
                    · replace h71 : (z56 : Int) ≠ 0 := h71
                      refine e_Ok.run (t' := (296, [(5, (0, z70)), (9, (0, z56)), (8, (0, 0)), (7, (0, v1 276 (36 * a + y6 + 38))), (0, (1, 275)), (1, (0, a)), (2, (0, 36 * a + 16)), (3, (0, 0)), (4, (0, y4)), (6, (0, y6))], [(0, 0), (0, y4)], w62)) 1 rfl ?_
                      refine e_Ok.and01 (by omega) (by omega) (fun z72 hz72 => ?_) rfl
                      replace hz72 : (0 ≤ z72 ∧ z72 ≤ 1) ∧ (z72 = 1 ↔ (y4 = 1 ∧ 0 = 1)) := hz72
                      refine e_Ok.run (t' := (299, [(4, (0, z72)), (5, (0, z70)), (9, (0, z56)), (8, (0, 0)), (7, (0, v1 276 (36 * a + y6 + 38))), (0, (1, 275)), (1, (0, a)), (2, (0, 36 * a + 16)), (3, (0, 0)), (6, (0, y6))], [], w62)) 1 rfl ?_
                      refine e_Ok.inc (z := y6 + 1) rfl rfl (by omega) (by omega) ?_
                      show e_Ok 20 elay ecode eI (d + 1) 388 (302, [(6, (0, y6 + 1)), (4, (0, z72)), (5, (0, z70)), (9, (0, z56)), (8, (0, 0)), (7, (0, v1 276 (36 * a + y6 + 38))), (0, (1, 275)), (1, (0, a)), (2, (0, 36 * a + 16)), (3, (0, 0))], [], w62) _
                      refine e_Ok.run (t' := (44, [(6, (0, y6 + 1)), (4, (0, z72)), (5, (0, z70)), (9, (0, z56)), (8, (0, 0)), (7, (0, v1 276 (36 * a + y6 + 38))), (0, (1, 275)), (1, (0, a)), (2, (0, 36 * a + 16)), (3, (0, 0))], [], w62)) 1 rfl ?_
                      refine e_Ok.sub eAlk (e_sub_of rfl ?_) (ih8 z72 z70 (y6 + 1) w62 ⟨f63, hT64, by omega, (fun j g1 g2 => Decidable.byCases (p := j = y6) (fun e => by rw [e, show w62 276 (36 * a + y6 + 32) = w 276 (36 * a + y6 + 32) + z56 from Eq.trans (by rw [← hw62]; exact e_up_eq _ _ _ _) (by omega), show w62 276 (36 * a + y6 + 38) = z56 from (by rw [← hw62]; exact (e_up_ne _ _ (Or.inr (by omega))).trans (by rw [← hw58]; exact e_up_eq _ _ _ _))]; exact hjn) (fun e => by rw [show w62 276 (36 * a + j + 32) = v1 276 (36 * a + j + 32) from (by rw [← hw62]; exact (e_up_ne _ _ (Or.inr (by omega))).trans (by rw [← hw58]; exact (e_up_ne _ _ (Or.inr (by omega))).trans rfl)), show w62 276 (36 * a + j + 38) = v1 276 (36 * a + j + 38) from (by rw [← hw62]; exact (e_up_ne _ _ (Or.inr (by omega))).trans (by rw [← hw58]; exact (e_up_ne _ _ (Or.inr (by omega))).trans rfl))]; exact j12 j g1 (by omega))), (fun j g1 g2 => by rw [show w62 276 (36 * a + j + 32) = v1 276 (36 * a + j + 32) from (by rw [← hw62]; exact (e_up_ne _ _ (Or.inr (by omega))).trans (by rw [← hw58]; exact (e_up_ne _ _ (Or.inr (by omega))).trans rfl)), show w62 276 (36 * a + j + 38) = v1 276 (36 * a + j + 38) from (by rw [← hw62]; exact (e_up_ne _ _ (Or.inr (by omega))).trans (by rw [← hw58]; exact (e_up_ne _ _ (Or.inr (by omega))).trans rfl))]; exact j13 j (by omega) g2), (fun e j g1 g2 => Decidable.byCases (p := j = y6) (fun e1 => by rw [e1, show w62 276 (36 * a + y6 + 32) = w 276 (36 * a + y6 + 32) + z56 from Eq.trans (by rw [← hw62]; exact e_up_eq _ _ _ _) (by omega), show w62 276 (36 * a + y6 + 38) = z56 from (by rw [← hw62]; exact (e_up_ne _ _ (Or.inr (by omega))).trans (by rw [← hw58]; exact e_up_eq _ _ _ _))]; omega) (fun e1 => by rw [show w62 276 (36 * a + j + 32) = v1 276 (36 * a + j + 32) from (by rw [← hw62]; exact (e_up_ne _ _ (Or.inr (by omega))).trans (by rw [← hw58]; exact (e_up_ne _ _ (Or.inr (by omega))).trans rfl)), show w62 276 (36 * a + j + 38) = v1 276 (36 * a + j + 38) from (by rw [← hw62]; exact (e_up_ne _ _ (Or.inr (by omega))).trans (by rw [← hw58]; exact (e_up_ne _ _ (Or.inr (by omega))).trans rfl))]; exact j14 (by omega) j g1 (by omega))), (fun e j g1 g2 => Decidable.byCases (p := j = y6) (fun e1 => by rw [e1, show w62 276 (36 * a + y6 + 32) = w 276 (36 * a + y6 + 32) + z56 from Eq.trans (by rw [← hw62]; exact e_up_eq _ _ _ _) (by omega), show w62 276 (36 * a + y6 + 38) = z56 from (by rw [← hw62]; exact (e_up_ne _ _ (Or.inr (by omega))).trans (by rw [← hw58]; exact e_up_eq _ _ _ _))]; omega) (fun e1 => by rw [show w62 276 (36 * a + j + 32) = v1 276 (36 * a + j + 32) from (by rw [← hw62]; exact (e_up_ne _ _ (Or.inr (by omega))).trans (by rw [← hw58]; exact (e_up_ne _ _ (Or.inr (by omega))).trans rfl)), show w62 276 (36 * a + j + 38) = v1 276 (36 * a + j + 38) from (by rw [← hw62]; exact (e_up_ne _ _ (Or.inr (by omega))).trans (by rw [← hw58]; exact (e_up_ne _ _ (Or.inr (by omega))).trans rfl))]; exact j15 (by omega) j g1 (by omega))), (e_fr.up (e_fr.up j16 hw58 (by unfold mVS; omega)) hw62 (by unfold mVS; omega))⟩ (by omega))
                      exact ⟨rfl, rfl, rfl, rfl, rfl, rfl, rfl, trivial⟩
                    · replace h71 : (z56 : Int) = 0 := by have q : ¬ ((z56 : Int) ≠ 0) := h71; omega
                      refine e_Ok.run (t' := (261, [(5, (0, z70)), (9, (0, z56)), (8, (0, 0)), (7, (0, v1 276 (36 * a + y6 + 38))), (0, (1, 275)), (1, (0, a)), (2, (0, 36 * a + 16)), (3, (0, 0)), (4, (0, y4)), (6, (0, y6))], [(0, 0), (0, y4)], w62)) 1 rfl ?_
                      refine e_Ok.if1 rfl (fun h73 => ?_) (fun h73 => ?_)
                      · replace h73 : (0 : Int) = 0 := h73
                        refine e_Ok.run (t' := (296, [(5, (0, z70)), (9, (0, z56)), (8, (0, 0)), (7, (0, v1 276 (36 * a + y6 + 38))), (0, (1, 275)), (1, (0, a)), (2, (0, 36 * a + 16)), (3, (0, 0)), (4, (0, y4)), (6, (0, y6))], [(0, 1), (0, y4)], w62)) 2 rfl ?_
                        refine e_Ok.and01 (by omega) (by omega) (fun z74 hz74 => ?_) rfl
                        replace hz74 : (0 ≤ z74 ∧ z74 ≤ 1) ∧ (z74 = 1 ↔ (y4 = 1 ∧ 1 = 1)) := hz74
                        refine e_Ok.run (t' := (299, [(4, (0, z74)), (5, (0, z70)), (9, (0, z56)), (8, (0, 0)), (7, (0, v1 276 (36 * a + y6 + 38))), (0, (1, 275)), (1, (0, a)), (2, (0, 36 * a + 16)), (3, (0, 0)), (6, (0, y6))], [], w62)) 1 rfl ?_
                        refine e_Ok.inc (z := y6 + 1) rfl rfl (by omega) (by omega) ?_
                        show e_Ok 20 elay ecode eI (d + 1) 388 (302, [(6, (0, y6 + 1)), (4, (0, z74)), (5, (0, z70)), (9, (0, z56)), (8, (0, 0)), (7, (0, v1 276 (36 * a + y6 + 38))), (0, (1, 275)), (1, (0, a)), (2, (0, 36 * a + 16)), (3, (0, 0))], [], w62) _
                        refine e_Ok.run (t' := (44, [(6, (0, y6 + 1)), (4, (0, z74)), (5, (0, z70)), (9, (0, z56)), (8, (0, 0)), (7, (0, v1 276 (36 * a + y6 + 38))), (0, (1, 275)), (1, (0, a)), (2, (0, 36 * a + 16)), (3, (0, 0))], [], w62)) 1 rfl ?_
                        refine e_Ok.sub eAlk (e_sub_of rfl ?_) (ih8 z74 z70 (y6 + 1) w62 ⟨f63, hT64, by omega, (fun j g1 g2 => Decidable.byCases (p := j = y6) (fun e => by rw [e, show w62 276 (36 * a + y6 + 32) = w 276 (36 * a + y6 + 32) + z56 from Eq.trans (by rw [← hw62]; exact e_up_eq _ _ _ _) (by omega), show w62 276 (36 * a + y6 + 38) = z56 from (by rw [← hw62]; exact (e_up_ne _ _ (Or.inr (by omega))).trans (by rw [← hw58]; exact e_up_eq _ _ _ _))]; exact hjn) (fun e => by rw [show w62 276 (36 * a + j + 32) = v1 276 (36 * a + j + 32) from (by rw [← hw62]; exact (e_up_ne _ _ (Or.inr (by omega))).trans (by rw [← hw58]; exact (e_up_ne _ _ (Or.inr (by omega))).trans rfl)), show w62 276 (36 * a + j + 38) = v1 276 (36 * a + j + 38) from (by rw [← hw62]; exact (e_up_ne _ _ (Or.inr (by omega))).trans (by rw [← hw58]; exact (e_up_ne _ _ (Or.inr (by omega))).trans rfl))]; exact j12 j g1 (by omega))), (fun j g1 g2 => by rw [show w62 276 (36 * a + j + 32) = v1 276 (36 * a + j + 32) from (by rw [← hw62]; exact (e_up_ne _ _ (Or.inr (by omega))).trans (by rw [← hw58]; exact (e_up_ne _ _ (Or.inr (by omega))).trans rfl)), show w62 276 (36 * a + j + 38) = v1 276 (36 * a + j + 38) from (by rw [← hw62]; exact (e_up_ne _ _ (Or.inr (by omega))).trans (by rw [← hw58]; exact (e_up_ne _ _ (Or.inr (by omega))).trans rfl))]; exact j13 j (by omega) g2), (fun e j g1 g2 => Decidable.byCases (p := j = y6) (fun e1 => by rw [e1, show w62 276 (36 * a + y6 + 32) = w 276 (36 * a + y6 + 32) + z56 from Eq.trans (by rw [← hw62]; exact e_up_eq _ _ _ _) (by omega), show w62 276 (36 * a + y6 + 38) = z56 from (by rw [← hw62]; exact (e_up_ne _ _ (Or.inr (by omega))).trans (by rw [← hw58]; exact e_up_eq _ _ _ _))]; omega) (fun e1 => by rw [show w62 276 (36 * a + j + 32) = v1 276 (36 * a + j + 32) from (by rw [← hw62]; exact (e_up_ne _ _ (Or.inr (by omega))).trans (by rw [← hw58]; exact (e_up_ne _ _ (Or.inr (by omega))).trans rfl)), show w62 276 (36 * a + j + 38) = v1 276 (36 * a + j + 38) from (by rw [← hw62]; exact (e_up_ne _ _ (Or.inr (by omega))).trans (by rw [← hw58]; exact (e_up_ne _ _ (Or.inr (by omega))).trans rfl))]; exact j14 (by omega) j g1 (by omega))), (fun e j g1 g2 => Decidable.byCases (p := j = y6) (fun e1 => by rw [e1, show w62 276 (36 * a + y6 + 32) = w 276 (36 * a + y6 + 32) + z56 from Eq.trans (by rw [← hw62]; exact e_up_eq _ _ _ _) (by omega), show w62 276 (36 * a + y6 + 38) = z56 from (by rw [← hw62]; exact (e_up_ne _ _ (Or.inr (by omega))).trans (by rw [← hw58]; exact e_up_eq _ _ _ _))]; omega) (fun e1 => by rw [show w62 276 (36 * a + j + 32) = v1 276 (36 * a + j + 32) from (by rw [← hw62]; exact (e_up_ne _ _ (Or.inr (by omega))).trans (by rw [← hw58]; exact (e_up_ne _ _ (Or.inr (by omega))).trans rfl)), show w62 276 (36 * a + j + 38) = v1 276 (36 * a + j + 38) from (by rw [← hw62]; exact (e_up_ne _ _ (Or.inr (by omega))).trans (by rw [← hw58]; exact (e_up_ne _ _ (Or.inr (by omega))).trans rfl))]; exact j15 (by omega) j g1 (by omega))), (e_fr.up (e_fr.up j16 hw58 (by unfold mVS; omega)) hw62 (by unfold mVS; omega))⟩ (by omega))
                        exact ⟨rfl, rfl, rfl, rfl, rfl, rfl, rfl, trivial⟩
                      · replace h73 : (0 : Int) ≠ 0 := by have q : ¬ ((0 : Int) = 0) := h73; omega
                        exfalso; omega
                · replace h52 : (0 : Int) ≠ 0 := by have q : ¬ ((0 : Int) = 0) := h52; omega
                  exfalso; omega
              · replace h46 : (0 : Int) < 0 := by have q : ¬ ((0 : Int) ≥ 0) := h46; omega
                exfalso; omega
            · replace h45 : (0 : Int) ≠ 0 := by have q : ¬ ((0 : Int) = 0) := h45; omega
              exfalso; omega
      refine e_Ok.sub eAlk (e_sub_of rfl ?_) (hL7 (7 + 1 : Int).toNat 1 0 0 w ⟨(e_fr.refl w), hT, by omega, (fun j g1 g2 => by omega), (fun j g1 g2 => ⟨rfl, rfl⟩), (fun e j g1 g2 => by omega), (fun e j g1 g2 => by omega), (e_fr.refl w)⟩ (by omega))
      exact ⟨rfl, rfl, rfl, rfl, rfl, rfl, rfl, trivial⟩
    · replace h6 : (w 276 (36 * a + 16) : Int) = 1 := by have q : ¬ ((w 276 (36 * a + 16) : Int) ≠ 1) := h6; omega
      refine e_Ok.run (t' := (44, [(6, (0, 0)), (5, (0, 0)), (4, (0, 1)), (3, (0, 1)), (2, (0, 36 * a + 16)), (0, (1, 275)), (1, (0, a))], [], w)) 9 rfl ?_
      have hL75 : ∀ (nn : Nat) (y4 : Int) (y5 : Int) (y6 : Int) (v1 : eW), e_fr (mGn a) w v1 ∧ e_Has mTy v1 ∧ (0 ≤ y4 ∧ y4 ≤ 1 ∧ 0 ≤ y5 ∧ y5 ≤ 1 ∧ 0 ≤ y6 ∧ y6 ≤ 6) ∧ (∀ j, 0 ≤ j → j < y6 → joOk (w 276 (36 * a + 16)) (v1 276 (36 * a + j + 32)) (v1 276 (36 * a + j + 38)) (w 276 (36 * a + j + 44)) (w 288 (6 * a + j)) (w 289 (6 * a + j)) (w 291 (6 * a + j))) ∧ (∀ j, y6 ≤ j → j ≤ 5 → v1 276 (36 * a + j + 32) = w 276 (36 * a + j + 32) ∧ v1 276 (36 * a + j + 38) = w 276 (36 * a + j + 38)) ∧ ((y5 = 0 → ∀ j, 0 ≤ j → j < y6 → v1 276 (36 * a + j + 32) = w 276 (36 * a + j + 32) ∧ v1 276 (36 * a + j + 38) = 0)) ∧ ((y4 = 1 → ∀ j, 0 ≤ j → j < y6 → v1 276 (36 * a + j + 38) = 0 ∧ (w 276 (36 * a + 16) = 1 → v1 276 (36 * a + j + 32) = w 276 (36 * a + j + 44)))) ∧ e_fr (mVS a) w v1 → 7 - y6 < nn → e_Ok 20 elay ecode eI (d + 1) 388 (44, [(0, (1, 275)), (1, (0, a)), (2, (0, 36 * a + 16)), (3, (0, 1)), (4, (0, y4)), (5, (0, y5)), (6, (0, y6))], [], v1) (fun r w' => r = [] ∧ e_fr (mGn a) w w' ∧ e_Has mTy w' ∧ (w 276 5 ≤ w' 276 5 ∧ w' 276 5 ≤ w 276 5 + 1) ∧ mMo w' (-1)) := by
        intro nn
        induction nn with
        | zero => intro y4 y5 y6 v1 hj hm; obtain ⟨j77, j78, j79, j80, j81, j82, j83, j84⟩ := hj; exfalso; omega
        | succ nn ih76 =>
          intro y4 y5 y6 v1 hj hm
          obtain ⟨j77, j78, j79, j80, j81, j82, j83, j84⟩ := hj
          refine e_Ok.run (t' := (47, [(0, (1, 275)), (1, (0, a)), (2, (0, 36 * a + 16)), (3, (0, 1)), (4, (0, y4)), (5, (0, y5)), (6, (0, y6))], [(1, 275), (0, y6)], v1)) 2 rfl ?_
          refine e_Ok.getr (z := 286) rfl rfl rfl rfl ((j84 275 15 (by unfold mVS; omega)).trans (e_Has.eq hT rfl)) (by omega) ?_
          refine e_Ok.run (t' := (51, [(0, (1, 275)), (1, (0, a)), (2, (0, 36 * a + 16)), (3, (0, 1)), (4, (0, y4)), (5, (0, y5)), (6, (0, y6))], [(0, a), (1, 286), (0, y6)], v1)) 1 rfl ?_
          refine e_Ok.ald (z := w 286 a) rfl rfl rfl (by omega) ((j84 286 a (by unfold mVS; omega)).trans rfl) (by omega) ?_
          refine e_Ok.if2 rfl (fun h85 => ?_) (fun h85 => ?_)
          · replace h85 : (y6 : Int) ≥ w 286 a := h85
            refine e_Ok.run (t' := (307, [(0, (1, 275)), (1, (0, a)), (2, (0, 36 * a + 16)), (3, (0, 1)), (4, (0, y4)), (5, (0, y5)), (6, (0, y6))], [(0, y5)], v1)) 1 rfl ?_
            refine e_Ok.if1 rfl (fun h86 => ?_) (fun h86 => ?_)
            · replace h86 : (y5 : Int) = 0 := h86
              refine e_Ok.run (t' := (316, [(0, (1, 275)), (1, (0, a)), (2, (0, 36 * a + 16)), (3, (0, 1)), (4, (0, y4)), (5, (0, y5)), (6, (0, y6))], [(0, 1)], v1)) 1 rfl ?_
              refine e_Ok.if1 rfl (fun h87 => ?_) (fun h87 => ?_)
              · replace h87 : (1 : Int) ≠ 0 := h87
                refine e_Ok.run (t' := (339, [(0, (1, 275)), (1, (0, a)), (2, (0, 36 * a + 16)), (3, (0, 1)), (4, (0, y4)), (5, (0, y5)), (6, (0, y6))], [(1, 275)], v1)) 1 rfl ?_
                refine e_Ok.getr (z := 276) rfl rfl rfl rfl ((j84 275 0 (by unfold mVS; omega)).trans (e_Has.eq hT rfl)) (by omega) ?_
                refine e_Ok.run (t' := (345, [(0, (1, 275)), (1, (0, a)), (2, (0, 36 * a + 16)), (3, (0, 1)), (4, (0, y4)), (5, (0, y5)), (6, (0, y6))], [(0, 8), (0, 36 * a + 16), (1, 276)], v1)) 2 rfl ?_
                refine e_Ok.add (z := 36 * a + 24) rfl (by omega) (by omega) ?_
                refine e_Ok.run (t' := (347, [(0, (1, 275)), (1, (0, a)), (2, (0, 36 * a + 16)), (3, (0, 1)), (4, (0, y4)), (5, (0, y5)), (6, (0, y6))], [(0, 36 * a + 24), (1, 276), (0, 36 * a + 24), (1, 276)], v1)) 1 rfl ?_
                have h88 := (e_Has.get hT (c := 276) (k := 36 * a + 24) (lo := (-2147483648)) (hi := 2147483647) (nR_TICKS (a := a) (by omega)) (by decide))
                refine e_Ok.ald (z := w 276 (36 * a + 24)) rfl rfl rfl (by omega) ((j84 276 (36 * a + 24) (by unfold mVS; omega)).trans rfl) (by omega) ?_
                refine e_Ok.run (t' := (349, [(0, (1, 275)), (1, (0, a)), (2, (0, 36 * a + 16)), (3, (0, 1)), (4, (0, y4)), (5, (0, y5)), (6, (0, y6))], [(0, 1), (0, w 276 (36 * a + 24)), (0, 36 * a + 24), (1, 276)], v1)) 1 rfl ?_
                refine e_Ok.any rfl (eF_add_any _ _) (fun z89 z89a z89b => ?_)
                refine e_Ok.ast rfl rfl rfl rfl (by omega) ?_
                generalize hw90 : e_up v1 276 (36 * a + 24) z89 = w90
                have f91 : e_fr (mGn a) w w90 := e_fr.up j77 hw90 (by unfold mGn mG1 mNw; omega)
                have hT92 : e_Has mTy w90 := e_Has.upr j78 hw90 (nR_TICKS (a := a) (by omega)) (by omega)
                refine e_Ok.run (t' := (353, [(0, (1, 275)), (1, (0, a)), (2, (0, 36 * a + 16)), (3, (0, 1)), (4, (0, y4)), (5, (0, y5)), (6, (0, y6))], [(0, y4)], w90)) 1 rfl ?_
                refine e_Ok.if1 rfl (fun h93 => ?_) (fun h93 => ?_)
                · replace h93 : (y4 : Int) = 0 := h93
                  refine e_Ok.rets rfl rfl ?_
                  have e94 : w90 276 5 = w 276 5 := (by rw [← hw90]; exact (e_up_ne _ _ (Or.inr (by omega))).trans ((j84 276 5 (by unfold mVS; omega)).trans rfl))
                  have hG : e_fr (mG1 a) w w90 := (e_fr.up (e_fr.mono j84 (fun c k q => by unfold mVS at q; unfold mG1; omega)) hw90 (by unfold mG1; omega))
                  have eV : ∀ j, 0 ≤ j → j < w 286 a → w90 276 (36 * a + j + 32) = v1 276 (36 * a + j + 32) := fun j g1 g2 => (by rw [← hw90]; exact (e_up_ne _ _ (Or.inr (by omega))).trans rfl)
                  have eS : ∀ j, 0 ≤ j → j < w 286 a → w90 276 (36 * a + j + 38) = v1 276 (36 * a + j + 38) := fun j g1 g2 => (by rw [← hw90]; exact (e_up_ne _ _ (Or.inr (by omega))).trans rfl)
                  have eT : w90 276 (36 * a + 16) = w 276 (36 * a + 16) := (by rw [← hw90]; exact (e_up_ne _ _ (Or.inr (by omega))).trans ((j84 276 (36 * a + 16) (by unfold mVS; omega)).trans rfl))
                  have hwt : mMo w90 (-1) := mMo.went hMo (Or.inl rfl) (e_Has.mo hT) ha (by omega) (fun c k q q2 => hG c k (moK_g1 ha q q2)) (fun b g1 g2 g3 => ⟨hG 276 _ (by unfold mG1; omega), hG 276 _ (by unfold mG1; omega)⟩) (hG 276 _ (by unfold mG1; omega)) (fun j g1 g2 => by unfold moJ; rw [show w90 276 (36 * a + 16) = w 276 (36 * a + 16) by omega, eV j g1 g2, eS j g1 g2, hG 276 (36 * a + j + 44) (by unfold mG1; omega), hG 288 _ (by unfold mG1; omega), hG 289 _ (by unfold mG1; omega), hG 291 _ (by unfold mG1; omega)]; exact j80 j g1 (by omega)) (fun _ => Or.inr ⟨rfl, by omega⟩) (Or.inr ⟨fun b g1 g2 => (by rw [← hw90]; exact (e_up_ne _ _ (Or.inr (by omega))).trans ((j84 276 (36 * b + 20) (by unfold mVS; omega)).trans rfl)), fun j g1 g2 => Eq.trans (eV j g1 g2) (j82 (by omega) j g1 (by omega)).1⟩) (fun b g1 g2 => Or.inr (by rw [← hw90]; exact (e_up_ne _ _ (Or.inr (by omega))).trans ((j84 276 (36 * b + 20) (by unfold mVS; omega)).trans rfl)))
                  exact ⟨rfl, f91, hT92, by omega, hwt⟩
                · replace h93 : (y4 : Int) ≠ 0 := by have q : ¬ ((y4 : Int) = 0) := h93; omega
                  refine e_Ok.run (t' := (361, [(0, (1, 275)), (1, (0, a)), (2, (0, 36 * a + 16)), (3, (0, 1)), (4, (0, y4)), (5, (0, y5)), (6, (0, y6))], [(1, 275), (0, a), (0, 8), (1, 275)], w90)) 4 rfl ?_
                  refine e_Ok.getr (z := 276) rfl rfl rfl rfl (by rw [← hw90]; exact (e_up_ne _ _ (Or.inl (by omega))).trans ((j84 275 0 (by unfold mVS; omega)).trans (e_Has.eq hT rfl))) (by omega) ?_
                  refine e_Ok.run (t' := (367, [(0, (1, 275)), (1, (0, a)), (2, (0, 36 * a + 16)), (3, (0, 1)), (4, (0, y4)), (5, (0, y5)), (6, (0, y6))], [(0, 8), (0, 36 * a + 16), (1, 276), (0, a), (0, 8), (1, 275)], w90)) 2 rfl ?_
                  refine e_Ok.add (z := 36 * a + 24) rfl (by omega) (by omega) ?_
                  refine e_Ok.ald (z := z89) rfl rfl rfl (by omega) (by rw [← hw90]; exact e_up_eq _ _ _ _) (by omega) ?_
                  have e98 : w90 276 5 = w 276 5 := (by rw [← hw90]; exact (e_up_ne _ _ (Or.inr (by omega))).trans ((j84 276 5 (by unfold mVS; omega)).trans rfl))
                  refine e_Ok.callV rfl (by omega) rfl rfl rfl rfl (c_319 hT92 (by omega) (by omega) (by omega) (by omega)) (fun r95 w96 h97 => ?_)
                  obtain ⟨rfl, q99, q99T, q99n⟩ := h97
                  have f100 : e_fr (mGn a) w w96 := e_fr.trans f91 (e_fr.mono q99 (fun c k q => by unfold mE at q; unfold mGn mG1 mNw; omega))
                  show e_Ok 20 elay ecode eI (d + 1) 388 (372, [(0, (1, 275)), (1, (0, a)), (2, (0, 36 * a + 16)), (3, (0, 1)), (4, (0, y4)), (5, (0, y5)), (6, (0, y6))], [], w96) _
                  refine e_Ok.run (t' := (375, [(0, (1, 275)), (1, (0, a)), (2, (0, 36 * a + 16)), (3, (0, 1)), (4, (0, y4)), (5, (0, y5)), (6, (0, y6))], [(1, 275), (0, 1), (1, 275)], w96)) 3 rfl ?_
                  refine e_Ok.getr (z := 276) rfl rfl rfl rfl ((q99 275 0 (by unfold mE; omega)).trans (by rw [← hw90]; exact (e_up_ne _ _ (Or.inl (by omega))).trans ((j84 275 0 (by unfold mVS; omega)).trans (e_Has.eq hT rfl)))) (by omega) ?_
                  refine e_Ok.run (t' := (381, [(0, (1, 275)), (1, (0, a)), (2, (0, 36 * a + 16)), (3, (0, 1)), (4, (0, y4)), (5, (0, y5)), (6, (0, y6))], [(0, 8), (0, 36 * a + 16), (1, 276), (0, 1), (1, 275)], w96)) 2 rfl ?_
                  refine e_Ok.add (z := 36 * a + 24) rfl (by omega) (by omega) ?_
                  refine e_Ok.ald (z := z89) rfl rfl rfl (by omega) ((q99 276 (36 * a + 24) (by unfold mE; omega)).trans (by rw [← hw90]; exact e_up_eq _ _ _ _)) (by omega) ?_
                  refine e_Ok.run (t' := (384, [(0, (1, 275)), (1, (0, a)), (2, (0, 36 * a + 16)), (3, (0, 1)), (4, (0, y4)), (5, (0, y5)), (6, (0, y6))], [(1, 275), (0, z89), (0, 1), (1, 275)], w96)) 1 rfl ?_
                  refine e_Ok.getr (z := 276) rfl rfl rfl rfl ((q99 275 0 (by unfold mE; omega)).trans (by rw [← hw90]; exact (e_up_ne _ _ (Or.inl (by omega))).trans ((j84 275 0 (by unfold mVS; omega)).trans (e_Has.eq hT rfl)))) (by omega) ?_
                  refine e_Ok.run (t' := (390, [(0, (1, 275)), (1, (0, a)), (2, (0, 36 * a + 16)), (3, (0, 1)), (4, (0, y4)), (5, (0, y5)), (6, (0, y6))], [(0, 11), (0, 36 * a + 16), (1, 276), (0, z89), (0, 1), (1, 275)], w96)) 2 rfl ?_
                  refine e_Ok.add (z := 36 * a + 27) rfl (by omega) (by omega) ?_
                  have h101 := (e_Has.get hT (c := 276) (k := 36 * a + 27) (lo := (-2147483648)) (hi := 2147483647) (nR_FEWEST (a := a) (by omega)) (by decide))
                  refine e_Ok.ald (z := w 276 (36 * a + 27)) rfl rfl rfl (by omega) ((q99 276 (36 * a + 27) (by unfold mE; omega)).trans (by rw [← hw90]; exact (e_up_ne _ _ (Or.inr (by omega))).trans ((j84 276 (36 * a + 27) (by unfold mVS; omega)).trans rfl))) (by omega) ?_
                  refine e_Ok.run (t' := (393, [(0, (1, 275)), (1, (0, a)), (2, (0, 36 * a + 16)), (3, (0, 1)), (4, (0, y4)), (5, (0, y5)), (6, (0, y6))], [(0, 1), (0, w 276 (36 * a + 27)), (0, z89), (0, 1), (1, 275)], w96)) 1 rfl ?_
                  refine e_Ok.any rfl (eF_add_any _ _) (fun z102 z102a z102b => ?_)
                  refine e_Ok.if2 rfl (fun h103 => ?_) (fun h103 => ?_)
                  · replace h103 : (z89 : Int) = z102 := h103
                    refine e_Ok.run (t' := (402, [(0, (1, 275)), (1, (0, a)), (2, (0, 36 * a + 16)), (3, (0, 1)), (4, (0, y4)), (5, (0, y5)), (6, (0, y6))], [(0, 0), (0, 1), (1, 275)], w96)) 1 rfl ?_
                    refine e_Ok.callV rfl (by omega) rfl rfl rfl rfl (c_389 q99T (by omega)) (fun r104 w105 h106 => ?_)
                    obtain ⟨rfl, q107, q107T⟩ := h106
                    have f108 : e_fr (mGn a) w w105 := e_fr.trans f100 (e_fr.mono q107 (fun c k q => by unfold mTl at q; unfold mGn mG1 mNw; omega))
                    show e_Ok 20 elay ecode eI (d + 1) 388 (405, [(0, (1, 275)), (1, (0, a)), (2, (0, 36 * a + 16)), (3, (0, 1)), (4, (0, y4)), (5, (0, y5)), (6, (0, y6))], [], w105) _
                    refine e_Ok.run (t' := (406, [(0, (1, 275)), (1, (0, a)), (2, (0, 36 * a + 16)), (3, (0, 1)), (4, (0, y4)), (5, (0, y5)), (6, (0, y6))], [(1, 275)], w105)) 1 rfl ?_
                    refine e_Ok.getr (z := 276) rfl rfl rfl rfl ((q107 275 0 (by unfold mTl; omega)).trans ((q99 275 0 (by unfold mE; omega)).trans (by rw [← hw90]; exact (e_up_ne _ _ (Or.inl (by omega))).trans ((j84 275 0 (by unfold mVS; omega)).trans (e_Has.eq hT rfl))))) (by omega) ?_
                    refine e_Ok.run (t' := (411, [(0, (1, 275)), (1, (0, a)), (2, (0, 36 * a + 16)), (3, (0, 1)), (4, (0, y4)), (5, (0, y5)), (6, (0, y6))], [(0, 0), (0, 36 * a + 16), (1, 276)], w105)) 2 rfl ?_
                    refine e_Ok.add (z := 36 * a + 16) rfl (by omega) (by omega) ?_
                    refine e_Ok.run (t' := (413, [(0, (1, 275)), (1, (0, a)), (2, (0, 36 * a + 16)), (3, (0, 1)), (4, (0, y4)), (5, (0, y5)), (6, (0, y6))], [(0, 0), (0, 36 * a + 16), (1, 276)], w105)) 1 rfl ?_
                    refine e_Ok.ast rfl rfl rfl rfl (by omega) ?_
                    generalize hw109 : e_up w105 276 (36 * a + 16) 0 = w109
                    have f110 : e_fr (mGn a) w w109 := e_fr.up f108 hw109 (by unfold mGn mG1 mNw; omega)
                    have hT111 : e_Has mTy w109 := e_Has.upr q107T hw109 (nR_STATE (a := a) (by omega)) (by omega)
                    refine e_Ok.run (t' := (415, [(0, (1, 275)), (1, (0, a)), (2, (0, 36 * a + 16)), (3, (0, 1)), (4, (0, y4)), (5, (0, y5)), (6, (0, y6))], [(1, 275)], w109)) 1 rfl ?_
                    refine e_Ok.getr (z := 276) rfl rfl rfl rfl (by rw [← hw109]; exact (e_up_ne _ _ (Or.inl (by omega))).trans ((q107 275 0 (by unfold mTl; omega)).trans ((q99 275 0 (by unfold mE; omega)).trans (by rw [← hw90]; exact (e_up_ne _ _ (Or.inl (by omega))).trans ((j84 275 0 (by unfold mVS; omega)).trans (e_Has.eq hT rfl)))))) (by omega) ?_
                    refine e_Ok.run (t' := (421, [(0, (1, 275)), (1, (0, a)), (2, (0, 36 * a + 16)), (3, (0, 1)), (4, (0, y4)), (5, (0, y5)), (6, (0, y6))], [(0, 9), (0, 36 * a + 16), (1, 276)], w109)) 2 rfl ?_
                    refine e_Ok.add (z := 36 * a + 25) rfl (by omega) (by omega) ?_
                    refine e_Ok.run (t' := (423, [(0, (1, 275)), (1, (0, a)), (2, (0, 36 * a + 16)), (3, (0, 1)), (4, (0, y4)), (5, (0, y5)), (6, (0, y6))], [(0, (-1)), (0, 36 * a + 25), (1, 276)], w109)) 1 rfl ?_
                    refine e_Ok.ast rfl rfl rfl rfl (by omega) ?_
                    generalize hw112 : e_up w109 276 (36 * a + 25) (-1) = w112
                    have f113 : e_fr (mGn a) w w112 := e_fr.up f110 hw112 (by unfold mGn mG1 mNw; omega)
                    have hT114 : e_Has mTy w112 := e_Has.upr hT111 hw112 (nR_MOVER (a := a) (by omega)) (by omega)
                    refine e_Ok.run (t' := (426, [(0, (1, 275)), (1, (0, a)), (2, (0, 36 * a + 16)), (3, (0, 1)), (4, (0, y4)), (5, (0, y5)), (6, (0, y6))], [(0, a), (1, 275)], w112)) 2 rfl ?_
                    have e118 : w112 276 5 = w96 276 5 := (by rw [← hw112]; exact (e_up_ne _ _ (Or.inr (by omega))).trans (by rw [← hw109]; exact (e_up_ne _ _ (Or.inr (by omega))).trans ((q107 276 5 (by unfold mTl; omega)).trans rfl)))
                    have hG : e_fr (mG1 a) w w112 := (e_fr.up (e_fr.up (e_fr.trans (e_fr.trans (e_fr.up (e_fr.mono j84 (fun c k q => by unfold mVS at q; unfold mG1; omega)) hw90 (by unfold mG1; omega)) (e_fr.mono q99 (fun c k q => by unfold mE at q; unfold mG1; omega))) (e_fr.mono q107 (fun c k q => by unfold mTl at q; unfold mG1; omega))) hw109 (by unfold mG1; omega)) hw112 (by unfold mG1; omega))
                    have eV : ∀ j, 0 ≤ j → j < w 286 a → w112 276 (36 * a + j + 32) = v1 276 (36 * a + j + 32) := fun j g1 g2 => (by rw [← hw112]; exact (e_up_ne _ _ (Or.inr (by omega))).trans (by rw [← hw109]; exact (e_up_ne _ _ (Or.inr (by omega))).trans ((q107 276 (36 * a + j + 32) (by unfold mTl; omega)).trans ((q99 276 (36 * a + j + 32) (by unfold mE; omega)).trans (by rw [← hw90]; exact (e_up_ne _ _ (Or.inr (by omega))).trans rfl)))))
                    have eS : ∀ j, 0 ≤ j → j < w 286 a → w112 276 (36 * a + j + 38) = v1 276 (36 * a + j + 38) := fun j g1 g2 => (by rw [← hw112]; exact (e_up_ne _ _ (Or.inr (by omega))).trans (by rw [← hw109]; exact (e_up_ne _ _ (Or.inr (by omega))).trans ((q107 276 (36 * a + j + 38) (by unfold mTl; omega)).trans ((q99 276 (36 * a + j + 38) (by unfold mE; omega)).trans (by rw [← hw90]; exact (e_up_ne _ _ (Or.inr (by omega))).trans rfl)))))
                    have eT : w112 276 (36 * a + 16) = 0 := (by rw [← hw112]; exact (e_up_ne _ _ (Or.inr (by omega))).trans (by rw [← hw109]; exact e_up_eq _ _ _ _))
                    have hwt : mMo w112 a := mMo.went hMo (Or.inr rfl) (e_Has.mo hT) ha (by omega) (fun c k q q2 => hG c k (moK_g1 ha q q2)) (fun b g1 g2 g3 => ⟨hG 276 _ (by unfold mG1; omega), hG 276 _ (by unfold mG1; omega)⟩) (hG 276 _ (by unfold mG1; omega)) (fun j g1 g2 => by unfold moJ; rw [eT, eV j g1 g2, eS j g1 g2, hG 276 (36 * a + j + 44) (by unfold mG1; omega), hG 288 _ (by unfold mG1; omega), hG 289 _ (by unfold mG1; omega), hG 291 _ (by unfold mG1; omega)]; exact joOk.halt (j80 j g1 (by omega)) (j83 (by omega) j g1 (by omega)).1) (fun e => Or.inl ⟨rfl, fun j g1 g2 => Eq.trans (eV j g1 g2) ((j83 (by omega) j g1 (by omega)).2 e)⟩) (Or.inr ⟨fun b g1 g2 => (by rw [← hw112]; exact (e_up_ne _ _ (Or.inr (by omega))).trans (by rw [← hw109]; exact (e_up_ne _ _ (Or.inr (by omega))).trans ((q107 276 (36 * b + 20) (by unfold mTl; omega)).trans ((q99 276 (36 * b + 20) (by unfold mE; omega)).trans (by rw [← hw90]; exact (e_up_ne _ _ (Or.inr (by omega))).trans ((j84 276 (36 * b + 20) (by unfold mVS; omega)).trans rfl)))))), fun j g1 g2 => Eq.trans (eV j g1 g2) (j82 (by omega) j g1 (by omega)).1⟩) (fun b g1 g2 => Or.inr (by rw [← hw112]; exact (e_up_ne _ _ (Or.inr (by omega))).trans (by rw [← hw109]; exact (e_up_ne _ _ (Or.inr (by omega))).trans ((q107 276 (36 * b + 20) (by unfold mTl; omega)).trans ((q99 276 (36 * b + 20) (by unfold mE; omega)).trans (by rw [← hw90]; exact (e_up_ne _ _ (Or.inr (by omega))).trans ((j84 276 (36 * b + 20) (by unfold mVS; omega)).trans rfl)))))))
                    refine e_Ok.callV rfl (by omega) rfl rfl rfl rfl (c_391 (by omega) hT114 (mCf.fr hCf (fun c k q => (by rw [← hw112]; exact (e_up_ne _ _ (Or.inl (by omega))).trans (by rw [← hw109]; exact (e_up_ne _ _ (Or.inl (by omega))).trans ((q107 c k (by unfold mTl; omega)).trans ((q99 c k (by unfold mE; omega)).trans (by rw [← hw90]; exact (e_up_ne _ _ (Or.inl (by omega))).trans ((j84 c k (by unfold mVS; omega)).trans rfl)))))))) ha hwt eT (Eq.trans (hG 276 1 (by unfold mG1; omega)) hPw)) (fun r115 w116 h117 => ?_)
                    obtain ⟨rfl, q119, q119T, q119m⟩ := h117
                    have f120 : e_fr (mGn a) w w116 := e_fr.trans f113 (e_fr.mono q119 (fun c k q => by exact Or.inr q))
                    show e_Ok 20 elay ecode eI (d + 1) 388 (429, [(0, (1, 275)), (1, (0, a)), (2, (0, 36 * a + 16)), (3, (0, 1)), (4, (0, y4)), (5, (0, y5)), (6, (0, y6))], [], w116) _
                    refine e_Ok.rets rfl rfl ?_
                    have e121 : w116 276 5 = w96 276 5 := ((q119 276 5 (by unfold mNw; omega)).trans (by rw [← hw112]; exact (e_up_ne _ _ (Or.inr (by omega))).trans (by rw [← hw109]; exact (e_up_ne _ _ (Or.inr (by omega))).trans ((q107 276 5 (by unfold mTl; omega)).trans rfl))))
                    exact ⟨rfl, f120, q119T, by omega, q119m⟩
                  · replace h103 : (z89 : Int) ≠ z102 := by have q : ¬ ((z89 : Int) = z102) := h103; omega
                    refine e_Ok.run (t' := (402, [(0, (1, 275)), (1, (0, a)), (2, (0, 36 * a + 16)), (3, (0, 1)), (4, (0, y4)), (5, (0, y5)), (6, (0, y6))], [(0, 1), (0, 1), (1, 275)], w96)) 2 rfl ?_
                    refine e_Ok.callV rfl (by omega) rfl rfl rfl rfl (c_389 q99T (by omega)) (fun r122 w123 h124 => ?_)
                    obtain ⟨rfl, q125, q125T⟩ := h124
                    have f126 : e_fr (mGn a) w w123 := e_fr.trans f100 (e_fr.mono q125 (fun c k q => by unfold mTl at q; unfold mGn mG1 mNw; omega))
                    show e_Ok 20 elay ecode eI (d + 1) 388 (405, [(0, (1, 275)), (1, (0, a)), (2, (0, 36 * a + 16)), (3, (0, 1)), (4, (0, y4)), (5, (0, y5)), (6, (0, y6))], [], w123) _
                    refine e_Ok.run (t' := (406, [(0, (1, 275)), (1, (0, a)), (2, (0, 36 * a + 16)), (3, (0, 1)), (4, (0, y4)), (5, (0, y5)), (6, (0, y6))], [(1, 275)], w123)) 1 rfl ?_
                    refine e_Ok.getr (z := 276) rfl rfl rfl rfl ((q125 275 0 (by unfold mTl; omega)).trans ((q99 275 0 (by unfold mE; omega)).trans (by rw [← hw90]; exact (e_up_ne _ _ (Or.inl (by omega))).trans ((j84 275 0 (by unfold mVS; omega)).trans (e_Has.eq hT rfl))))) (by omega) ?_
                    refine e_Ok.run (t' := (411, [(0, (1, 275)), (1, (0, a)), (2, (0, 36 * a + 16)), (3, (0, 1)), (4, (0, y4)), (5, (0, y5)), (6, (0, y6))], [(0, 0), (0, 36 * a + 16), (1, 276)], w123)) 2 rfl ?_
                    refine e_Ok.add (z := 36 * a + 16) rfl (by omega) (by omega) ?_
                    refine e_Ok.run (t' := (413, [(0, (1, 275)), (1, (0, a)), (2, (0, 36 * a + 16)), (3, (0, 1)), (4, (0, y4)), (5, (0, y5)), (6, (0, y6))], [(0, 0), (0, 36 * a + 16), (1, 276)], w123)) 1 rfl ?_
                    refine e_Ok.ast rfl rfl rfl rfl (by omega) ?_
                    generalize hw127 : e_up w123 276 (36 * a + 16) 0 = w127
                    have f128 : e_fr (mGn a) w w127 := e_fr.up f126 hw127 (by unfold mGn mG1 mNw; omega)
                    have hT129 : e_Has mTy w127 := e_Has.upr q125T hw127 (nR_STATE (a := a) (by omega)) (by omega)
                    refine e_Ok.run (t' := (415, [(0, (1, 275)), (1, (0, a)), (2, (0, 36 * a + 16)), (3, (0, 1)), (4, (0, y4)), (5, (0, y5)), (6, (0, y6))], [(1, 275)], w127)) 1 rfl ?_
                    refine e_Ok.getr (z := 276) rfl rfl rfl rfl (by rw [← hw127]; exact (e_up_ne _ _ (Or.inl (by omega))).trans ((q125 275 0 (by unfold mTl; omega)).trans ((q99 275 0 (by unfold mE; omega)).trans (by rw [← hw90]; exact (e_up_ne _ _ (Or.inl (by omega))).trans ((j84 275 0 (by unfold mVS; omega)).trans (e_Has.eq hT rfl)))))) (by omega) ?_
                    refine e_Ok.run (t' := (421, [(0, (1, 275)), (1, (0, a)), (2, (0, 36 * a + 16)), (3, (0, 1)), (4, (0, y4)), (5, (0, y5)), (6, (0, y6))], [(0, 9), (0, 36 * a + 16), (1, 276)], w127)) 2 rfl ?_
                    refine e_Ok.add (z := 36 * a + 25) rfl (by omega) (by omega) ?_
                    refine e_Ok.run (t' := (423, [(0, (1, 275)), (1, (0, a)), (2, (0, 36 * a + 16)), (3, (0, 1)), (4, (0, y4)), (5, (0, y5)), (6, (0, y6))], [(0, (-1)), (0, 36 * a + 25), (1, 276)], w127)) 1 rfl ?_
                    refine e_Ok.ast rfl rfl rfl rfl (by omega) ?_
                    generalize hw130 : e_up w127 276 (36 * a + 25) (-1) = w130
                    have f131 : e_fr (mGn a) w w130 := e_fr.up f128 hw130 (by unfold mGn mG1 mNw; omega)
                    have hT132 : e_Has mTy w130 := e_Has.upr hT129 hw130 (nR_MOVER (a := a) (by omega)) (by omega)
                    refine e_Ok.run (t' := (426, [(0, (1, 275)), (1, (0, a)), (2, (0, 36 * a + 16)), (3, (0, 1)), (4, (0, y4)), (5, (0, y5)), (6, (0, y6))], [(0, a), (1, 275)], w130)) 2 rfl ?_
                    have e136 : w130 276 5 = w96 276 5 := (by rw [← hw130]; exact (e_up_ne _ _ (Or.inr (by omega))).trans (by rw [← hw127]; exact (e_up_ne _ _ (Or.inr (by omega))).trans ((q125 276 5 (by unfold mTl; omega)).trans rfl)))
                    have hG : e_fr (mG1 a) w w130 := (e_fr.up (e_fr.up (e_fr.trans (e_fr.trans (e_fr.up (e_fr.mono j84 (fun c k q => by unfold mVS at q; unfold mG1; omega)) hw90 (by unfold mG1; omega)) (e_fr.mono q99 (fun c k q => by unfold mE at q; unfold mG1; omega))) (e_fr.mono q125 (fun c k q => by unfold mTl at q; unfold mG1; omega))) hw127 (by unfold mG1; omega)) hw130 (by unfold mG1; omega))
                    have eV : ∀ j, 0 ≤ j → j < w 286 a → w130 276 (36 * a + j + 32) = v1 276 (36 * a + j + 32) := fun j g1 g2 => (by rw [← hw130]; exact (e_up_ne _ _ (Or.inr (by omega))).trans (by rw [← hw127]; exact (e_up_ne _ _ (Or.inr (by omega))).trans ((q125 276 (36 * a + j + 32) (by unfold mTl; omega)).trans ((q99 276 (36 * a + j + 32) (by unfold mE; omega)).trans (by rw [← hw90]; exact (e_up_ne _ _ (Or.inr (by omega))).trans rfl)))))
                    have eS : ∀ j, 0 ≤ j → j < w 286 a → w130 276 (36 * a + j + 38) = v1 276 (36 * a + j + 38) := fun j g1 g2 => (by rw [← hw130]; exact (e_up_ne _ _ (Or.inr (by omega))).trans (by rw [← hw127]; exact (e_up_ne _ _ (Or.inr (by omega))).trans ((q125 276 (36 * a + j + 38) (by unfold mTl; omega)).trans ((q99 276 (36 * a + j + 38) (by unfold mE; omega)).trans (by rw [← hw90]; exact (e_up_ne _ _ (Or.inr (by omega))).trans rfl)))))
                    have eT : w130 276 (36 * a + 16) = 0 := (by rw [← hw130]; exact (e_up_ne _ _ (Or.inr (by omega))).trans (by rw [← hw127]; exact e_up_eq _ _ _ _))
                    have hwt : mMo w130 a := mMo.went hMo (Or.inr rfl) (e_Has.mo hT) ha (by omega) (fun c k q q2 => hG c k (moK_g1 ha q q2)) (fun b g1 g2 g3 => ⟨hG 276 _ (by unfold mG1; omega), hG 276 _ (by unfold mG1; omega)⟩) (hG 276 _ (by unfold mG1; omega)) (fun j g1 g2 => by unfold moJ; rw [eT, eV j g1 g2, eS j g1 g2, hG 276 (36 * a + j + 44) (by unfold mG1; omega), hG 288 _ (by unfold mG1; omega), hG 289 _ (by unfold mG1; omega), hG 291 _ (by unfold mG1; omega)]; exact joOk.halt (j80 j g1 (by omega)) (j83 (by omega) j g1 (by omega)).1) (fun e => Or.inl ⟨rfl, fun j g1 g2 => Eq.trans (eV j g1 g2) ((j83 (by omega) j g1 (by omega)).2 e)⟩) (Or.inr ⟨fun b g1 g2 => (by rw [← hw130]; exact (e_up_ne _ _ (Or.inr (by omega))).trans (by rw [← hw127]; exact (e_up_ne _ _ (Or.inr (by omega))).trans ((q125 276 (36 * b + 20) (by unfold mTl; omega)).trans ((q99 276 (36 * b + 20) (by unfold mE; omega)).trans (by rw [← hw90]; exact (e_up_ne _ _ (Or.inr (by omega))).trans ((j84 276 (36 * b + 20) (by unfold mVS; omega)).trans rfl)))))), fun j g1 g2 => Eq.trans (eV j g1 g2) (j82 (by omega) j g1 (by omega)).1⟩) (fun b g1 g2 => Or.inr (by rw [← hw130]; exact (e_up_ne _ _ (Or.inr (by omega))).trans (by rw [← hw127]; exact (e_up_ne _ _ (Or.inr (by omega))).trans ((q125 276 (36 * b + 20) (by unfold mTl; omega)).trans ((q99 276 (36 * b + 20) (by unfold mE; omega)).trans (by rw [← hw90]; exact (e_up_ne _ _ (Or.inr (by omega))).trans ((j84 276 (36 * b + 20) (by unfold mVS; omega)).trans rfl)))))))
                    refine e_Ok.callV rfl (by omega) rfl rfl rfl rfl (c_391 (by omega) hT132 (mCf.fr hCf (fun c k q => (by rw [← hw130]; exact (e_up_ne _ _ (Or.inl (by omega))).trans (by rw [← hw127]; exact (e_up_ne _ _ (Or.inl (by omega))).trans ((q125 c k (by unfold mTl; omega)).trans ((q99 c k (by unfold mE; omega)).trans (by rw [← hw90]; exact (e_up_ne _ _ (Or.inl (by omega))).trans ((j84 c k (by unfold mVS; omega)).trans rfl)))))))) ha hwt eT (Eq.trans (hG 276 1 (by unfold mG1; omega)) hPw)) (fun r133 w134 h135 => ?_)
                    obtain ⟨rfl, q137, q137T, q137m⟩ := h135
                    have f138 : e_fr (mGn a) w w134 := e_fr.trans f131 (e_fr.mono q137 (fun c k q => by exact Or.inr q))
                    show e_Ok 20 elay ecode eI (d + 1) 388 (429, [(0, (1, 275)), (1, (0, a)), (2, (0, 36 * a + 16)), (3, (0, 1)), (4, (0, y4)), (5, (0, y5)), (6, (0, y6))], [], w134) _
                    refine e_Ok.rets rfl rfl ?_
                    have e139 : w134 276 5 = w96 276 5 := ((q137 276 5 (by unfold mNw; omega)).trans (by rw [← hw130]; exact (e_up_ne _ _ (Or.inr (by omega))).trans (by rw [← hw127]; exact (e_up_ne _ _ (Or.inr (by omega))).trans ((q125 276 5 (by unfold mTl; omega)).trans rfl))))
                    exact ⟨rfl, f138, q137T, by omega, q137m⟩
              · replace h87 : (1 : Int) = 0 := by have q : ¬ ((1 : Int) ≠ 0) := h87; omega
                exfalso; omega
            · replace h86 : (y5 : Int) ≠ 0 := by have q : ¬ ((y5 : Int) = 0) := h86; omega
              refine e_Ok.run (t' := (312, [(0, (1, 275)), (1, (0, a)), (2, (0, 36 * a + 16)), (3, (0, 1)), (4, (0, y4)), (5, (0, y5)), (6, (0, y6))], [(0, a), (1, 275)], v1)) 2 rfl ?_
              refine e_Ok.callV rfl (by omega) rfl rfl rfl rfl (c_390 (by omega) j78) (fun r140 w141 h142 => ?_)
              obtain ⟨rfl, q143, q143T, q143a, q143b⟩ := h142
              have f144 : e_fr (mGn a) w w141 := e_fr.trans j77 (e_fr.mono q143 (fun c k q => by unfold mSt at q; unfold mGn mG1 mNw; omega))
              show e_Ok 20 elay ecode eI (d + 1) 388 (315, [(0, (1, 275)), (1, (0, a)), (2, (0, 36 * a + 16)), (3, (0, 1)), (4, (0, y4)), (5, (0, y5)), (6, (0, y6))], [], w141) _
              refine e_Ok.run (t' := (316, [(0, (1, 275)), (1, (0, a)), (2, (0, 36 * a + 16)), (3, (0, 1)), (4, (0, y4)), (5, (0, y5)), (6, (0, y6))], [(0, 1)], w141)) 1 rfl ?_
              refine e_Ok.if1 rfl (fun h145 => ?_) (fun h145 => ?_)
              · replace h145 : (1 : Int) ≠ 0 := h145
                refine e_Ok.run (t' := (339, [(0, (1, 275)), (1, (0, a)), (2, (0, 36 * a + 16)), (3, (0, 1)), (4, (0, y4)), (5, (0, y5)), (6, (0, y6))], [(1, 275)], w141)) 1 rfl ?_
                refine e_Ok.getr (z := 276) rfl rfl rfl rfl ((q143 275 0 (by unfold mSt; omega)).trans ((j84 275 0 (by unfold mVS; omega)).trans (e_Has.eq hT rfl))) (by omega) ?_
                refine e_Ok.run (t' := (345, [(0, (1, 275)), (1, (0, a)), (2, (0, 36 * a + 16)), (3, (0, 1)), (4, (0, y4)), (5, (0, y5)), (6, (0, y6))], [(0, 8), (0, 36 * a + 16), (1, 276)], w141)) 2 rfl ?_
                refine e_Ok.add (z := 36 * a + 24) rfl (by omega) (by omega) ?_
                refine e_Ok.run (t' := (347, [(0, (1, 275)), (1, (0, a)), (2, (0, 36 * a + 16)), (3, (0, 1)), (4, (0, y4)), (5, (0, y5)), (6, (0, y6))], [(0, 36 * a + 24), (1, 276), (0, 36 * a + 24), (1, 276)], w141)) 1 rfl ?_
                have h146 := (e_Has.get hT (c := 276) (k := 36 * a + 24) (lo := (-2147483648)) (hi := 2147483647) (nR_TICKS (a := a) (by omega)) (by decide))
                refine e_Ok.ald (z := w 276 (36 * a + 24)) rfl rfl rfl (by omega) ((q143 276 (36 * a + 24) (by unfold mSt; omega)).trans ((j84 276 (36 * a + 24) (by unfold mVS; omega)).trans rfl)) (by omega) ?_
                refine e_Ok.run (t' := (349, [(0, (1, 275)), (1, (0, a)), (2, (0, 36 * a + 16)), (3, (0, 1)), (4, (0, y4)), (5, (0, y5)), (6, (0, y6))], [(0, 1), (0, w 276 (36 * a + 24)), (0, 36 * a + 24), (1, 276)], w141)) 1 rfl ?_
                refine e_Ok.any rfl (eF_add_any _ _) (fun z147 z147a z147b => ?_)
                refine e_Ok.ast rfl rfl rfl rfl (by omega) ?_
                generalize hw148 : e_up w141 276 (36 * a + 24) z147 = w148
                have f149 : e_fr (mGn a) w w148 := e_fr.up f144 hw148 (by unfold mGn mG1 mNw; omega)
                have hT150 : e_Has mTy w148 := e_Has.upr q143T hw148 (nR_TICKS (a := a) (by omega)) (by omega)
                refine e_Ok.run (t' := (353, [(0, (1, 275)), (1, (0, a)), (2, (0, 36 * a + 16)), (3, (0, 1)), (4, (0, y4)), (5, (0, y5)), (6, (0, y6))], [(0, y4)], w148)) 1 rfl ?_
                refine e_Ok.if1 rfl (fun h151 => ?_) (fun h151 => ?_)
                · replace h151 : (y4 : Int) = 0 := h151
                  refine e_Ok.rets rfl rfl ?_
                  have e152 : w148 276 5 = w 276 5 := (by rw [← hw148]; exact (e_up_ne _ _ (Or.inr (by omega))).trans ((q143 276 5 (by unfold mSt; omega)).trans ((j84 276 5 (by unfold mVS; omega)).trans rfl)))
                  have hG : e_fr (mG1 a) w w148 := (e_fr.up (e_fr.trans (e_fr.mono j84 (fun c k q => by unfold mVS at q; unfold mG1; omega)) (e_fr.mono q143 (fun c k q => by unfold mSt at q; unfold mG1; omega))) hw148 (by unfold mG1; omega))
                  have eV : ∀ j, 0 ≤ j → j < w 286 a → w148 276 (36 * a + j + 32) = v1 276 (36 * a + j + 32) := fun j g1 g2 => (by rw [← hw148]; exact (e_up_ne _ _ (Or.inr (by omega))).trans ((q143 276 (36 * a + j + 32) (by unfold mSt; omega)).trans rfl))
                  have eS : ∀ j, 0 ≤ j → j < w 286 a → w148 276 (36 * a + j + 38) = v1 276 (36 * a + j + 38) := fun j g1 g2 => (by rw [← hw148]; exact (e_up_ne _ _ (Or.inr (by omega))).trans ((q143 276 (36 * a + j + 38) (by unfold mSt; omega)).trans rfl))
                  have eT : w148 276 (36 * a + 16) = w 276 (36 * a + 16) := (by rw [← hw148]; exact (e_up_ne _ _ (Or.inr (by omega))).trans ((q143 276 (36 * a + 16) (by unfold mSt; omega)).trans ((j84 276 (36 * a + 16) (by unfold mVS; omega)).trans rfl)))
                  have hwt : mMo w148 (-1) := mMo.went hMo (Or.inl rfl) (e_Has.mo hT) ha (by omega) (fun c k q q2 => hG c k (moK_g1 ha q q2)) (fun b g1 g2 g3 => ⟨hG 276 _ (by unfold mG1; omega), hG 276 _ (by unfold mG1; omega)⟩) (hG 276 _ (by unfold mG1; omega)) (fun j g1 g2 => by unfold moJ; rw [show w148 276 (36 * a + 16) = w 276 (36 * a + 16) by omega, eV j g1 g2, eS j g1 g2, hG 276 (36 * a + j + 44) (by unfold mG1; omega), hG 288 _ (by unfold mG1; omega), hG 289 _ (by unfold mG1; omega), hG 291 _ (by unfold mG1; omega)]; exact j80 j g1 (by omega)) (fun _ => Or.inr ⟨rfl, by omega⟩) (Or.inl (fun b g1 g2 => Eq.trans (by rw [← hw148]; exact (e_up_ne _ _ (Or.inr (by omega))).trans rfl) (q143a b g1 (by have q0 : v1 275 10 = w 275 10 := ((j84 275 10 (by unfold mVS; omega)).trans rfl); omega)))) (fun b g1 g2 => by have e := q143b b g1 g2; rw [show v1 276 (36 * b + 20) = w 276 (36 * b + 20) from ((j84 276 (36 * b + 20) (by unfold mVS; omega)).trans rfl)] at e; rw [show w148 276 (36 * b + 20) = w141 276 (36 * b + 20) from (by rw [← hw148]; exact (e_up_ne _ _ (Or.inr (by omega))).trans rfl)]; exact e)
                  exact ⟨rfl, f149, hT150, by omega, hwt⟩
                · replace h151 : (y4 : Int) ≠ 0 := by have q : ¬ ((y4 : Int) = 0) := h151; omega
                  refine e_Ok.run (t' := (361, [(0, (1, 275)), (1, (0, a)), (2, (0, 36 * a + 16)), (3, (0, 1)), (4, (0, y4)), (5, (0, y5)), (6, (0, y6))], [(1, 275), (0, a), (0, 8), (1, 275)], w148)) 4 rfl ?_
                  refine e_Ok.getr (z := 276) rfl rfl rfl rfl (by rw [← hw148]; exact (e_up_ne _ _ (Or.inl (by omega))).trans ((q143 275 0 (by unfold mSt; omega)).trans ((j84 275 0 (by unfold mVS; omega)).trans (e_Has.eq hT rfl)))) (by omega) ?_
                  refine e_Ok.run (t' := (367, [(0, (1, 275)), (1, (0, a)), (2, (0, 36 * a + 16)), (3, (0, 1)), (4, (0, y4)), (5, (0, y5)), (6, (0, y6))], [(0, 8), (0, 36 * a + 16), (1, 276), (0, a), (0, 8), (1, 275)], w148)) 2 rfl ?_
                  refine e_Ok.add (z := 36 * a + 24) rfl (by omega) (by omega) ?_
                  refine e_Ok.ald (z := z147) rfl rfl rfl (by omega) (by rw [← hw148]; exact e_up_eq _ _ _ _) (by omega) ?_
                  have e156 : w148 276 5 = w 276 5 := (by rw [← hw148]; exact (e_up_ne _ _ (Or.inr (by omega))).trans ((q143 276 5 (by unfold mSt; omega)).trans ((j84 276 5 (by unfold mVS; omega)).trans rfl)))
                  refine e_Ok.callV rfl (by omega) rfl rfl rfl rfl (c_319 hT150 (by omega) (by omega) (by omega) (by omega)) (fun r153 w154 h155 => ?_)
                  obtain ⟨rfl, q157, q157T, q157n⟩ := h155
                  have f158 : e_fr (mGn a) w w154 := e_fr.trans f149 (e_fr.mono q157 (fun c k q => by unfold mE at q; unfold mGn mG1 mNw; omega))
                  show e_Ok 20 elay ecode eI (d + 1) 388 (372, [(0, (1, 275)), (1, (0, a)), (2, (0, 36 * a + 16)), (3, (0, 1)), (4, (0, y4)), (5, (0, y5)), (6, (0, y6))], [], w154) _
                  refine e_Ok.run (t' := (375, [(0, (1, 275)), (1, (0, a)), (2, (0, 36 * a + 16)), (3, (0, 1)), (4, (0, y4)), (5, (0, y5)), (6, (0, y6))], [(1, 275), (0, 1), (1, 275)], w154)) 3 rfl ?_
                  refine e_Ok.getr (z := 276) rfl rfl rfl rfl ((q157 275 0 (by unfold mE; omega)).trans (by rw [← hw148]; exact (e_up_ne _ _ (Or.inl (by omega))).trans ((q143 275 0 (by unfold mSt; omega)).trans ((j84 275 0 (by unfold mVS; omega)).trans (e_Has.eq hT rfl))))) (by omega) ?_
                  refine e_Ok.run (t' := (381, [(0, (1, 275)), (1, (0, a)), (2, (0, 36 * a + 16)), (3, (0, 1)), (4, (0, y4)), (5, (0, y5)), (6, (0, y6))], [(0, 8), (0, 36 * a + 16), (1, 276), (0, 1), (1, 275)], w154)) 2 rfl ?_
                  refine e_Ok.add (z := 36 * a + 24) rfl (by omega) (by omega) ?_
                  refine e_Ok.ald (z := z147) rfl rfl rfl (by omega) ((q157 276 (36 * a + 24) (by unfold mE; omega)).trans (by rw [← hw148]; exact e_up_eq _ _ _ _)) (by omega) ?_
                  refine e_Ok.run (t' := (384, [(0, (1, 275)), (1, (0, a)), (2, (0, 36 * a + 16)), (3, (0, 1)), (4, (0, y4)), (5, (0, y5)), (6, (0, y6))], [(1, 275), (0, z147), (0, 1), (1, 275)], w154)) 1 rfl ?_
                  refine e_Ok.getr (z := 276) rfl rfl rfl rfl ((q157 275 0 (by unfold mE; omega)).trans (by rw [← hw148]; exact (e_up_ne _ _ (Or.inl (by omega))).trans ((q143 275 0 (by unfold mSt; omega)).trans ((j84 275 0 (by unfold mVS; omega)).trans (e_Has.eq hT rfl))))) (by omega) ?_
                  refine e_Ok.run (t' := (390, [(0, (1, 275)), (1, (0, a)), (2, (0, 36 * a + 16)), (3, (0, 1)), (4, (0, y4)), (5, (0, y5)), (6, (0, y6))], [(0, 11), (0, 36 * a + 16), (1, 276), (0, z147), (0, 1), (1, 275)], w154)) 2 rfl ?_
                  refine e_Ok.add (z := 36 * a + 27) rfl (by omega) (by omega) ?_
                  have h159 := (e_Has.get hT (c := 276) (k := 36 * a + 27) (lo := (-2147483648)) (hi := 2147483647) (nR_FEWEST (a := a) (by omega)) (by decide))
                  refine e_Ok.ald (z := w 276 (36 * a + 27)) rfl rfl rfl (by omega) ((q157 276 (36 * a + 27) (by unfold mE; omega)).trans (by rw [← hw148]; exact (e_up_ne _ _ (Or.inr (by omega))).trans ((q143 276 (36 * a + 27) (by unfold mSt; omega)).trans ((j84 276 (36 * a + 27) (by unfold mVS; omega)).trans rfl)))) (by omega) ?_
                  refine e_Ok.run (t' := (393, [(0, (1, 275)), (1, (0, a)), (2, (0, 36 * a + 16)), (3, (0, 1)), (4, (0, y4)), (5, (0, y5)), (6, (0, y6))], [(0, 1), (0, w 276 (36 * a + 27)), (0, z147), (0, 1), (1, 275)], w154)) 1 rfl ?_
                  refine e_Ok.any rfl (eF_add_any _ _) (fun z160 z160a z160b => ?_)
                  refine e_Ok.if2 rfl (fun h161 => ?_) (fun h161 => ?_)
                  · replace h161 : (z147 : Int) = z160 := h161
                    refine e_Ok.run (t' := (402, [(0, (1, 275)), (1, (0, a)), (2, (0, 36 * a + 16)), (3, (0, 1)), (4, (0, y4)), (5, (0, y5)), (6, (0, y6))], [(0, 0), (0, 1), (1, 275)], w154)) 1 rfl ?_
                    refine e_Ok.callV rfl (by omega) rfl rfl rfl rfl (c_389 q157T (by omega)) (fun r162 w163 h164 => ?_)
                    obtain ⟨rfl, q165, q165T⟩ := h164
                    have f166 : e_fr (mGn a) w w163 := e_fr.trans f158 (e_fr.mono q165 (fun c k q => by unfold mTl at q; unfold mGn mG1 mNw; omega))
                    show e_Ok 20 elay ecode eI (d + 1) 388 (405, [(0, (1, 275)), (1, (0, a)), (2, (0, 36 * a + 16)), (3, (0, 1)), (4, (0, y4)), (5, (0, y5)), (6, (0, y6))], [], w163) _
                    refine e_Ok.run (t' := (406, [(0, (1, 275)), (1, (0, a)), (2, (0, 36 * a + 16)), (3, (0, 1)), (4, (0, y4)), (5, (0, y5)), (6, (0, y6))], [(1, 275)], w163)) 1 rfl ?_
                    refine e_Ok.getr (z := 276) rfl rfl rfl rfl ((q165 275 0 (by unfold mTl; omega)).trans ((q157 275 0 (by unfold mE; omega)).trans (by rw [← hw148]; exact (e_up_ne _ _ (Or.inl (by omega))).trans ((q143 275 0 (by unfold mSt; omega)).trans ((j84 275 0 (by unfold mVS; omega)).trans (e_Has.eq hT rfl)))))) (by omega) ?_
                    refine e_Ok.run (t' := (411, [(0, (1, 275)), (1, (0, a)), (2, (0, 36 * a + 16)), (3, (0, 1)), (4, (0, y4)), (5, (0, y5)), (6, (0, y6))], [(0, 0), (0, 36 * a + 16), (1, 276)], w163)) 2 rfl ?_
                    refine e_Ok.add (z := 36 * a + 16) rfl (by omega) (by omega) ?_
                    refine e_Ok.run (t' := (413, [(0, (1, 275)), (1, (0, a)), (2, (0, 36 * a + 16)), (3, (0, 1)), (4, (0, y4)), (5, (0, y5)), (6, (0, y6))], [(0, 0), (0, 36 * a + 16), (1, 276)], w163)) 1 rfl ?_
                    refine e_Ok.ast rfl rfl rfl rfl (by omega) ?_
                    generalize hw167 : e_up w163 276 (36 * a + 16) 0 = w167
                    have f168 : e_fr (mGn a) w w167 := e_fr.up f166 hw167 (by unfold mGn mG1 mNw; omega)
                    have hT169 : e_Has mTy w167 := e_Has.upr q165T hw167 (nR_STATE (a := a) (by omega)) (by omega)
                    refine e_Ok.run (t' := (415, [(0, (1, 275)), (1, (0, a)), (2, (0, 36 * a + 16)), (3, (0, 1)), (4, (0, y4)), (5, (0, y5)), (6, (0, y6))], [(1, 275)], w167)) 1 rfl ?_
                    refine e_Ok.getr (z := 276) rfl rfl rfl rfl (by rw [← hw167]; exact (e_up_ne _ _ (Or.inl (by omega))).trans ((q165 275 0 (by unfold mTl; omega)).trans ((q157 275 0 (by unfold mE; omega)).trans (by rw [← hw148]; exact (e_up_ne _ _ (Or.inl (by omega))).trans ((q143 275 0 (by unfold mSt; omega)).trans ((j84 275 0 (by unfold mVS; omega)).trans (e_Has.eq hT rfl))))))) (by omega) ?_
                    refine e_Ok.run (t' := (421, [(0, (1, 275)), (1, (0, a)), (2, (0, 36 * a + 16)), (3, (0, 1)), (4, (0, y4)), (5, (0, y5)), (6, (0, y6))], [(0, 9), (0, 36 * a + 16), (1, 276)], w167)) 2 rfl ?_
                    refine e_Ok.add (z := 36 * a + 25) rfl (by omega) (by omega) ?_
                    refine e_Ok.run (t' := (423, [(0, (1, 275)), (1, (0, a)), (2, (0, 36 * a + 16)), (3, (0, 1)), (4, (0, y4)), (5, (0, y5)), (6, (0, y6))], [(0, (-1)), (0, 36 * a + 25), (1, 276)], w167)) 1 rfl ?_
                    refine e_Ok.ast rfl rfl rfl rfl (by omega) ?_
                    generalize hw170 : e_up w167 276 (36 * a + 25) (-1) = w170
                    have f171 : e_fr (mGn a) w w170 := e_fr.up f168 hw170 (by unfold mGn mG1 mNw; omega)
                    have hT172 : e_Has mTy w170 := e_Has.upr hT169 hw170 (nR_MOVER (a := a) (by omega)) (by omega)
                    refine e_Ok.run (t' := (426, [(0, (1, 275)), (1, (0, a)), (2, (0, 36 * a + 16)), (3, (0, 1)), (4, (0, y4)), (5, (0, y5)), (6, (0, y6))], [(0, a), (1, 275)], w170)) 2 rfl ?_
                    have e176 : w170 276 5 = w154 276 5 := (by rw [← hw170]; exact (e_up_ne _ _ (Or.inr (by omega))).trans (by rw [← hw167]; exact (e_up_ne _ _ (Or.inr (by omega))).trans ((q165 276 5 (by unfold mTl; omega)).trans rfl)))
                    have hG : e_fr (mG1 a) w w170 := (e_fr.up (e_fr.up (e_fr.trans (e_fr.trans (e_fr.up (e_fr.trans (e_fr.mono j84 (fun c k q => by unfold mVS at q; unfold mG1; omega)) (e_fr.mono q143 (fun c k q => by unfold mSt at q; unfold mG1; omega))) hw148 (by unfold mG1; omega)) (e_fr.mono q157 (fun c k q => by unfold mE at q; unfold mG1; omega))) (e_fr.mono q165 (fun c k q => by unfold mTl at q; unfold mG1; omega))) hw167 (by unfold mG1; omega)) hw170 (by unfold mG1; omega))
                    have eV : ∀ j, 0 ≤ j → j < w 286 a → w170 276 (36 * a + j + 32) = v1 276 (36 * a + j + 32) := fun j g1 g2 => (by rw [← hw170]; exact (e_up_ne _ _ (Or.inr (by omega))).trans (by rw [← hw167]; exact (e_up_ne _ _ (Or.inr (by omega))).trans ((q165 276 (36 * a + j + 32) (by unfold mTl; omega)).trans ((q157 276 (36 * a + j + 32) (by unfold mE; omega)).trans (by rw [← hw148]; exact (e_up_ne _ _ (Or.inr (by omega))).trans ((q143 276 (36 * a + j + 32) (by unfold mSt; omega)).trans rfl))))))
                    have eS : ∀ j, 0 ≤ j → j < w 286 a → w170 276 (36 * a + j + 38) = v1 276 (36 * a + j + 38) := fun j g1 g2 => (by rw [← hw170]; exact (e_up_ne _ _ (Or.inr (by omega))).trans (by rw [← hw167]; exact (e_up_ne _ _ (Or.inr (by omega))).trans ((q165 276 (36 * a + j + 38) (by unfold mTl; omega)).trans ((q157 276 (36 * a + j + 38) (by unfold mE; omega)).trans (by rw [← hw148]; exact (e_up_ne _ _ (Or.inr (by omega))).trans ((q143 276 (36 * a + j + 38) (by unfold mSt; omega)).trans rfl))))))
                    have eT : w170 276 (36 * a + 16) = 0 := (by rw [← hw170]; exact (e_up_ne _ _ (Or.inr (by omega))).trans (by rw [← hw167]; exact e_up_eq _ _ _ _))
                    have hwt : mMo w170 a := mMo.went hMo (Or.inr rfl) (e_Has.mo hT) ha (by omega) (fun c k q q2 => hG c k (moK_g1 ha q q2)) (fun b g1 g2 g3 => ⟨hG 276 _ (by unfold mG1; omega), hG 276 _ (by unfold mG1; omega)⟩) (hG 276 _ (by unfold mG1; omega)) (fun j g1 g2 => by unfold moJ; rw [eT, eV j g1 g2, eS j g1 g2, hG 276 (36 * a + j + 44) (by unfold mG1; omega), hG 288 _ (by unfold mG1; omega), hG 289 _ (by unfold mG1; omega), hG 291 _ (by unfold mG1; omega)]; exact joOk.halt (j80 j g1 (by omega)) (j83 (by omega) j g1 (by omega)).1) (fun e => Or.inl ⟨rfl, fun j g1 g2 => Eq.trans (eV j g1 g2) ((j83 (by omega) j g1 (by omega)).2 e)⟩) (Or.inl (fun b g1 g2 => Eq.trans (by rw [← hw170]; exact (e_up_ne _ _ (Or.inr (by omega))).trans (by rw [← hw167]; exact (e_up_ne _ _ (Or.inr (by omega))).trans ((q165 276 (36 * b + 20) (by unfold mTl; omega)).trans ((q157 276 (36 * b + 20) (by unfold mE; omega)).trans (by rw [← hw148]; exact (e_up_ne _ _ (Or.inr (by omega))).trans rfl))))) (q143a b g1 (by have q0 : v1 275 10 = w 275 10 := ((j84 275 10 (by unfold mVS; omega)).trans rfl); omega)))) (fun b g1 g2 => by have e := q143b b g1 g2; rw [show v1 276 (36 * b + 20) = w 276 (36 * b + 20) from ((j84 276 (36 * b + 20) (by unfold mVS; omega)).trans rfl)] at e; rw [show w170 276 (36 * b + 20) = w141 276 (36 * b + 20) from (by rw [← hw170]; exact (e_up_ne _ _ (Or.inr (by omega))).trans (by rw [← hw167]; exact (e_up_ne _ _ (Or.inr (by omega))).trans ((q165 276 (36 * b + 20) (by unfold mTl; omega)).trans ((q157 276 (36 * b + 20) (by unfold mE; omega)).trans (by rw [← hw148]; exact (e_up_ne _ _ (Or.inr (by omega))).trans rfl)))))]; exact e)
                    refine e_Ok.callV rfl (by omega) rfl rfl rfl rfl (c_391 (by omega) hT172 (mCf.fr hCf (fun c k q => (by rw [← hw170]; exact (e_up_ne _ _ (Or.inl (by omega))).trans (by rw [← hw167]; exact (e_up_ne _ _ (Or.inl (by omega))).trans ((q165 c k (by unfold mTl; omega)).trans ((q157 c k (by unfold mE; omega)).trans (by rw [← hw148]; exact (e_up_ne _ _ (Or.inl (by omega))).trans ((q143 c k (by unfold mSt; omega)).trans ((j84 c k (by unfold mVS; omega)).trans rfl))))))))) ha hwt eT (Eq.trans (hG 276 1 (by unfold mG1; omega)) hPw)) (fun r173 w174 h175 => ?_)
                    obtain ⟨rfl, q177, q177T, q177m⟩ := h175
                    have f178 : e_fr (mGn a) w w174 := e_fr.trans f171 (e_fr.mono q177 (fun c k q => by exact Or.inr q))
                    show e_Ok 20 elay ecode eI (d + 1) 388 (429, [(0, (1, 275)), (1, (0, a)), (2, (0, 36 * a + 16)), (3, (0, 1)), (4, (0, y4)), (5, (0, y5)), (6, (0, y6))], [], w174) _
                    refine e_Ok.rets rfl rfl ?_
                    have e179 : w174 276 5 = w154 276 5 := ((q177 276 5 (by unfold mNw; omega)).trans (by rw [← hw170]; exact (e_up_ne _ _ (Or.inr (by omega))).trans (by rw [← hw167]; exact (e_up_ne _ _ (Or.inr (by omega))).trans ((q165 276 5 (by unfold mTl; omega)).trans rfl))))
                    exact ⟨rfl, f178, q177T, by omega, q177m⟩
                  · replace h161 : (z147 : Int) ≠ z160 := by have q : ¬ ((z147 : Int) = z160) := h161; omega
                    refine e_Ok.run (t' := (402, [(0, (1, 275)), (1, (0, a)), (2, (0, 36 * a + 16)), (3, (0, 1)), (4, (0, y4)), (5, (0, y5)), (6, (0, y6))], [(0, 1), (0, 1), (1, 275)], w154)) 2 rfl ?_
                    refine e_Ok.callV rfl (by omega) rfl rfl rfl rfl (c_389 q157T (by omega)) (fun r180 w181 h182 => ?_)
                    obtain ⟨rfl, q183, q183T⟩ := h182
                    have f184 : e_fr (mGn a) w w181 := e_fr.trans f158 (e_fr.mono q183 (fun c k q => by unfold mTl at q; unfold mGn mG1 mNw; omega))
                    show e_Ok 20 elay ecode eI (d + 1) 388 (405, [(0, (1, 275)), (1, (0, a)), (2, (0, 36 * a + 16)), (3, (0, 1)), (4, (0, y4)), (5, (0, y5)), (6, (0, y6))], [], w181) _
                    refine e_Ok.run (t' := (406, [(0, (1, 275)), (1, (0, a)), (2, (0, 36 * a + 16)), (3, (0, 1)), (4, (0, y4)), (5, (0, y5)), (6, (0, y6))], [(1, 275)], w181)) 1 rfl ?_
                    refine e_Ok.getr (z := 276) rfl rfl rfl rfl ((q183 275 0 (by unfold mTl; omega)).trans ((q157 275 0 (by unfold mE; omega)).trans (by rw [← hw148]; exact (e_up_ne _ _ (Or.inl (by omega))).trans ((q143 275 0 (by unfold mSt; omega)).trans ((j84 275 0 (by unfold mVS; omega)).trans (e_Has.eq hT rfl)))))) (by omega) ?_
                    refine e_Ok.run (t' := (411, [(0, (1, 275)), (1, (0, a)), (2, (0, 36 * a + 16)), (3, (0, 1)), (4, (0, y4)), (5, (0, y5)), (6, (0, y6))], [(0, 0), (0, 36 * a + 16), (1, 276)], w181)) 2 rfl ?_
                    refine e_Ok.add (z := 36 * a + 16) rfl (by omega) (by omega) ?_
                    refine e_Ok.run (t' := (413, [(0, (1, 275)), (1, (0, a)), (2, (0, 36 * a + 16)), (3, (0, 1)), (4, (0, y4)), (5, (0, y5)), (6, (0, y6))], [(0, 0), (0, 36 * a + 16), (1, 276)], w181)) 1 rfl ?_
                    refine e_Ok.ast rfl rfl rfl rfl (by omega) ?_
                    generalize hw185 : e_up w181 276 (36 * a + 16) 0 = w185
                    have f186 : e_fr (mGn a) w w185 := e_fr.up f184 hw185 (by unfold mGn mG1 mNw; omega)
                    have hT187 : e_Has mTy w185 := e_Has.upr q183T hw185 (nR_STATE (a := a) (by omega)) (by omega)
                    refine e_Ok.run (t' := (415, [(0, (1, 275)), (1, (0, a)), (2, (0, 36 * a + 16)), (3, (0, 1)), (4, (0, y4)), (5, (0, y5)), (6, (0, y6))], [(1, 275)], w185)) 1 rfl ?_
                    refine e_Ok.getr (z := 276) rfl rfl rfl rfl (by rw [← hw185]; exact (e_up_ne _ _ (Or.inl (by omega))).trans ((q183 275 0 (by unfold mTl; omega)).trans ((q157 275 0 (by unfold mE; omega)).trans (by rw [← hw148]; exact (e_up_ne _ _ (Or.inl (by omega))).trans ((q143 275 0 (by unfold mSt; omega)).trans ((j84 275 0 (by unfold mVS; omega)).trans (e_Has.eq hT rfl))))))) (by omega) ?_
                    refine e_Ok.run (t' := (421, [(0, (1, 275)), (1, (0, a)), (2, (0, 36 * a + 16)), (3, (0, 1)), (4, (0, y4)), (5, (0, y5)), (6, (0, y6))], [(0, 9), (0, 36 * a + 16), (1, 276)], w185)) 2 rfl ?_
                    refine e_Ok.add (z := 36 * a + 25) rfl (by omega) (by omega) ?_
                    refine e_Ok.run (t' := (423, [(0, (1, 275)), (1, (0, a)), (2, (0, 36 * a + 16)), (3, (0, 1)), (4, (0, y4)), (5, (0, y5)), (6, (0, y6))], [(0, (-1)), (0, 36 * a + 25), (1, 276)], w185)) 1 rfl ?_
                    refine e_Ok.ast rfl rfl rfl rfl (by omega) ?_
                    generalize hw188 : e_up w185 276 (36 * a + 25) (-1) = w188
                    have f189 : e_fr (mGn a) w w188 := e_fr.up f186 hw188 (by unfold mGn mG1 mNw; omega)
                    have hT190 : e_Has mTy w188 := e_Has.upr hT187 hw188 (nR_MOVER (a := a) (by omega)) (by omega)
                    refine e_Ok.run (t' := (426, [(0, (1, 275)), (1, (0, a)), (2, (0, 36 * a + 16)), (3, (0, 1)), (4, (0, y4)), (5, (0, y5)), (6, (0, y6))], [(0, a), (1, 275)], w188)) 2 rfl ?_
                    have e194 : w188 276 5 = w154 276 5 := (by rw [← hw188]; exact (e_up_ne _ _ (Or.inr (by omega))).trans (by rw [← hw185]; exact (e_up_ne _ _ (Or.inr (by omega))).trans ((q183 276 5 (by unfold mTl; omega)).trans rfl)))
                    have hG : e_fr (mG1 a) w w188 := (e_fr.up (e_fr.up (e_fr.trans (e_fr.trans (e_fr.up (e_fr.trans (e_fr.mono j84 (fun c k q => by unfold mVS at q; unfold mG1; omega)) (e_fr.mono q143 (fun c k q => by unfold mSt at q; unfold mG1; omega))) hw148 (by unfold mG1; omega)) (e_fr.mono q157 (fun c k q => by unfold mE at q; unfold mG1; omega))) (e_fr.mono q183 (fun c k q => by unfold mTl at q; unfold mG1; omega))) hw185 (by unfold mG1; omega)) hw188 (by unfold mG1; omega))
                    have eV : ∀ j, 0 ≤ j → j < w 286 a → w188 276 (36 * a + j + 32) = v1 276 (36 * a + j + 32) := fun j g1 g2 => (by rw [← hw188]; exact (e_up_ne _ _ (Or.inr (by omega))).trans (by rw [← hw185]; exact (e_up_ne _ _ (Or.inr (by omega))).trans ((q183 276 (36 * a + j + 32) (by unfold mTl; omega)).trans ((q157 276 (36 * a + j + 32) (by unfold mE; omega)).trans (by rw [← hw148]; exact (e_up_ne _ _ (Or.inr (by omega))).trans ((q143 276 (36 * a + j + 32) (by unfold mSt; omega)).trans rfl))))))
                    have eS : ∀ j, 0 ≤ j → j < w 286 a → w188 276 (36 * a + j + 38) = v1 276 (36 * a + j + 38) := fun j g1 g2 => (by rw [← hw188]; exact (e_up_ne _ _ (Or.inr (by omega))).trans (by rw [← hw185]; exact (e_up_ne _ _ (Or.inr (by omega))).trans ((q183 276 (36 * a + j + 38) (by unfold mTl; omega)).trans ((q157 276 (36 * a + j + 38) (by unfold mE; omega)).trans (by rw [← hw148]; exact (e_up_ne _ _ (Or.inr (by omega))).trans ((q143 276 (36 * a + j + 38) (by unfold mSt; omega)).trans rfl))))))
                    have eT : w188 276 (36 * a + 16) = 0 := (by rw [← hw188]; exact (e_up_ne _ _ (Or.inr (by omega))).trans (by rw [← hw185]; exact e_up_eq _ _ _ _))
                    have hwt : mMo w188 a := mMo.went hMo (Or.inr rfl) (e_Has.mo hT) ha (by omega) (fun c k q q2 => hG c k (moK_g1 ha q q2)) (fun b g1 g2 g3 => ⟨hG 276 _ (by unfold mG1; omega), hG 276 _ (by unfold mG1; omega)⟩) (hG 276 _ (by unfold mG1; omega)) (fun j g1 g2 => by unfold moJ; rw [eT, eV j g1 g2, eS j g1 g2, hG 276 (36 * a + j + 44) (by unfold mG1; omega), hG 288 _ (by unfold mG1; omega), hG 289 _ (by unfold mG1; omega), hG 291 _ (by unfold mG1; omega)]; exact joOk.halt (j80 j g1 (by omega)) (j83 (by omega) j g1 (by omega)).1) (fun e => Or.inl ⟨rfl, fun j g1 g2 => Eq.trans (eV j g1 g2) ((j83 (by omega) j g1 (by omega)).2 e)⟩) (Or.inl (fun b g1 g2 => Eq.trans (by rw [← hw188]; exact (e_up_ne _ _ (Or.inr (by omega))).trans (by rw [← hw185]; exact (e_up_ne _ _ (Or.inr (by omega))).trans ((q183 276 (36 * b + 20) (by unfold mTl; omega)).trans ((q157 276 (36 * b + 20) (by unfold mE; omega)).trans (by rw [← hw148]; exact (e_up_ne _ _ (Or.inr (by omega))).trans rfl))))) (q143a b g1 (by have q0 : v1 275 10 = w 275 10 := ((j84 275 10 (by unfold mVS; omega)).trans rfl); omega)))) (fun b g1 g2 => by have e := q143b b g1 g2; rw [show v1 276 (36 * b + 20) = w 276 (36 * b + 20) from ((j84 276 (36 * b + 20) (by unfold mVS; omega)).trans rfl)] at e; rw [show w188 276 (36 * b + 20) = w141 276 (36 * b + 20) from (by rw [← hw188]; exact (e_up_ne _ _ (Or.inr (by omega))).trans (by rw [← hw185]; exact (e_up_ne _ _ (Or.inr (by omega))).trans ((q183 276 (36 * b + 20) (by unfold mTl; omega)).trans ((q157 276 (36 * b + 20) (by unfold mE; omega)).trans (by rw [← hw148]; exact (e_up_ne _ _ (Or.inr (by omega))).trans rfl)))))]; exact e)
                    refine e_Ok.callV rfl (by omega) rfl rfl rfl rfl (c_391 (by omega) hT190 (mCf.fr hCf (fun c k q => (by rw [← hw188]; exact (e_up_ne _ _ (Or.inl (by omega))).trans (by rw [← hw185]; exact (e_up_ne _ _ (Or.inl (by omega))).trans ((q183 c k (by unfold mTl; omega)).trans ((q157 c k (by unfold mE; omega)).trans (by rw [← hw148]; exact (e_up_ne _ _ (Or.inl (by omega))).trans ((q143 c k (by unfold mSt; omega)).trans ((j84 c k (by unfold mVS; omega)).trans rfl))))))))) ha hwt eT (Eq.trans (hG 276 1 (by unfold mG1; omega)) hPw)) (fun r191 w192 h193 => ?_)
                    obtain ⟨rfl, q195, q195T, q195m⟩ := h193
                    have f196 : e_fr (mGn a) w w192 := e_fr.trans f189 (e_fr.mono q195 (fun c k q => by exact Or.inr q))
                    show e_Ok 20 elay ecode eI (d + 1) 388 (429, [(0, (1, 275)), (1, (0, a)), (2, (0, 36 * a + 16)), (3, (0, 1)), (4, (0, y4)), (5, (0, y5)), (6, (0, y6))], [], w192) _
                    refine e_Ok.rets rfl rfl ?_
                    have e197 : w192 276 5 = w154 276 5 := ((q195 276 5 (by unfold mNw; omega)).trans (by rw [← hw188]; exact (e_up_ne _ _ (Or.inr (by omega))).trans (by rw [← hw185]; exact (e_up_ne _ _ (Or.inr (by omega))).trans ((q183 276 5 (by unfold mTl; omega)).trans rfl))))
                    exact ⟨rfl, f196, q195T, by omega, q195m⟩
              · replace h145 : (1 : Int) = 0 := by have q : ¬ ((1 : Int) ≠ 0) := h145; omega
                exfalso; omega
          · replace h85 : (y6 : Int) < w 286 a := by have q : ¬ ((y6 : Int) ≥ w 286 a) := h85; omega
            have h4 := j81 y6 (by omega) (by omega)
            have hjo := hMo.1 a y6 ha.1 ha.2 (by omega) (by omega)
            unfold moJ at hjo
            have hST : w 276 (36 * a + 16) = 1 := by omega
            rw [hST] at hjo
            have hcf := hCf a y6 ha.1 ha.2 (by omega) (by omega)
            have hnr := joOk.near hcf.2 hjo
            have hb288 := e_Has.get hT (c := 288) (k := 6 * a + y6) (lo := -100000) (hi := 0) rfl (by decide)
            have hb289 := e_Has.get hT (c := 289) (k := 6 * a + y6) (lo := 0) (hi := 100000) rfl (by decide)
            have hb290 := e_Has.get hT (c := 290) (k := 6 * a + y6) (lo := 0) (hi := 2000) rfl (by decide)
            have hb291 := e_Has.get hT (c := 291) (k := 6 * a + y6) (lo := 0) (hi := 2000) rfl (by decide)
            refine e_Ok.run (t' := (56, [(0, (1, 275)), (1, (0, a)), (2, (0, 36 * a + 16)), (3, (0, 1)), (4, (0, y4)), (5, (0, y5)), (6, (0, y6))], [(1, 275)], v1)) 1 rfl ?_
            refine e_Ok.getr (z := 276) rfl rfl rfl rfl ((j84 275 0 (by unfold mVS; omega)).trans (e_Has.eq hT rfl)) (by omega) ?_
            refine e_Ok.run (t' := (62, [(0, (1, 275)), (1, (0, a)), (2, (0, 36 * a + 16)), (3, (0, 1)), (4, (0, y4)), (5, (0, y5)), (6, (0, y6))], [(0, 22), (0, 36 * a + 16), (1, 276)], v1)) 2 rfl ?_
            refine e_Ok.add (z := 36 * a + 38) rfl (by omega) (by omega) ?_
            refine e_Ok.run (t' := (65, [(0, (1, 275)), (1, (0, a)), (2, (0, 36 * a + 16)), (3, (0, 1)), (4, (0, y4)), (5, (0, y5)), (6, (0, y6))], [(0, y6), (0, 36 * a + 38), (1, 276)], v1)) 1 rfl ?_
            refine e_Ok.add (z := 36 * a + y6 + 38) rfl (by omega) (by omega) ?_
            have h198 := (e_Has.get j78 (c := 276) (k := 36 * a + y6 + 38) (lo := (-2000)) (hi := 2000) (nR_STEP (a := a) (j := y6) (by omega) (by omega)) (by decide))
            refine e_Ok.ald (z := v1 276 (36 * a + y6 + 38)) rfl rfl rfl (by omega) rfl (by omega) ?_
            refine e_Ok.run (t' := (70, [(7, (0, v1 276 (36 * a + y6 + 38))), (0, (1, 275)), (1, (0, a)), (2, (0, 36 * a + 16)), (3, (0, 1)), (4, (0, y4)), (5, (0, y5)), (6, (0, y6))], [(0, 1)], v1)) 2 rfl ?_
            refine e_Ok.if1 rfl (fun h199 => ?_) (fun h199 => ?_)
            · replace h199 : (1 : Int) = 0 := h199
              exfalso; omega
            · replace h199 : (1 : Int) ≠ 0 := by have q : ¬ ((1 : Int) = 0) := h199; omega
              refine e_Ok.run (t' := (74, [(7, (0, v1 276 (36 * a + y6 + 38))), (0, (1, 275)), (1, (0, a)), (2, (0, 36 * a + 16)), (3, (0, 1)), (4, (0, y4)), (5, (0, y5)), (6, (0, y6))], [(1, 275)], v1)) 1 rfl ?_
              refine e_Ok.getr (z := 276) rfl rfl rfl rfl ((j84 275 0 (by unfold mVS; omega)).trans (e_Has.eq hT rfl)) (by omega) ?_
              refine e_Ok.run (t' := (80, [(7, (0, v1 276 (36 * a + y6 + 38))), (0, (1, 275)), (1, (0, a)), (2, (0, 36 * a + 16)), (3, (0, 1)), (4, (0, y4)), (5, (0, y5)), (6, (0, y6))], [(0, 28), (0, 36 * a + 16), (1, 276)], v1)) 2 rfl ?_
              refine e_Ok.add (z := 36 * a + 44) rfl (by omega) (by omega) ?_
              refine e_Ok.run (t' := (83, [(7, (0, v1 276 (36 * a + y6 + 38))), (0, (1, 275)), (1, (0, a)), (2, (0, 36 * a + 16)), (3, (0, 1)), (4, (0, y4)), (5, (0, y5)), (6, (0, y6))], [(0, y6), (0, 36 * a + 44), (1, 276)], v1)) 1 rfl ?_
              refine e_Ok.add (z := 36 * a + y6 + 44) rfl (by omega) (by omega) ?_
              have h200 := (e_Has.get hT (c := 276) (k := 36 * a + y6 + 44) (lo := (-100000)) (hi := 100000) (nR_GOAL (a := a) (j := y6) (by omega) (by omega)) (by decide))
              refine e_Ok.ald (z := w 276 (36 * a + y6 + 44)) rfl rfl rfl (by omega) ((j84 276 (36 * a + y6 + 44) (by unfold mVS; omega)).trans rfl) (by omega) ?_
              refine e_Ok.run (t' := (86, [(7, (0, v1 276 (36 * a + y6 + 38))), (0, (1, 275)), (1, (0, a)), (2, (0, 36 * a + 16)), (3, (0, 1)), (4, (0, y4)), (5, (0, y5)), (6, (0, y6))], [(1, 275), (0, w 276 (36 * a + y6 + 44))], v1)) 1 rfl ?_
              refine e_Ok.getr (z := 276) rfl rfl rfl rfl ((j84 275 0 (by unfold mVS; omega)).trans (e_Has.eq hT rfl)) (by omega) ?_
              refine e_Ok.run (t' := (92, [(7, (0, v1 276 (36 * a + y6 + 38))), (0, (1, 275)), (1, (0, a)), (2, (0, 36 * a + 16)), (3, (0, 1)), (4, (0, y4)), (5, (0, y5)), (6, (0, y6))], [(0, 16), (0, 36 * a + 16), (1, 276), (0, w 276 (36 * a + y6 + 44))], v1)) 2 rfl ?_
              refine e_Ok.add (z := 36 * a + 32) rfl (by omega) (by omega) ?_
              refine e_Ok.run (t' := (95, [(7, (0, v1 276 (36 * a + y6 + 38))), (0, (1, 275)), (1, (0, a)), (2, (0, 36 * a + 16)), (3, (0, 1)), (4, (0, y4)), (5, (0, y5)), (6, (0, y6))], [(0, y6), (0, 36 * a + 32), (1, 276), (0, w 276 (36 * a + y6 + 44))], v1)) 1 rfl ?_
              refine e_Ok.add (z := 36 * a + y6 + 32) rfl (by omega) (by omega) ?_
              have h201 := (e_Has.get j78 (c := 276) (k := 36 * a + y6 + 32) (lo := (-100000)) (hi := 100000) (nR_VALUE (a := a) (j := y6) (by omega) (by omega)) (by decide))
              refine e_Ok.ald (z := v1 276 (36 * a + y6 + 32)) rfl rfl rfl (by omega) rfl (by omega) ?_
              refine e_Ok.sub' (z := w 276 (36 * a + y6 + 44) - v1 276 (36 * a + y6 + 32)) rfl (by omega) (by omega) ?_
              refine e_Ok.run (t' := (106, [(8, (0, w 276 (36 * a + y6 + 44) - v1 276 (36 * a + y6 + 32))), (7, (0, v1 276 (36 * a + y6 + 38))), (0, (1, 275)), (1, (0, a)), (2, (0, 36 * a + 16)), (3, (0, 1)), (4, (0, y4)), (5, (0, y5)), (6, (0, y6))], [(0, w 276 (36 * a + y6 + 44) - v1 276 (36 * a + y6 + 32))], v1)) 3 rfl ?_
              refine e_Ok.if1 rfl (fun h202 => ?_) (fun h202 => ?_)
              · replace h202 : (w 276 (36 * a + y6 + 44) - v1 276 (36 * a + y6 + 32) : Int) ≥ 0 := h202
                refine e_Ok.run (t' := (151, [(8, (0, w 276 (36 * a + y6 + 44) - v1 276 (36 * a + y6 + 32))), (7, (0, v1 276 (36 * a + y6 + 38))), (0, (1, 275)), (1, (0, a)), (2, (0, 36 * a + 16)), (3, (0, 1)), (4, (0, y4)), (5, (0, y5)), (6, (0, y6))], [(1, 275), (0, v1 276 (36 * a + y6 + 38)), (0, w 276 (36 * a + y6 + 44) - v1 276 (36 * a + y6 + 32))], v1)) 3 rfl ?_
                refine e_Ok.getr (z := 290) rfl rfl rfl rfl ((j84 275 19 (by unfold mVS; omega)).trans (e_Has.eq hT rfl)) (by omega) ?_
                refine e_Ok.run (t' := (157, [(8, (0, w 276 (36 * a + y6 + 44) - v1 276 (36 * a + y6 + 32))), (7, (0, v1 276 (36 * a + y6 + 38))), (0, (1, 275)), (1, (0, a)), (2, (0, 36 * a + 16)), (3, (0, 1)), (4, (0, y4)), (5, (0, y5)), (6, (0, y6))], [(0, a), (0, 6), (1, 290), (0, v1 276 (36 * a + y6 + 38)), (0, w 276 (36 * a + y6 + 44) - v1 276 (36 * a + y6 + 32))], v1)) 2 rfl ?_
                refine e_Ok.mul (z := 6 * a) rfl (by omega) (by omega) ?_
                refine e_Ok.run (t' := (160, [(8, (0, w 276 (36 * a + y6 + 44) - v1 276 (36 * a + y6 + 32))), (7, (0, v1 276 (36 * a + y6 + 38))), (0, (1, 275)), (1, (0, a)), (2, (0, 36 * a + 16)), (3, (0, 1)), (4, (0, y4)), (5, (0, y5)), (6, (0, y6))], [(0, y6), (0, 6 * a), (1, 290), (0, v1 276 (36 * a + y6 + 38)), (0, w 276 (36 * a + y6 + 44) - v1 276 (36 * a + y6 + 32))], v1)) 1 rfl ?_
                refine e_Ok.add (z := 6 * a + y6) rfl (by omega) (by omega) ?_
                refine e_Ok.ald (z := w 290 (6 * a + y6)) rfl rfl rfl (by omega) ((j84 290 (6 * a + y6) (by unfold mVS; omega)).trans rfl) (by omega) ?_
                refine e_Ok.run (t' := (163, [(8, (0, w 276 (36 * a + y6 + 44) - v1 276 (36 * a + y6 + 32))), (7, (0, v1 276 (36 * a + y6 + 38))), (0, (1, 275)), (1, (0, a)), (2, (0, 36 * a + 16)), (3, (0, 1)), (4, (0, y4)), (5, (0, y5)), (6, (0, y6))], [(1, 275), (0, w 290 (6 * a + y6)), (0, v1 276 (36 * a + y6 + 38)), (0, w 276 (36 * a + y6 + 44) - v1 276 (36 * a + y6 + 32))], v1)) 1 rfl ?_
                refine e_Ok.getr (z := 291) rfl rfl rfl rfl ((j84 275 20 (by unfold mVS; omega)).trans (e_Has.eq hT rfl)) (by omega) ?_
                refine e_Ok.run (t' := (169, [(8, (0, w 276 (36 * a + y6 + 44) - v1 276 (36 * a + y6 + 32))), (7, (0, v1 276 (36 * a + y6 + 38))), (0, (1, 275)), (1, (0, a)), (2, (0, 36 * a + 16)), (3, (0, 1)), (4, (0, y4)), (5, (0, y5)), (6, (0, y6))], [(0, a), (0, 6), (1, 291), (0, w 290 (6 * a + y6)), (0, v1 276 (36 * a + y6 + 38)), (0, w 276 (36 * a + y6 + 44) - v1 276 (36 * a + y6 + 32))], v1)) 2 rfl ?_
                refine e_Ok.mul (z := 6 * a) rfl (by omega) (by omega) ?_
                refine e_Ok.run (t' := (172, [(8, (0, w 276 (36 * a + y6 + 44) - v1 276 (36 * a + y6 + 32))), (7, (0, v1 276 (36 * a + y6 + 38))), (0, (1, 275)), (1, (0, a)), (2, (0, 36 * a + 16)), (3, (0, 1)), (4, (0, y4)), (5, (0, y5)), (6, (0, y6))], [(0, y6), (0, 6 * a), (1, 291), (0, w 290 (6 * a + y6)), (0, v1 276 (36 * a + y6 + 38)), (0, w 276 (36 * a + y6 + 44) - v1 276 (36 * a + y6 + 32))], v1)) 1 rfl ?_
                refine e_Ok.add (z := 6 * a + y6) rfl (by omega) (by omega) ?_
                refine e_Ok.ald (z := w 291 (6 * a + y6)) rfl rfl rfl (by omega) ((j84 291 (6 * a + y6) (by unfold mVS; omega)).trans rfl) (by omega) ?_
                refine e_Ok.callS rfl (by omega) rfl rfl (c_386 (by omega) (by omega) (by omega) (by omega)) (fun r203 w204 h205 => ?_)
                obtain ⟨z206, rfl, rfl, q207⟩ := h205
                show e_Ok 20 elay ecode eI (d + 1) 388 (177, [(8, (0, w 276 (36 * a + y6 + 44) - v1 276 (36 * a + y6 + 32))), (7, (0, v1 276 (36 * a + y6 + 38))), (0, (1, 275)), (1, (0, a)), (2, (0, 36 * a + 16)), (3, (0, 1)), (4, (0, y4)), (5, (0, y5)), (6, (0, y6))], [(0, z206)], v1) _
                refine e_Ok.run (t' := (180, [(9, (0, z206)), (8, (0, w 276 (36 * a + y6 + 44) - v1 276 (36 * a + y6 + 32))), (7, (0, v1 276 (36 * a + y6 + 38))), (0, (1, 275)), (1, (0, a)), (2, (0, 36 * a + 16)), (3, (0, 1)), (4, (0, y4)), (5, (0, y5)), (6, (0, y6))], [(0, 1)], v1)) 2 rfl ?_
                refine e_Ok.if1 rfl (fun h208 => ?_) (fun h208 => ?_)
                · replace h208 : (1 : Int) = 0 := h208
                  exfalso; omega
                · replace h208 : (1 : Int) ≠ 0 := by have q : ¬ ((1 : Int) = 0) := h208; omega
                  refine e_Ok.run (t' := (207, [(9, (0, z206)), (8, (0, w 276 (36 * a + y6 + 44) - v1 276 (36 * a + y6 + 32))), (7, (0, v1 276 (36 * a + y6 + 38))), (0, (1, 275)), (1, (0, a)), (2, (0, 36 * a + 16)), (3, (0, 1)), (4, (0, y4)), (5, (0, y5)), (6, (0, y6))], [], v1)) 3 rfl ?_
                  have hjn : joOk (w 276 (36 * a + 16)) (w 276 (36 * a + y6 + 32) + z206) z206 (w 276 (36 * a + y6 + 44)) (w 288 (6 * a + y6)) (w 289 (6 * a + y6)) (w 291 (6 * a + y6)) := by rw [hST]; exact joOk.go1 hcf.2 hjo (Or.inl ⟨by omega, by omega⟩)
                  have hjl := hjn.1
                  refine e_Ok.run (t' := (208, [(9, (0, z206)), (8, (0, w 276 (36 * a + y6 + 44) - v1 276 (36 * a + y6 + 32))), (7, (0, v1 276 (36 * a + y6 + 38))), (0, (1, 275)), (1, (0, a)), (2, (0, 36 * a + 16)), (3, (0, 1)), (4, (0, y4)), (5, (0, y5)), (6, (0, y6))], [(1, 275)], v1)) 1 rfl ?_
                  refine e_Ok.getr (z := 276) rfl rfl rfl rfl ((j84 275 0 (by unfold mVS; omega)).trans (e_Has.eq hT rfl)) (by omega) ?_
                  refine e_Ok.run (t' := (214, [(9, (0, z206)), (8, (0, w 276 (36 * a + y6 + 44) - v1 276 (36 * a + y6 + 32))), (7, (0, v1 276 (36 * a + y6 + 38))), (0, (1, 275)), (1, (0, a)), (2, (0, 36 * a + 16)), (3, (0, 1)), (4, (0, y4)), (5, (0, y5)), (6, (0, y6))], [(0, 22), (0, 36 * a + 16), (1, 276)], v1)) 2 rfl ?_
                  refine e_Ok.add (z := 36 * a + 38) rfl (by omega) (by omega) ?_
                  refine e_Ok.run (t' := (217, [(9, (0, z206)), (8, (0, w 276 (36 * a + y6 + 44) - v1 276 (36 * a + y6 + 32))), (7, (0, v1 276 (36 * a + y6 + 38))), (0, (1, 275)), (1, (0, a)), (2, (0, 36 * a + 16)), (3, (0, 1)), (4, (0, y4)), (5, (0, y5)), (6, (0, y6))], [(0, y6), (0, 36 * a + 38), (1, 276)], v1)) 1 rfl ?_
                  refine e_Ok.add (z := 36 * a + y6 + 38) rfl (by omega) (by omega) ?_
                  refine e_Ok.run (t' := (220, [(9, (0, z206)), (8, (0, w 276 (36 * a + y6 + 44) - v1 276 (36 * a + y6 + 32))), (7, (0, v1 276 (36 * a + y6 + 38))), (0, (1, 275)), (1, (0, a)), (2, (0, 36 * a + 16)), (3, (0, 1)), (4, (0, y4)), (5, (0, y5)), (6, (0, y6))], [(0, z206), (0, 36 * a + y6 + 38), (1, 276)], v1)) 1 rfl ?_
                  refine e_Ok.ast rfl rfl rfl rfl (by omega) ?_
                  generalize hw209 : e_up v1 276 (36 * a + y6 + 38) z206 = w209
                  have f210 : e_fr (mGn a) w w209 := e_fr.up j77 hw209 (by unfold mGn mG1 mNw; omega)
                  have hT211 : e_Has mTy w209 := e_Has.upr j78 hw209 (nR_STEP (a := a) (j := y6) (by omega) (by omega)) (by omega)
                  refine e_Ok.run (t' := (222, [(9, (0, z206)), (8, (0, w 276 (36 * a + y6 + 44) - v1 276 (36 * a + y6 + 32))), (7, (0, v1 276 (36 * a + y6 + 38))), (0, (1, 275)), (1, (0, a)), (2, (0, 36 * a + 16)), (3, (0, 1)), (4, (0, y4)), (5, (0, y5)), (6, (0, y6))], [(1, 275)], w209)) 1 rfl ?_
                  refine e_Ok.getr (z := 276) rfl rfl rfl rfl (by rw [← hw209]; exact (e_up_ne _ _ (Or.inl (by omega))).trans ((j84 275 0 (by unfold mVS; omega)).trans (e_Has.eq hT rfl))) (by omega) ?_
                  refine e_Ok.run (t' := (228, [(9, (0, z206)), (8, (0, w 276 (36 * a + y6 + 44) - v1 276 (36 * a + y6 + 32))), (7, (0, v1 276 (36 * a + y6 + 38))), (0, (1, 275)), (1, (0, a)), (2, (0, 36 * a + 16)), (3, (0, 1)), (4, (0, y4)), (5, (0, y5)), (6, (0, y6))], [(0, 16), (0, 36 * a + 16), (1, 276)], w209)) 2 rfl ?_
                  refine e_Ok.add (z := 36 * a + 32) rfl (by omega) (by omega) ?_
                  refine e_Ok.run (t' := (231, [(9, (0, z206)), (8, (0, w 276 (36 * a + y6 + 44) - v1 276 (36 * a + y6 + 32))), (7, (0, v1 276 (36 * a + y6 + 38))), (0, (1, 275)), (1, (0, a)), (2, (0, 36 * a + 16)), (3, (0, 1)), (4, (0, y4)), (5, (0, y5)), (6, (0, y6))], [(0, y6), (0, 36 * a + 32), (1, 276)], w209)) 1 rfl ?_
                  refine e_Ok.add (z := 36 * a + y6 + 32) rfl (by omega) (by omega) ?_
                  refine e_Ok.run (t' := (233, [(9, (0, z206)), (8, (0, w 276 (36 * a + y6 + 44) - v1 276 (36 * a + y6 + 32))), (7, (0, v1 276 (36 * a + y6 + 38))), (0, (1, 275)), (1, (0, a)), (2, (0, 36 * a + 16)), (3, (0, 1)), (4, (0, y4)), (5, (0, y5)), (6, (0, y6))], [(0, 36 * a + y6 + 32), (1, 276), (0, 36 * a + y6 + 32), (1, 276)], w209)) 1 rfl ?_
                  refine e_Ok.ald (z := v1 276 (36 * a + y6 + 32)) rfl rfl rfl (by omega) (by rw [← hw209]; exact (e_up_ne _ _ (Or.inr (by omega))).trans rfl) (by omega) ?_
                  refine e_Ok.run (t' := (236, [(9, (0, z206)), (8, (0, w 276 (36 * a + y6 + 44) - v1 276 (36 * a + y6 + 32))), (7, (0, v1 276 (36 * a + y6 + 38))), (0, (1, 275)), (1, (0, a)), (2, (0, 36 * a + 16)), (3, (0, 1)), (4, (0, y4)), (5, (0, y5)), (6, (0, y6))], [(0, z206), (0, v1 276 (36 * a + y6 + 32)), (0, 36 * a + y6 + 32), (1, 276)], w209)) 1 rfl ?_
                  refine e_Ok.add (z := v1 276 (36 * a + y6 + 32) + z206) rfl (by omega) (by omega) ?_
                  refine e_Ok.ast rfl rfl rfl rfl (by omega) ?_
                  generalize hw212 : e_up w209 276 (36 * a + y6 + 32) (v1 276 (36 * a + y6 + 32) + z206) = w212
                  have f213 : e_fr (mGn a) w w212 := e_fr.up f210 hw212 (by unfold mGn mG1 mNw; omega)
                  have hT214 : e_Has mTy w212 := e_Has.upr hT211 hw212 (nR_VALUE (a := a) (j := y6) (by omega) (by omega)) (by omega)
                  refine e_Ok.run (t' := (242, [(9, (0, z206)), (8, (0, w 276 (36 * a + y6 + 44) - v1 276 (36 * a + y6 + 32))), (7, (0, v1 276 (36 * a + y6 + 38))), (0, (1, 275)), (1, (0, a)), (2, (0, 36 * a + 16)), (3, (0, 1)), (4, (0, y4)), (5, (0, y5)), (6, (0, y6))], [(0, z206), (0, y5)], w212)) 2 rfl ?_
                  refine e_Ok.if1 rfl (fun h215 => ?_) (fun h215 => ?_)
                  · replace h215 : (z206 : Int) = 0 := h215
                    refine e_Ok.run (t' := (250, [(9, (0, z206)), (8, (0, w 276 (36 * a + y6 + 44) - v1 276 (36 * a + y6 + 32))), (7, (0, v1 276 (36 * a + y6 + 38))), (0, (1, 275)), (1, (0, a)), (2, (0, 36 * a + 16)), (3, (0, 1)), (4, (0, y4)), (5, (0, y5)), (6, (0, y6))], [(0, 0), (0, y5)], w212)) 1 rfl ?_
                    refine e_Ok.or01 (by omega) (by omega) (fun z216 hz216 => ?_) rfl
                    replace hz216 : (0 ≤ z216 ∧ z216 ≤ 1) ∧ (z216 = 0 ↔ (y5 = 0 ∧ 0 = 0)) := hz216
                    refine e_Ok.run (t' := (257, [(5, (0, z216)), (9, (0, z206)), (8, (0, w 276 (36 * a + y6 + 44) - v1 276 (36 * a + y6 + 32))), (7, (0, v1 276 (36 * a + y6 + 38))), (0, (1, 275)), (1, (0, a)), (2, (0, 36 * a + 16)), (3, (0, 1)), (4, (0, y4)), (6, (0, y6))], [(0, z206), (0, y4)], w212)) 3 rfl ?_
                    refine e_Ok.if1 rfl (fun h217 => ?_) (fun h217 => ?_)
                    · replace h217 : (z206 : Int) ≠ 0 := h217
                      exfalso; omega
                    · replace h217 : (z206 : Int) = 0 := by have q : ¬ ((z206 : Int) ≠ 0) := h217; omega
                      refine e_Ok.run (t' := (261, [(5, (0, z216)), (9, (0, z206)), (8, (0, w 276 (36 * a + y6 + 44) - v1 276 (36 * a + y6 + 32))), (7, (0, v1 276 (36 * a + y6 + 38))), (0, (1, 275)), (1, (0, a)), (2, (0, 36 * a + 16)), (3, (0, 1)), (4, (0, y4)), (6, (0, y6))], [(0, 1), (0, y4)], w212)) 1 rfl ?_
                      refine e_Ok.if1 rfl (fun h218 => ?_) (fun h218 => ?_)
                      · replace h218 : (1 : Int) = 0 := h218
                        exfalso; omega
                      · replace h218 : (1 : Int) ≠ 0 := by have q : ¬ ((1 : Int) = 0) := h218; omega
                        refine e_Ok.run (t' := (265, [(5, (0, z216)), (9, (0, z206)), (8, (0, w 276 (36 * a + y6 + 44) - v1 276 (36 * a + y6 + 32))), (7, (0, v1 276 (36 * a + y6 + 38))), (0, (1, 275)), (1, (0, a)), (2, (0, 36 * a + 16)), (3, (0, 1)), (4, (0, y4)), (6, (0, y6))], [(1, 275), (0, y4)], w212)) 1 rfl ?_
                        refine e_Ok.getr (z := 276) rfl rfl rfl rfl (by rw [← hw212]; exact (e_up_ne _ _ (Or.inl (by omega))).trans (by rw [← hw209]; exact (e_up_ne _ _ (Or.inl (by omega))).trans ((j84 275 0 (by unfold mVS; omega)).trans (e_Has.eq hT rfl)))) (by omega) ?_
                        refine e_Ok.run (t' := (271, [(5, (0, z216)), (9, (0, z206)), (8, (0, w 276 (36 * a + y6 + 44) - v1 276 (36 * a + y6 + 32))), (7, (0, v1 276 (36 * a + y6 + 38))), (0, (1, 275)), (1, (0, a)), (2, (0, 36 * a + 16)), (3, (0, 1)), (4, (0, y4)), (6, (0, y6))], [(0, 28), (0, 36 * a + 16), (1, 276), (0, y4)], w212)) 2 rfl ?_
                        refine e_Ok.add (z := 36 * a + 44) rfl (by omega) (by omega) ?_
                        refine e_Ok.run (t' := (274, [(5, (0, z216)), (9, (0, z206)), (8, (0, w 276 (36 * a + y6 + 44) - v1 276 (36 * a + y6 + 32))), (7, (0, v1 276 (36 * a + y6 + 38))), (0, (1, 275)), (1, (0, a)), (2, (0, 36 * a + 16)), (3, (0, 1)), (4, (0, y4)), (6, (0, y6))], [(0, y6), (0, 36 * a + 44), (1, 276), (0, y4)], w212)) 1 rfl ?_
                        refine e_Ok.add (z := 36 * a + y6 + 44) rfl (by omega) (by omega) ?_
                        refine e_Ok.ald (z := w 276 (36 * a + y6 + 44)) rfl rfl rfl (by omega) (by rw [← hw212]; exact (e_up_ne _ _ (Or.inr (by omega))).trans (by rw [← hw209]; exact (e_up_ne _ _ (Or.inr (by omega))).trans ((j84 276 (36 * a + y6 + 44) (by unfold mVS; omega)).trans rfl))) (by omega) ?_
                        refine e_Ok.run (t' := (277, [(5, (0, z216)), (9, (0, z206)), (8, (0, w 276 (36 * a + y6 + 44) - v1 276 (36 * a + y6 + 32))), (7, (0, v1 276 (36 * a + y6 + 38))), (0, (1, 275)), (1, (0, a)), (2, (0, 36 * a + 16)), (3, (0, 1)), (4, (0, y4)), (6, (0, y6))], [(1, 275), (0, w 276 (36 * a + y6 + 44)), (0, y4)], w212)) 1 rfl ?_
                        refine e_Ok.getr (z := 276) rfl rfl rfl rfl (by rw [← hw212]; exact (e_up_ne _ _ (Or.inl (by omega))).trans (by rw [← hw209]; exact (e_up_ne _ _ (Or.inl (by omega))).trans ((j84 275 0 (by unfold mVS; omega)).trans (e_Has.eq hT rfl)))) (by omega) ?_
                        refine e_Ok.run (t' := (283, [(5, (0, z216)), (9, (0, z206)), (8, (0, w 276 (36 * a + y6 + 44) - v1 276 (36 * a + y6 + 32))), (7, (0, v1 276 (36 * a + y6 + 38))), (0, (1, 275)), (1, (0, a)), (2, (0, 36 * a + 16)), (3, (0, 1)), (4, (0, y4)), (6, (0, y6))], [(0, 16), (0, 36 * a + 16), (1, 276), (0, w 276 (36 * a + y6 + 44)), (0, y4)], w212)) 2 rfl ?_
                        refine e_Ok.add (z := 36 * a + 32) rfl (by omega) (by omega) ?_
                        refine e_Ok.run (t' := (286, [(5, (0, z216)), (9, (0, z206)), (8, (0, w 276 (36 * a + y6 + 44) - v1 276 (36 * a + y6 + 32))), (7, (0, v1 276 (36 * a + y6 + 38))), (0, (1, 275)), (1, (0, a)), (2, (0, 36 * a + 16)), (3, (0, 1)), (4, (0, y4)), (6, (0, y6))], [(0, y6), (0, 36 * a + 32), (1, 276), (0, w 276 (36 * a + y6 + 44)), (0, y4)], w212)) 1 rfl ?_
                        refine e_Ok.add (z := 36 * a + y6 + 32) rfl (by omega) (by omega) ?_
                        refine e_Ok.ald (z := v1 276 (36 * a + y6 + 32) + z206) rfl rfl rfl (by omega) (by rw [← hw212]; exact e_up_eq _ _ _ _) (by omega) ?_
                        refine e_Ok.if2 rfl (fun h219 => ?_) (fun h219 => ?_)
                        · replace h219 : (w 276 (36 * a + y6 + 44) : Int) ≠ v1 276 (36 * a + y6 + 32) + z206 := h219
                          refine e_Ok.run (t' := (296, [(5, (0, z216)), (9, (0, z206)), (8, (0, w 276 (36 * a + y6 + 44) - v1 276 (36 * a + y6 + 32))), (7, (0, v1 276 (36 * a + y6 + 38))), (0, (1, 275)), (1, (0, a)), (2, (0, 36 * a + 16)), (3, (0, 1)), (4, (0, y4)), (6, (0, y6))], [(0, 0), (0, y4)], w212)) 1 rfl ?_
                          refine e_Ok.and01 (by omega) (by omega) (fun z220 hz220 => ?_) rfl
                          replace hz220 : (0 ≤ z220 ∧ z220 ≤ 1) ∧ (z220 = 1 ↔ (y4 = 1 ∧ 0 = 1)) := hz220
                          refine e_Ok.run (t' := (299, [(4, (0, z220)), (5, (0, z216)), (9, (0, z206)), (8, (0, w 276 (36 * a + y6 + 44) - v1 276 (36 * a + y6 + 32))), (7, (0, v1 276 (36 * a + y6 + 38))), (0, (1, 275)), (1, (0, a)), (2, (0, 36 * a + 16)), (3, (0, 1)), (6, (0, y6))], [], w212)) 1 rfl ?_
                          refine e_Ok.inc (z := y6 + 1) rfl rfl (by omega) (by omega) ?_
                          show e_Ok 20 elay ecode eI (d + 1) 388 (302, [(6, (0, y6 + 1)), (4, (0, z220)), (5, (0, z216)), (9, (0, z206)), (8, (0, w 276 (36 * a + y6 + 44) - v1 276 (36 * a + y6 + 32))), (7, (0, v1 276 (36 * a + y6 + 38))), (0, (1, 275)), (1, (0, a)), (2, (0, 36 * a + 16)), (3, (0, 1))], [], w212) _
                          refine e_Ok.run (t' := (44, [(6, (0, y6 + 1)), (4, (0, z220)), (5, (0, z216)), (9, (0, z206)), (8, (0, w 276 (36 * a + y6 + 44) - v1 276 (36 * a + y6 + 32))), (7, (0, v1 276 (36 * a + y6 + 38))), (0, (1, 275)), (1, (0, a)), (2, (0, 36 * a + 16)), (3, (0, 1))], [], w212)) 1 rfl ?_
                          refine e_Ok.sub eAlk (e_sub_of rfl ?_) (ih76 z220 z216 (y6 + 1) w212 ⟨f213, hT214, by omega, (fun j g1 g2 => Decidable.byCases (p := j = y6) (fun e => by rw [e, show w212 276 (36 * a + y6 + 32) = w 276 (36 * a + y6 + 32) + z206 from Eq.trans (by rw [← hw212]; exact e_up_eq _ _ _ _) (by omega), show w212 276 (36 * a + y6 + 38) = z206 from (by rw [← hw212]; exact (e_up_ne _ _ (Or.inr (by omega))).trans (by rw [← hw209]; exact e_up_eq _ _ _ _))]; exact hjn) (fun e => by rw [show w212 276 (36 * a + j + 32) = v1 276 (36 * a + j + 32) from (by rw [← hw212]; exact (e_up_ne _ _ (Or.inr (by omega))).trans (by rw [← hw209]; exact (e_up_ne _ _ (Or.inr (by omega))).trans rfl)), show w212 276 (36 * a + j + 38) = v1 276 (36 * a + j + 38) from (by rw [← hw212]; exact (e_up_ne _ _ (Or.inr (by omega))).trans (by rw [← hw209]; exact (e_up_ne _ _ (Or.inr (by omega))).trans rfl))]; exact j80 j g1 (by omega))), (fun j g1 g2 => by rw [show w212 276 (36 * a + j + 32) = v1 276 (36 * a + j + 32) from (by rw [← hw212]; exact (e_up_ne _ _ (Or.inr (by omega))).trans (by rw [← hw209]; exact (e_up_ne _ _ (Or.inr (by omega))).trans rfl)), show w212 276 (36 * a + j + 38) = v1 276 (36 * a + j + 38) from (by rw [← hw212]; exact (e_up_ne _ _ (Or.inr (by omega))).trans (by rw [← hw209]; exact (e_up_ne _ _ (Or.inr (by omega))).trans rfl))]; exact j81 j (by omega) g2), (fun e j g1 g2 => Decidable.byCases (p := j = y6) (fun e1 => by rw [e1, show w212 276 (36 * a + y6 + 32) = w 276 (36 * a + y6 + 32) + z206 from Eq.trans (by rw [← hw212]; exact e_up_eq _ _ _ _) (by omega), show w212 276 (36 * a + y6 + 38) = z206 from (by rw [← hw212]; exact (e_up_ne _ _ (Or.inr (by omega))).trans (by rw [← hw209]; exact e_up_eq _ _ _ _))]; omega) (fun e1 => by rw [show w212 276 (36 * a + j + 32) = v1 276 (36 * a + j + 32) from (by rw [← hw212]; exact (e_up_ne _ _ (Or.inr (by omega))).trans (by rw [← hw209]; exact (e_up_ne _ _ (Or.inr (by omega))).trans rfl)), show w212 276 (36 * a + j + 38) = v1 276 (36 * a + j + 38) from (by rw [← hw212]; exact (e_up_ne _ _ (Or.inr (by omega))).trans (by rw [← hw209]; exact (e_up_ne _ _ (Or.inr (by omega))).trans rfl))]; exact j82 (by omega) j g1 (by omega))), (fun e j g1 g2 => Decidable.byCases (p := j = y6) (fun e1 => by rw [e1, show w212 276 (36 * a + y6 + 32) = w 276 (36 * a + y6 + 32) + z206 from Eq.trans (by rw [← hw212]; exact e_up_eq _ _ _ _) (by omega), show w212 276 (36 * a + y6 + 38) = z206 from (by rw [← hw212]; exact (e_up_ne _ _ (Or.inr (by omega))).trans (by rw [← hw209]; exact e_up_eq _ _ _ _))]; omega) (fun e1 => by rw [show w212 276 (36 * a + j + 32) = v1 276 (36 * a + j + 32) from (by rw [← hw212]; exact (e_up_ne _ _ (Or.inr (by omega))).trans (by rw [← hw209]; exact (e_up_ne _ _ (Or.inr (by omega))).trans rfl)), show w212 276 (36 * a + j + 38) = v1 276 (36 * a + j + 38) from (by rw [← hw212]; exact (e_up_ne _ _ (Or.inr (by omega))).trans (by rw [← hw209]; exact (e_up_ne _ _ (Or.inr (by omega))).trans rfl))]; exact j83 (by omega) j g1 (by omega))), (e_fr.up (e_fr.up j84 hw209 (by unfold mVS; omega)) hw212 (by unfold mVS; omega))⟩ (by omega))
                          exact ⟨rfl, rfl, rfl, rfl, rfl, rfl, rfl, trivial⟩
                        · replace h219 : (w 276 (36 * a + y6 + 44) : Int) = v1 276 (36 * a + y6 + 32) + z206 := by have q : ¬ ((w 276 (36 * a + y6 + 44) : Int) ≠ v1 276 (36 * a + y6 + 32) + z206) := h219; omega
                          refine e_Ok.run (t' := (296, [(5, (0, z216)), (9, (0, z206)), (8, (0, w 276 (36 * a + y6 + 44) - v1 276 (36 * a + y6 + 32))), (7, (0, v1 276 (36 * a + y6 + 38))), (0, (1, 275)), (1, (0, a)), (2, (0, 36 * a + 16)), (3, (0, 1)), (4, (0, y4)), (6, (0, y6))], [(0, 1), (0, y4)], w212)) 2 rfl ?_
                          refine e_Ok.and01 (by omega) (by omega) (fun z221 hz221 => ?_) rfl
                          replace hz221 : (0 ≤ z221 ∧ z221 ≤ 1) ∧ (z221 = 1 ↔ (y4 = 1 ∧ 1 = 1)) := hz221
                          refine e_Ok.run (t' := (299, [(4, (0, z221)), (5, (0, z216)), (9, (0, z206)), (8, (0, w 276 (36 * a + y6 + 44) - v1 276 (36 * a + y6 + 32))), (7, (0, v1 276 (36 * a + y6 + 38))), (0, (1, 275)), (1, (0, a)), (2, (0, 36 * a + 16)), (3, (0, 1)), (6, (0, y6))], [], w212)) 1 rfl ?_
                          refine e_Ok.inc (z := y6 + 1) rfl rfl (by omega) (by omega) ?_
                          show e_Ok 20 elay ecode eI (d + 1) 388 (302, [(6, (0, y6 + 1)), (4, (0, z221)), (5, (0, z216)), (9, (0, z206)), (8, (0, w 276 (36 * a + y6 + 44) - v1 276 (36 * a + y6 + 32))), (7, (0, v1 276 (36 * a + y6 + 38))), (0, (1, 275)), (1, (0, a)), (2, (0, 36 * a + 16)), (3, (0, 1))], [], w212) _
                          refine e_Ok.run (t' := (44, [(6, (0, y6 + 1)), (4, (0, z221)), (5, (0, z216)), (9, (0, z206)), (8, (0, w 276 (36 * a + y6 + 44) - v1 276 (36 * a + y6 + 32))), (7, (0, v1 276 (36 * a + y6 + 38))), (0, (1, 275)), (1, (0, a)), (2, (0, 36 * a + 16)), (3, (0, 1))], [], w212)) 1 rfl ?_
                          refine e_Ok.sub eAlk (e_sub_of rfl ?_) (ih76 z221 z216 (y6 + 1) w212 ⟨f213, hT214, by omega, (fun j g1 g2 => Decidable.byCases (p := j = y6) (fun e => by rw [e, show w212 276 (36 * a + y6 + 32) = w 276 (36 * a + y6 + 32) + z206 from Eq.trans (by rw [← hw212]; exact e_up_eq _ _ _ _) (by omega), show w212 276 (36 * a + y6 + 38) = z206 from (by rw [← hw212]; exact (e_up_ne _ _ (Or.inr (by omega))).trans (by rw [← hw209]; exact e_up_eq _ _ _ _))]; exact hjn) (fun e => by rw [show w212 276 (36 * a + j + 32) = v1 276 (36 * a + j + 32) from (by rw [← hw212]; exact (e_up_ne _ _ (Or.inr (by omega))).trans (by rw [← hw209]; exact (e_up_ne _ _ (Or.inr (by omega))).trans rfl)), show w212 276 (36 * a + j + 38) = v1 276 (36 * a + j + 38) from (by rw [← hw212]; exact (e_up_ne _ _ (Or.inr (by omega))).trans (by rw [← hw209]; exact (e_up_ne _ _ (Or.inr (by omega))).trans rfl))]; exact j80 j g1 (by omega))), (fun j g1 g2 => by rw [show w212 276 (36 * a + j + 32) = v1 276 (36 * a + j + 32) from (by rw [← hw212]; exact (e_up_ne _ _ (Or.inr (by omega))).trans (by rw [← hw209]; exact (e_up_ne _ _ (Or.inr (by omega))).trans rfl)), show w212 276 (36 * a + j + 38) = v1 276 (36 * a + j + 38) from (by rw [← hw212]; exact (e_up_ne _ _ (Or.inr (by omega))).trans (by rw [← hw209]; exact (e_up_ne _ _ (Or.inr (by omega))).trans rfl))]; exact j81 j (by omega) g2), (fun e j g1 g2 => Decidable.byCases (p := j = y6) (fun e1 => by rw [e1, show w212 276 (36 * a + y6 + 32) = w 276 (36 * a + y6 + 32) + z206 from Eq.trans (by rw [← hw212]; exact e_up_eq _ _ _ _) (by omega), show w212 276 (36 * a + y6 + 38) = z206 from (by rw [← hw212]; exact (e_up_ne _ _ (Or.inr (by omega))).trans (by rw [← hw209]; exact e_up_eq _ _ _ _))]; omega) (fun e1 => by rw [show w212 276 (36 * a + j + 32) = v1 276 (36 * a + j + 32) from (by rw [← hw212]; exact (e_up_ne _ _ (Or.inr (by omega))).trans (by rw [← hw209]; exact (e_up_ne _ _ (Or.inr (by omega))).trans rfl)), show w212 276 (36 * a + j + 38) = v1 276 (36 * a + j + 38) from (by rw [← hw212]; exact (e_up_ne _ _ (Or.inr (by omega))).trans (by rw [← hw209]; exact (e_up_ne _ _ (Or.inr (by omega))).trans rfl))]; exact j82 (by omega) j g1 (by omega))), (fun e j g1 g2 => Decidable.byCases (p := j = y6) (fun e1 => by rw [e1, show w212 276 (36 * a + y6 + 32) = w 276 (36 * a + y6 + 32) + z206 from Eq.trans (by rw [← hw212]; exact e_up_eq _ _ _ _) (by omega), show w212 276 (36 * a + y6 + 38) = z206 from (by rw [← hw212]; exact (e_up_ne _ _ (Or.inr (by omega))).trans (by rw [← hw209]; exact e_up_eq _ _ _ _))]; omega) (fun e1 => by rw [show w212 276 (36 * a + j + 32) = v1 276 (36 * a + j + 32) from (by rw [← hw212]; exact (e_up_ne _ _ (Or.inr (by omega))).trans (by rw [← hw209]; exact (e_up_ne _ _ (Or.inr (by omega))).trans rfl)), show w212 276 (36 * a + j + 38) = v1 276 (36 * a + j + 38) from (by rw [← hw212]; exact (e_up_ne _ _ (Or.inr (by omega))).trans (by rw [← hw209]; exact (e_up_ne _ _ (Or.inr (by omega))).trans rfl))]; exact j83 (by omega) j g1 (by omega))), (e_fr.up (e_fr.up j84 hw209 (by unfold mVS; omega)) hw212 (by unfold mVS; omega))⟩ (by omega))
                          exact ⟨rfl, rfl, rfl, rfl, rfl, rfl, rfl, trivial⟩
                  · replace h215 : (z206 : Int) ≠ 0 := by have q : ¬ ((z206 : Int) = 0) := h215; omega
                    refine e_Ok.run (t' := (250, [(9, (0, z206)), (8, (0, w 276 (36 * a + y6 + 44) - v1 276 (36 * a + y6 + 32))), (7, (0, v1 276 (36 * a + y6 + 38))), (0, (1, 275)), (1, (0, a)), (2, (0, 36 * a + 16)), (3, (0, 1)), (4, (0, y4)), (5, (0, y5)), (6, (0, y6))], [(0, 1), (0, y5)], w212)) 2 rfl ?_
                    refine e_Ok.or01 (by omega) (by omega) (fun z222 hz222 => ?_) rfl
                    replace hz222 : (0 ≤ z222 ∧ z222 ≤ 1) ∧ (z222 = 0 ↔ (y5 = 0 ∧ 1 = 0)) := hz222
                    refine e_Ok.run (t' := (257, [(5, (0, z222)), (9, (0, z206)), (8, (0, w 276 (36 * a + y6 + 44) - v1 276 (36 * a + y6 + 32))), (7, (0, v1 276 (36 * a + y6 + 38))), (0, (1, 275)), (1, (0, a)), (2, (0, 36 * a + 16)), (3, (0, 1)), (4, (0, y4)), (6, (0, y6))], [(0, z206), (0, y4)], w212)) 3 rfl ?_
                    refine e_Ok.if1 rfl (fun h223 => ?_) (fun h223 => ?_)
                    · replace h223 : (z206 : Int) ≠ 0 := h223
                      refine e_Ok.run (t' := (296, [(5, (0, z222)), (9, (0, z206)), (8, (0, w 276 (36 * a + y6 + 44) - v1 276 (36 * a + y6 + 32))), (7, (0, v1 276 (36 * a + y6 + 38))), (0, (1, 275)), (1, (0, a)), (2, (0, 36 * a + 16)), (3, (0, 1)), (4, (0, y4)), (6, (0, y6))], [(0, 0), (0, y4)], w212)) 1 rfl ?_
                      refine e_Ok.and01 (by omega) (by omega) (fun z224 hz224 => ?_) rfl
                      replace hz224 : (0 ≤ z224 ∧ z224 ≤ 1) ∧ (z224 = 1 ↔ (y4 = 1 ∧ 0 = 1)) := hz224
                      refine e_Ok.run (t' := (299, [(4, (0, z224)), (5, (0, z222)), (9, (0, z206)), (8, (0, w 276 (36 * a + y6 + 44) - v1 276 (36 * a + y6 + 32))), (7, (0, v1 276 (36 * a + y6 + 38))), (0, (1, 275)), (1, (0, a)), (2, (0, 36 * a + 16)), (3, (0, 1)), (6, (0, y6))], [], w212)) 1 rfl ?_
                      refine e_Ok.inc (z := y6 + 1) rfl rfl (by omega) (by omega) ?_
                      show e_Ok 20 elay ecode eI (d + 1) 388 (302, [(6, (0, y6 + 1)), (4, (0, z224)), (5, (0, z222)), (9, (0, z206)), (8, (0, w 276 (36 * a + y6 + 44) - v1 276 (36 * a + y6 + 32))), (7, (0, v1 276 (36 * a + y6 + 38))), (0, (1, 275)), (1, (0, a)), (2, (0, 36 * a + 16)), (3, (0, 1))], [], w212) _
                      refine e_Ok.run (t' := (44, [(6, (0, y6 + 1)), (4, (0, z224)), (5, (0, z222)), (9, (0, z206)), (8, (0, w 276 (36 * a + y6 + 44) - v1 276 (36 * a + y6 + 32))), (7, (0, v1 276 (36 * a + y6 + 38))), (0, (1, 275)), (1, (0, a)), (2, (0, 36 * a + 16)), (3, (0, 1))], [], w212)) 1 rfl ?_
                      refine e_Ok.sub eAlk (e_sub_of rfl ?_) (ih76 z224 z222 (y6 + 1) w212 ⟨f213, hT214, by omega, (fun j g1 g2 => Decidable.byCases (p := j = y6) (fun e => by rw [e, show w212 276 (36 * a + y6 + 32) = w 276 (36 * a + y6 + 32) + z206 from Eq.trans (by rw [← hw212]; exact e_up_eq _ _ _ _) (by omega), show w212 276 (36 * a + y6 + 38) = z206 from (by rw [← hw212]; exact (e_up_ne _ _ (Or.inr (by omega))).trans (by rw [← hw209]; exact e_up_eq _ _ _ _))]; exact hjn) (fun e => by rw [show w212 276 (36 * a + j + 32) = v1 276 (36 * a + j + 32) from (by rw [← hw212]; exact (e_up_ne _ _ (Or.inr (by omega))).trans (by rw [← hw209]; exact (e_up_ne _ _ (Or.inr (by omega))).trans rfl)), show w212 276 (36 * a + j + 38) = v1 276 (36 * a + j + 38) from (by rw [← hw212]; exact (e_up_ne _ _ (Or.inr (by omega))).trans (by rw [← hw209]; exact (e_up_ne _ _ (Or.inr (by omega))).trans rfl))]; exact j80 j g1 (by omega))), (fun j g1 g2 => by rw [show w212 276 (36 * a + j + 32) = v1 276 (36 * a + j + 32) from (by rw [← hw212]; exact (e_up_ne _ _ (Or.inr (by omega))).trans (by rw [← hw209]; exact (e_up_ne _ _ (Or.inr (by omega))).trans rfl)), show w212 276 (36 * a + j + 38) = v1 276 (36 * a + j + 38) from (by rw [← hw212]; exact (e_up_ne _ _ (Or.inr (by omega))).trans (by rw [← hw209]; exact (e_up_ne _ _ (Or.inr (by omega))).trans rfl))]; exact j81 j (by omega) g2), (fun e j g1 g2 => Decidable.byCases (p := j = y6) (fun e1 => by rw [e1, show w212 276 (36 * a + y6 + 32) = w 276 (36 * a + y6 + 32) + z206 from Eq.trans (by rw [← hw212]; exact e_up_eq _ _ _ _) (by omega), show w212 276 (36 * a + y6 + 38) = z206 from (by rw [← hw212]; exact (e_up_ne _ _ (Or.inr (by omega))).trans (by rw [← hw209]; exact e_up_eq _ _ _ _))]; omega) (fun e1 => by rw [show w212 276 (36 * a + j + 32) = v1 276 (36 * a + j + 32) from (by rw [← hw212]; exact (e_up_ne _ _ (Or.inr (by omega))).trans (by rw [← hw209]; exact (e_up_ne _ _ (Or.inr (by omega))).trans rfl)), show w212 276 (36 * a + j + 38) = v1 276 (36 * a + j + 38) from (by rw [← hw212]; exact (e_up_ne _ _ (Or.inr (by omega))).trans (by rw [← hw209]; exact (e_up_ne _ _ (Or.inr (by omega))).trans rfl))]; exact j82 (by omega) j g1 (by omega))), (fun e j g1 g2 => Decidable.byCases (p := j = y6) (fun e1 => by rw [e1, show w212 276 (36 * a + y6 + 32) = w 276 (36 * a + y6 + 32) + z206 from Eq.trans (by rw [← hw212]; exact e_up_eq _ _ _ _) (by omega), show w212 276 (36 * a + y6 + 38) = z206 from (by rw [← hw212]; exact (e_up_ne _ _ (Or.inr (by omega))).trans (by rw [← hw209]; exact e_up_eq _ _ _ _))]; omega) (fun e1 => by rw [show w212 276 (36 * a + j + 32) = v1 276 (36 * a + j + 32) from (by rw [← hw212]; exact (e_up_ne _ _ (Or.inr (by omega))).trans (by rw [← hw209]; exact (e_up_ne _ _ (Or.inr (by omega))).trans rfl)), show w212 276 (36 * a + j + 38) = v1 276 (36 * a + j + 38) from (by rw [← hw212]; exact (e_up_ne _ _ (Or.inr (by omega))).trans (by rw [← hw209]; exact (e_up_ne _ _ (Or.inr (by omega))).trans rfl))]; exact j83 (by omega) j g1 (by omega))), (e_fr.up (e_fr.up j84 hw209 (by unfold mVS; omega)) hw212 (by unfold mVS; omega))⟩ (by omega))
                      exact ⟨rfl, rfl, rfl, rfl, rfl, rfl, rfl, trivial⟩
                    · replace h223 : (z206 : Int) = 0 := by have q : ¬ ((z206 : Int) ≠ 0) := h223; omega
                      exfalso; omega
              · replace h202 : (w 276 (36 * a + y6 + 44) - v1 276 (36 * a + y6 + 32) : Int) < 0 := by have q : ¬ ((w 276 (36 * a + y6 + 44) - v1 276 (36 * a + y6 + 32) : Int) ≥ 0) := h202; omega
                refine e_Ok.run (t' := (111, [(8, (0, w 276 (36 * a + y6 + 44) - v1 276 (36 * a + y6 + 32))), (7, (0, v1 276 (36 * a + y6 + 38))), (0, (1, 275)), (1, (0, a)), (2, (0, 36 * a + 16)), (3, (0, 1)), (4, (0, y4)), (5, (0, y5)), (6, (0, y6))], [(0, w 276 (36 * a + y6 + 44) - v1 276 (36 * a + y6 + 32))], v1)) 1 rfl ?_
                refine e_Ok.neg (z := -w 276 (36 * a + y6 + 44) + v1 276 (36 * a + y6 + 32)) rfl (by omega) (by omega) ?_
                refine e_Ok.run (t' := (114, [(8, (0, w 276 (36 * a + y6 + 44) - v1 276 (36 * a + y6 + 32))), (7, (0, v1 276 (36 * a + y6 + 38))), (0, (1, 275)), (1, (0, a)), (2, (0, 36 * a + 16)), (3, (0, 1)), (4, (0, y4)), (5, (0, y5)), (6, (0, y6))], [(0, v1 276 (36 * a + y6 + 38)), (0, -w 276 (36 * a + y6 + 44) + v1 276 (36 * a + y6 + 32))], v1)) 1 rfl ?_
                refine e_Ok.neg (z := -v1 276 (36 * a + y6 + 38)) rfl (by omega) (by omega) ?_
                refine e_Ok.run (t' := (116, [(8, (0, w 276 (36 * a + y6 + 44) - v1 276 (36 * a + y6 + 32))), (7, (0, v1 276 (36 * a + y6 + 38))), (0, (1, 275)), (1, (0, a)), (2, (0, 36 * a + 16)), (3, (0, 1)), (4, (0, y4)), (5, (0, y5)), (6, (0, y6))], [(1, 275), (0, -v1 276 (36 * a + y6 + 38)), (0, -w 276 (36 * a + y6 + 44) + v1 276 (36 * a + y6 + 32))], v1)) 1 rfl ?_
                refine e_Ok.getr (z := 290) rfl rfl rfl rfl ((j84 275 19 (by unfold mVS; omega)).trans (e_Has.eq hT rfl)) (by omega) ?_
                refine e_Ok.run (t' := (122, [(8, (0, w 276 (36 * a + y6 + 44) - v1 276 (36 * a + y6 + 32))), (7, (0, v1 276 (36 * a + y6 + 38))), (0, (1, 275)), (1, (0, a)), (2, (0, 36 * a + 16)), (3, (0, 1)), (4, (0, y4)), (5, (0, y5)), (6, (0, y6))], [(0, a), (0, 6), (1, 290), (0, -v1 276 (36 * a + y6 + 38)), (0, -w 276 (36 * a + y6 + 44) + v1 276 (36 * a + y6 + 32))], v1)) 2 rfl ?_
                refine e_Ok.mul (z := 6 * a) rfl (by omega) (by omega) ?_
                refine e_Ok.run (t' := (125, [(8, (0, w 276 (36 * a + y6 + 44) - v1 276 (36 * a + y6 + 32))), (7, (0, v1 276 (36 * a + y6 + 38))), (0, (1, 275)), (1, (0, a)), (2, (0, 36 * a + 16)), (3, (0, 1)), (4, (0, y4)), (5, (0, y5)), (6, (0, y6))], [(0, y6), (0, 6 * a), (1, 290), (0, -v1 276 (36 * a + y6 + 38)), (0, -w 276 (36 * a + y6 + 44) + v1 276 (36 * a + y6 + 32))], v1)) 1 rfl ?_
                refine e_Ok.add (z := 6 * a + y6) rfl (by omega) (by omega) ?_
                refine e_Ok.ald (z := w 290 (6 * a + y6)) rfl rfl rfl (by omega) ((j84 290 (6 * a + y6) (by unfold mVS; omega)).trans rfl) (by omega) ?_
                refine e_Ok.run (t' := (128, [(8, (0, w 276 (36 * a + y6 + 44) - v1 276 (36 * a + y6 + 32))), (7, (0, v1 276 (36 * a + y6 + 38))), (0, (1, 275)), (1, (0, a)), (2, (0, 36 * a + 16)), (3, (0, 1)), (4, (0, y4)), (5, (0, y5)), (6, (0, y6))], [(1, 275), (0, w 290 (6 * a + y6)), (0, -v1 276 (36 * a + y6 + 38)), (0, -w 276 (36 * a + y6 + 44) + v1 276 (36 * a + y6 + 32))], v1)) 1 rfl ?_
                refine e_Ok.getr (z := 291) rfl rfl rfl rfl ((j84 275 20 (by unfold mVS; omega)).trans (e_Has.eq hT rfl)) (by omega) ?_
                refine e_Ok.run (t' := (134, [(8, (0, w 276 (36 * a + y6 + 44) - v1 276 (36 * a + y6 + 32))), (7, (0, v1 276 (36 * a + y6 + 38))), (0, (1, 275)), (1, (0, a)), (2, (0, 36 * a + 16)), (3, (0, 1)), (4, (0, y4)), (5, (0, y5)), (6, (0, y6))], [(0, a), (0, 6), (1, 291), (0, w 290 (6 * a + y6)), (0, -v1 276 (36 * a + y6 + 38)), (0, -w 276 (36 * a + y6 + 44) + v1 276 (36 * a + y6 + 32))], v1)) 2 rfl ?_
                refine e_Ok.mul (z := 6 * a) rfl (by omega) (by omega) ?_
                refine e_Ok.run (t' := (137, [(8, (0, w 276 (36 * a + y6 + 44) - v1 276 (36 * a + y6 + 32))), (7, (0, v1 276 (36 * a + y6 + 38))), (0, (1, 275)), (1, (0, a)), (2, (0, 36 * a + 16)), (3, (0, 1)), (4, (0, y4)), (5, (0, y5)), (6, (0, y6))], [(0, y6), (0, 6 * a), (1, 291), (0, w 290 (6 * a + y6)), (0, -v1 276 (36 * a + y6 + 38)), (0, -w 276 (36 * a + y6 + 44) + v1 276 (36 * a + y6 + 32))], v1)) 1 rfl ?_
                refine e_Ok.add (z := 6 * a + y6) rfl (by omega) (by omega) ?_
                refine e_Ok.ald (z := w 291 (6 * a + y6)) rfl rfl rfl (by omega) ((j84 291 (6 * a + y6) (by unfold mVS; omega)).trans rfl) (by omega) ?_
                refine e_Ok.callS rfl (by omega) rfl rfl (c_386 (by omega) (by omega) (by omega) (by omega)) (fun r225 w226 h227 => ?_)
                obtain ⟨z228, rfl, rfl, q229⟩ := h227
                show e_Ok 20 elay ecode eI (d + 1) 388 (142, [(8, (0, w 276 (36 * a + y6 + 44) - v1 276 (36 * a + y6 + 32))), (7, (0, v1 276 (36 * a + y6 + 38))), (0, (1, 275)), (1, (0, a)), (2, (0, 36 * a + 16)), (3, (0, 1)), (4, (0, y4)), (5, (0, y5)), (6, (0, y6))], [(0, z228)], v1) _
                refine e_Ok.neg (z := -z228) rfl (by omega) (by omega) ?_
                refine e_Ok.run (t' := (180, [(9, (0, -z228)), (8, (0, w 276 (36 * a + y6 + 44) - v1 276 (36 * a + y6 + 32))), (7, (0, v1 276 (36 * a + y6 + 38))), (0, (1, 275)), (1, (0, a)), (2, (0, 36 * a + 16)), (3, (0, 1)), (4, (0, y4)), (5, (0, y5)), (6, (0, y6))], [(0, 1)], v1)) 3 rfl ?_
                refine e_Ok.if1 rfl (fun h230 => ?_) (fun h230 => ?_)
                · replace h230 : (1 : Int) = 0 := h230
                  exfalso; omega
                · replace h230 : (1 : Int) ≠ 0 := by have q : ¬ ((1 : Int) = 0) := h230; omega
                  refine e_Ok.run (t' := (207, [(9, (0, -z228)), (8, (0, w 276 (36 * a + y6 + 44) - v1 276 (36 * a + y6 + 32))), (7, (0, v1 276 (36 * a + y6 + 38))), (0, (1, 275)), (1, (0, a)), (2, (0, 36 * a + 16)), (3, (0, 1)), (4, (0, y4)), (5, (0, y5)), (6, (0, y6))], [], v1)) 3 rfl ?_
                  have hjn : joOk (w 276 (36 * a + 16)) (w 276 (36 * a + y6 + 32) + (-z228)) (-z228) (w 276 (36 * a + y6 + 44)) (w 288 (6 * a + y6)) (w 289 (6 * a + y6)) (w 291 (6 * a + y6)) := by rw [hST]; exact joOk.go1 hcf.2 hjo (Or.inr ⟨by omega, by rw [Int.neg_neg]; omega⟩)
                  have hjl := hjn.1
                  refine e_Ok.run (t' := (208, [(9, (0, -z228)), (8, (0, w 276 (36 * a + y6 + 44) - v1 276 (36 * a + y6 + 32))), (7, (0, v1 276 (36 * a + y6 + 38))), (0, (1, 275)), (1, (0, a)), (2, (0, 36 * a + 16)), (3, (0, 1)), (4, (0, y4)), (5, (0, y5)), (6, (0, y6))], [(1, 275)], v1)) 1 rfl ?_
                  refine e_Ok.getr (z := 276) rfl rfl rfl rfl ((j84 275 0 (by unfold mVS; omega)).trans (e_Has.eq hT rfl)) (by omega) ?_
                  refine e_Ok.run (t' := (214, [(9, (0, -z228)), (8, (0, w 276 (36 * a + y6 + 44) - v1 276 (36 * a + y6 + 32))), (7, (0, v1 276 (36 * a + y6 + 38))), (0, (1, 275)), (1, (0, a)), (2, (0, 36 * a + 16)), (3, (0, 1)), (4, (0, y4)), (5, (0, y5)), (6, (0, y6))], [(0, 22), (0, 36 * a + 16), (1, 276)], v1)) 2 rfl ?_
                  refine e_Ok.add (z := 36 * a + 38) rfl (by omega) (by omega) ?_
                  refine e_Ok.run (t' := (217, [(9, (0, -z228)), (8, (0, w 276 (36 * a + y6 + 44) - v1 276 (36 * a + y6 + 32))), (7, (0, v1 276 (36 * a + y6 + 38))), (0, (1, 275)), (1, (0, a)), (2, (0, 36 * a + 16)), (3, (0, 1)), (4, (0, y4)), (5, (0, y5)), (6, (0, y6))], [(0, y6), (0, 36 * a + 38), (1, 276)], v1)) 1 rfl ?_
                  refine e_Ok.add (z := 36 * a + y6 + 38) rfl (by omega) (by omega) ?_
                  refine e_Ok.run (t' := (220, [(9, (0, -z228)), (8, (0, w 276 (36 * a + y6 + 44) - v1 276 (36 * a + y6 + 32))), (7, (0, v1 276 (36 * a + y6 + 38))), (0, (1, 275)), (1, (0, a)), (2, (0, 36 * a + 16)), (3, (0, 1)), (4, (0, y4)), (5, (0, y5)), (6, (0, y6))], [(0, -z228), (0, 36 * a + y6 + 38), (1, 276)], v1)) 1 rfl ?_
                  refine e_Ok.ast rfl rfl rfl rfl (by omega) ?_
                  generalize hw231 : e_up v1 276 (36 * a + y6 + 38) (-z228) = w231
                  have f232 : e_fr (mGn a) w w231 := e_fr.up j77 hw231 (by unfold mGn mG1 mNw; omega)
                  have hT233 : e_Has mTy w231 := e_Has.upr j78 hw231 (nR_STEP (a := a) (j := y6) (by omega) (by omega)) (by omega)
                  refine e_Ok.run (t' := (222, [(9, (0, -z228)), (8, (0, w 276 (36 * a + y6 + 44) - v1 276 (36 * a + y6 + 32))), (7, (0, v1 276 (36 * a + y6 + 38))), (0, (1, 275)), (1, (0, a)), (2, (0, 36 * a + 16)), (3, (0, 1)), (4, (0, y4)), (5, (0, y5)), (6, (0, y6))], [(1, 275)], w231)) 1 rfl ?_
                  refine e_Ok.getr (z := 276) rfl rfl rfl rfl (by rw [← hw231]; exact (e_up_ne _ _ (Or.inl (by omega))).trans ((j84 275 0 (by unfold mVS; omega)).trans (e_Has.eq hT rfl))) (by omega) ?_
                  refine e_Ok.run (t' := (228, [(9, (0, -z228)), (8, (0, w 276 (36 * a + y6 + 44) - v1 276 (36 * a + y6 + 32))), (7, (0, v1 276 (36 * a + y6 + 38))), (0, (1, 275)), (1, (0, a)), (2, (0, 36 * a + 16)), (3, (0, 1)), (4, (0, y4)), (5, (0, y5)), (6, (0, y6))], [(0, 16), (0, 36 * a + 16), (1, 276)], w231)) 2 rfl ?_
                  refine e_Ok.add (z := 36 * a + 32) rfl (by omega) (by omega) ?_
                  refine e_Ok.run (t' := (231, [(9, (0, -z228)), (8, (0, w 276 (36 * a + y6 + 44) - v1 276 (36 * a + y6 + 32))), (7, (0, v1 276 (36 * a + y6 + 38))), (0, (1, 275)), (1, (0, a)), (2, (0, 36 * a + 16)), (3, (0, 1)), (4, (0, y4)), (5, (0, y5)), (6, (0, y6))], [(0, y6), (0, 36 * a + 32), (1, 276)], w231)) 1 rfl ?_
                  refine e_Ok.add (z := 36 * a + y6 + 32) rfl (by omega) (by omega) ?_
                  refine e_Ok.run (t' := (233, [(9, (0, -z228)), (8, (0, w 276 (36 * a + y6 + 44) - v1 276 (36 * a + y6 + 32))), (7, (0, v1 276 (36 * a + y6 + 38))), (0, (1, 275)), (1, (0, a)), (2, (0, 36 * a + 16)), (3, (0, 1)), (4, (0, y4)), (5, (0, y5)), (6, (0, y6))], [(0, 36 * a + y6 + 32), (1, 276), (0, 36 * a + y6 + 32), (1, 276)], w231)) 1 rfl ?_
                  refine e_Ok.ald (z := v1 276 (36 * a + y6 + 32)) rfl rfl rfl (by omega) (by rw [← hw231]; exact (e_up_ne _ _ (Or.inr (by omega))).trans rfl) (by omega) ?_
                  refine e_Ok.run (t' := (236, [(9, (0, -z228)), (8, (0, w 276 (36 * a + y6 + 44) - v1 276 (36 * a + y6 + 32))), (7, (0, v1 276 (36 * a + y6 + 38))), (0, (1, 275)), (1, (0, a)), (2, (0, 36 * a + 16)), (3, (0, 1)), (4, (0, y4)), (5, (0, y5)), (6, (0, y6))], [(0, -z228), (0, v1 276 (36 * a + y6 + 32)), (0, 36 * a + y6 + 32), (1, 276)], w231)) 1 rfl ?_
                  refine e_Ok.add (z := v1 276 (36 * a + y6 + 32) - z228) rfl (by omega) (by omega) ?_
                  refine e_Ok.ast rfl rfl rfl rfl (by omega) ?_
                  generalize hw234 : e_up w231 276 (36 * a + y6 + 32) (v1 276 (36 * a + y6 + 32) - z228) = w234
                  have f235 : e_fr (mGn a) w w234 := e_fr.up f232 hw234 (by unfold mGn mG1 mNw; omega)
                  have hT236 : e_Has mTy w234 := e_Has.upr hT233 hw234 (nR_VALUE (a := a) (j := y6) (by omega) (by omega)) (by omega)
                  refine e_Ok.run (t' := (242, [(9, (0, -z228)), (8, (0, w 276 (36 * a + y6 + 44) - v1 276 (36 * a + y6 + 32))), (7, (0, v1 276 (36 * a + y6 + 38))), (0, (1, 275)), (1, (0, a)), (2, (0, 36 * a + 16)), (3, (0, 1)), (4, (0, y4)), (5, (0, y5)), (6, (0, y6))], [(0, -z228), (0, y5)], w234)) 2 rfl ?_
                  refine e_Ok.if1 rfl (fun h237 => ?_) (fun h237 => ?_)
                  · replace h237 : (-z228 : Int) = 0 := h237
                    refine e_Ok.run (t' := (250, [(9, (0, -z228)), (8, (0, w 276 (36 * a + y6 + 44) - v1 276 (36 * a + y6 + 32))), (7, (0, v1 276 (36 * a + y6 + 38))), (0, (1, 275)), (1, (0, a)), (2, (0, 36 * a + 16)), (3, (0, 1)), (4, (0, y4)), (5, (0, y5)), (6, (0, y6))], [(0, 0), (0, y5)], w234)) 1 rfl ?_
                    refine e_Ok.or01 (by omega) (by omega) (fun z238 hz238 => ?_) rfl
                    replace hz238 : (0 ≤ z238 ∧ z238 ≤ 1) ∧ (z238 = 0 ↔ (y5 = 0 ∧ 0 = 0)) := hz238
                    refine e_Ok.run (t' := (257, [(5, (0, z238)), (9, (0, -z228)), (8, (0, w 276 (36 * a + y6 + 44) - v1 276 (36 * a + y6 + 32))), (7, (0, v1 276 (36 * a + y6 + 38))), (0, (1, 275)), (1, (0, a)), (2, (0, 36 * a + 16)), (3, (0, 1)), (4, (0, y4)), (6, (0, y6))], [(0, -z228), (0, y4)], w234)) 3 rfl ?_
                    refine e_Ok.if1 rfl (fun h239 => ?_) (fun h239 => ?_)
                    · replace h239 : (-z228 : Int) ≠ 0 := h239
                      exfalso; omega
                    · replace h239 : (-z228 : Int) = 0 := by have q : ¬ ((-z228 : Int) ≠ 0) := h239; omega
                      refine e_Ok.run (t' := (261, [(5, (0, z238)), (9, (0, -z228)), (8, (0, w 276 (36 * a + y6 + 44) - v1 276 (36 * a + y6 + 32))), (7, (0, v1 276 (36 * a + y6 + 38))), (0, (1, 275)), (1, (0, a)), (2, (0, 36 * a + 16)), (3, (0, 1)), (4, (0, y4)), (6, (0, y6))], [(0, 1), (0, y4)], w234)) 1 rfl ?_
                      refine e_Ok.if1 rfl (fun h240 => ?_) (fun h240 => ?_)
                      · replace h240 : (1 : Int) = 0 := h240
                        exfalso; omega
                      · replace h240 : (1 : Int) ≠ 0 := by have q : ¬ ((1 : Int) = 0) := h240; omega
                        refine e_Ok.run (t' := (265, [(5, (0, z238)), (9, (0, -z228)), (8, (0, w 276 (36 * a + y6 + 44) - v1 276 (36 * a + y6 + 32))), (7, (0, v1 276 (36 * a + y6 + 38))), (0, (1, 275)), (1, (0, a)), (2, (0, 36 * a + 16)), (3, (0, 1)), (4, (0, y4)), (6, (0, y6))], [(1, 275), (0, y4)], w234)) 1 rfl ?_
                        refine e_Ok.getr (z := 276) rfl rfl rfl rfl (by rw [← hw234]; exact (e_up_ne _ _ (Or.inl (by omega))).trans (by rw [← hw231]; exact (e_up_ne _ _ (Or.inl (by omega))).trans ((j84 275 0 (by unfold mVS; omega)).trans (e_Has.eq hT rfl)))) (by omega) ?_
                        refine e_Ok.run (t' := (271, [(5, (0, z238)), (9, (0, -z228)), (8, (0, w 276 (36 * a + y6 + 44) - v1 276 (36 * a + y6 + 32))), (7, (0, v1 276 (36 * a + y6 + 38))), (0, (1, 275)), (1, (0, a)), (2, (0, 36 * a + 16)), (3, (0, 1)), (4, (0, y4)), (6, (0, y6))], [(0, 28), (0, 36 * a + 16), (1, 276), (0, y4)], w234)) 2 rfl ?_
                        refine e_Ok.add (z := 36 * a + 44) rfl (by omega) (by omega) ?_
                        refine e_Ok.run (t' := (274, [(5, (0, z238)), (9, (0, -z228)), (8, (0, w 276 (36 * a + y6 + 44) - v1 276 (36 * a + y6 + 32))), (7, (0, v1 276 (36 * a + y6 + 38))), (0, (1, 275)), (1, (0, a)), (2, (0, 36 * a + 16)), (3, (0, 1)), (4, (0, y4)), (6, (0, y6))], [(0, y6), (0, 36 * a + 44), (1, 276), (0, y4)], w234)) 1 rfl ?_
                        refine e_Ok.add (z := 36 * a + y6 + 44) rfl (by omega) (by omega) ?_
                        refine e_Ok.ald (z := w 276 (36 * a + y6 + 44)) rfl rfl rfl (by omega) (by rw [← hw234]; exact (e_up_ne _ _ (Or.inr (by omega))).trans (by rw [← hw231]; exact (e_up_ne _ _ (Or.inr (by omega))).trans ((j84 276 (36 * a + y6 + 44) (by unfold mVS; omega)).trans rfl))) (by omega) ?_
                        refine e_Ok.run (t' := (277, [(5, (0, z238)), (9, (0, -z228)), (8, (0, w 276 (36 * a + y6 + 44) - v1 276 (36 * a + y6 + 32))), (7, (0, v1 276 (36 * a + y6 + 38))), (0, (1, 275)), (1, (0, a)), (2, (0, 36 * a + 16)), (3, (0, 1)), (4, (0, y4)), (6, (0, y6))], [(1, 275), (0, w 276 (36 * a + y6 + 44)), (0, y4)], w234)) 1 rfl ?_
                        refine e_Ok.getr (z := 276) rfl rfl rfl rfl (by rw [← hw234]; exact (e_up_ne _ _ (Or.inl (by omega))).trans (by rw [← hw231]; exact (e_up_ne _ _ (Or.inl (by omega))).trans ((j84 275 0 (by unfold mVS; omega)).trans (e_Has.eq hT rfl)))) (by omega) ?_
                        refine e_Ok.run (t' := (283, [(5, (0, z238)), (9, (0, -z228)), (8, (0, w 276 (36 * a + y6 + 44) - v1 276 (36 * a + y6 + 32))), (7, (0, v1 276 (36 * a + y6 + 38))), (0, (1, 275)), (1, (0, a)), (2, (0, 36 * a + 16)), (3, (0, 1)), (4, (0, y4)), (6, (0, y6))], [(0, 16), (0, 36 * a + 16), (1, 276), (0, w 276 (36 * a + y6 + 44)), (0, y4)], w234)) 2 rfl ?_
                        refine e_Ok.add (z := 36 * a + 32) rfl (by omega) (by omega) ?_
                        refine e_Ok.run (t' := (286, [(5, (0, z238)), (9, (0, -z228)), (8, (0, w 276 (36 * a + y6 + 44) - v1 276 (36 * a + y6 + 32))), (7, (0, v1 276 (36 * a + y6 + 38))), (0, (1, 275)), (1, (0, a)), (2, (0, 36 * a + 16)), (3, (0, 1)), (4, (0, y4)), (6, (0, y6))], [(0, y6), (0, 36 * a + 32), (1, 276), (0, w 276 (36 * a + y6 + 44)), (0, y4)], w234)) 1 rfl ?_
                        refine e_Ok.add (z := 36 * a + y6 + 32) rfl (by omega) (by omega) ?_
                        refine e_Ok.ald (z := v1 276 (36 * a + y6 + 32) - z228) rfl rfl rfl (by omega) (by rw [← hw234]; exact e_up_eq _ _ _ _) (by omega) ?_
                        refine e_Ok.if2 rfl (fun h241 => ?_) (fun h241 => ?_)
                        · replace h241 : (w 276 (36 * a + y6 + 44) : Int) ≠ v1 276 (36 * a + y6 + 32) - z228 := h241
                          refine e_Ok.run (t' := (296, [(5, (0, z238)), (9, (0, -z228)), (8, (0, w 276 (36 * a + y6 + 44) - v1 276 (36 * a + y6 + 32))), (7, (0, v1 276 (36 * a + y6 + 38))), (0, (1, 275)), (1, (0, a)), (2, (0, 36 * a + 16)), (3, (0, 1)), (4, (0, y4)), (6, (0, y6))], [(0, 0), (0, y4)], w234)) 1 rfl ?_
                          refine e_Ok.and01 (by omega) (by omega) (fun z242 hz242 => ?_) rfl
                          replace hz242 : (0 ≤ z242 ∧ z242 ≤ 1) ∧ (z242 = 1 ↔ (y4 = 1 ∧ 0 = 1)) := hz242
                          refine e_Ok.run (t' := (299, [(4, (0, z242)), (5, (0, z238)), (9, (0, -z228)), (8, (0, w 276 (36 * a + y6 + 44) - v1 276 (36 * a + y6 + 32))), (7, (0, v1 276 (36 * a + y6 + 38))), (0, (1, 275)), (1, (0, a)), (2, (0, 36 * a + 16)), (3, (0, 1)), (6, (0, y6))], [], w234)) 1 rfl ?_
                          refine e_Ok.inc (z := y6 + 1) rfl rfl (by omega) (by omega) ?_
                          show e_Ok 20 elay ecode eI (d + 1) 388 (302, [(6, (0, y6 + 1)), (4, (0, z242)), (5, (0, z238)), (9, (0, -z228)), (8, (0, w 276 (36 * a + y6 + 44) - v1 276 (36 * a + y6 + 32))), (7, (0, v1 276 (36 * a + y6 + 38))), (0, (1, 275)), (1, (0, a)), (2, (0, 36 * a + 16)), (3, (0, 1))], [], w234) _
                          refine e_Ok.run (t' := (44, [(6, (0, y6 + 1)), (4, (0, z242)), (5, (0, z238)), (9, (0, -z228)), (8, (0, w 276 (36 * a + y6 + 44) - v1 276 (36 * a + y6 + 32))), (7, (0, v1 276 (36 * a + y6 + 38))), (0, (1, 275)), (1, (0, a)), (2, (0, 36 * a + 16)), (3, (0, 1))], [], w234)) 1 rfl ?_
                          refine e_Ok.sub eAlk (e_sub_of rfl ?_) (ih76 z242 z238 (y6 + 1) w234 ⟨f235, hT236, by omega, (fun j g1 g2 => Decidable.byCases (p := j = y6) (fun e => by rw [e, show w234 276 (36 * a + y6 + 32) = w 276 (36 * a + y6 + 32) + (-z228) from Eq.trans (by rw [← hw234]; exact e_up_eq _ _ _ _) (by omega), show w234 276 (36 * a + y6 + 38) = -z228 from (by rw [← hw234]; exact (e_up_ne _ _ (Or.inr (by omega))).trans (by rw [← hw231]; exact e_up_eq _ _ _ _))]; exact hjn) (fun e => by rw [show w234 276 (36 * a + j + 32) = v1 276 (36 * a + j + 32) from (by rw [← hw234]; exact (e_up_ne _ _ (Or.inr (by omega))).trans (by rw [← hw231]; exact (e_up_ne _ _ (Or.inr (by omega))).trans rfl)), show w234 276 (36 * a + j + 38) = v1 276 (36 * a + j + 38) from (by rw [← hw234]; exact (e_up_ne _ _ (Or.inr (by omega))).trans (by rw [← hw231]; exact (e_up_ne _ _ (Or.inr (by omega))).trans rfl))]; exact j80 j g1 (by omega))), (fun j g1 g2 => by rw [show w234 276 (36 * a + j + 32) = v1 276 (36 * a + j + 32) from (by rw [← hw234]; exact (e_up_ne _ _ (Or.inr (by omega))).trans (by rw [← hw231]; exact (e_up_ne _ _ (Or.inr (by omega))).trans rfl)), show w234 276 (36 * a + j + 38) = v1 276 (36 * a + j + 38) from (by rw [← hw234]; exact (e_up_ne _ _ (Or.inr (by omega))).trans (by rw [← hw231]; exact (e_up_ne _ _ (Or.inr (by omega))).trans rfl))]; exact j81 j (by omega) g2), (fun e j g1 g2 => Decidable.byCases (p := j = y6) (fun e1 => by rw [e1, show w234 276 (36 * a + y6 + 32) = w 276 (36 * a + y6 + 32) + (-z228) from Eq.trans (by rw [← hw234]; exact e_up_eq _ _ _ _) (by omega), show w234 276 (36 * a + y6 + 38) = -z228 from (by rw [← hw234]; exact (e_up_ne _ _ (Or.inr (by omega))).trans (by rw [← hw231]; exact e_up_eq _ _ _ _))]; omega) (fun e1 => by rw [show w234 276 (36 * a + j + 32) = v1 276 (36 * a + j + 32) from (by rw [← hw234]; exact (e_up_ne _ _ (Or.inr (by omega))).trans (by rw [← hw231]; exact (e_up_ne _ _ (Or.inr (by omega))).trans rfl)), show w234 276 (36 * a + j + 38) = v1 276 (36 * a + j + 38) from (by rw [← hw234]; exact (e_up_ne _ _ (Or.inr (by omega))).trans (by rw [← hw231]; exact (e_up_ne _ _ (Or.inr (by omega))).trans rfl))]; exact j82 (by omega) j g1 (by omega))), (fun e j g1 g2 => Decidable.byCases (p := j = y6) (fun e1 => by rw [e1, show w234 276 (36 * a + y6 + 32) = w 276 (36 * a + y6 + 32) + (-z228) from Eq.trans (by rw [← hw234]; exact e_up_eq _ _ _ _) (by omega), show w234 276 (36 * a + y6 + 38) = -z228 from (by rw [← hw234]; exact (e_up_ne _ _ (Or.inr (by omega))).trans (by rw [← hw231]; exact e_up_eq _ _ _ _))]; omega) (fun e1 => by rw [show w234 276 (36 * a + j + 32) = v1 276 (36 * a + j + 32) from (by rw [← hw234]; exact (e_up_ne _ _ (Or.inr (by omega))).trans (by rw [← hw231]; exact (e_up_ne _ _ (Or.inr (by omega))).trans rfl)), show w234 276 (36 * a + j + 38) = v1 276 (36 * a + j + 38) from (by rw [← hw234]; exact (e_up_ne _ _ (Or.inr (by omega))).trans (by rw [← hw231]; exact (e_up_ne _ _ (Or.inr (by omega))).trans rfl))]; exact j83 (by omega) j g1 (by omega))), (e_fr.up (e_fr.up j84 hw231 (by unfold mVS; omega)) hw234 (by unfold mVS; omega))⟩ (by omega))
                          exact ⟨rfl, rfl, rfl, rfl, rfl, rfl, rfl, trivial⟩
                        · replace h241 : (w 276 (36 * a + y6 + 44) : Int) = v1 276 (36 * a + y6 + 32) - z228 := by have q : ¬ ((w 276 (36 * a + y6 + 44) : Int) ≠ v1 276 (36 * a + y6 + 32) - z228) := h241; omega
                          refine e_Ok.run (t' := (296, [(5, (0, z238)), (9, (0, -z228)), (8, (0, w 276 (36 * a + y6 + 44) - v1 276 (36 * a + y6 + 32))), (7, (0, v1 276 (36 * a + y6 + 38))), (0, (1, 275)), (1, (0, a)), (2, (0, 36 * a + 16)), (3, (0, 1)), (4, (0, y4)), (6, (0, y6))], [(0, 1), (0, y4)], w234)) 2 rfl ?_
                          refine e_Ok.and01 (by omega) (by omega) (fun z243 hz243 => ?_) rfl
                          replace hz243 : (0 ≤ z243 ∧ z243 ≤ 1) ∧ (z243 = 1 ↔ (y4 = 1 ∧ 1 = 1)) := hz243
                          refine e_Ok.run (t' := (299, [(4, (0, z243)), (5, (0, z238)), (9, (0, -z228)), (8, (0, w 276 (36 * a + y6 + 44) - v1 276 (36 * a + y6 + 32))), (7, (0, v1 276 (36 * a + y6 + 38))), (0, (1, 275)), (1, (0, a)), (2, (0, 36 * a + 16)), (3, (0, 1)), (6, (0, y6))], [], w234)) 1 rfl ?_
                          refine e_Ok.inc (z := y6 + 1) rfl rfl (by omega) (by omega) ?_
                          show e_Ok 20 elay ecode eI (d + 1) 388 (302, [(6, (0, y6 + 1)), (4, (0, z243)), (5, (0, z238)), (9, (0, -z228)), (8, (0, w 276 (36 * a + y6 + 44) - v1 276 (36 * a + y6 + 32))), (7, (0, v1 276 (36 * a + y6 + 38))), (0, (1, 275)), (1, (0, a)), (2, (0, 36 * a + 16)), (3, (0, 1))], [], w234) _
                          refine e_Ok.run (t' := (44, [(6, (0, y6 + 1)), (4, (0, z243)), (5, (0, z238)), (9, (0, -z228)), (8, (0, w 276 (36 * a + y6 + 44) - v1 276 (36 * a + y6 + 32))), (7, (0, v1 276 (36 * a + y6 + 38))), (0, (1, 275)), (1, (0, a)), (2, (0, 36 * a + 16)), (3, (0, 1))], [], w234)) 1 rfl ?_
                          refine e_Ok.sub eAlk (e_sub_of rfl ?_) (ih76 z243 z238 (y6 + 1) w234 ⟨f235, hT236, by omega, (fun j g1 g2 => Decidable.byCases (p := j = y6) (fun e => by rw [e, show w234 276 (36 * a + y6 + 32) = w 276 (36 * a + y6 + 32) + (-z228) from Eq.trans (by rw [← hw234]; exact e_up_eq _ _ _ _) (by omega), show w234 276 (36 * a + y6 + 38) = -z228 from (by rw [← hw234]; exact (e_up_ne _ _ (Or.inr (by omega))).trans (by rw [← hw231]; exact e_up_eq _ _ _ _))]; exact hjn) (fun e => by rw [show w234 276 (36 * a + j + 32) = v1 276 (36 * a + j + 32) from (by rw [← hw234]; exact (e_up_ne _ _ (Or.inr (by omega))).trans (by rw [← hw231]; exact (e_up_ne _ _ (Or.inr (by omega))).trans rfl)), show w234 276 (36 * a + j + 38) = v1 276 (36 * a + j + 38) from (by rw [← hw234]; exact (e_up_ne _ _ (Or.inr (by omega))).trans (by rw [← hw231]; exact (e_up_ne _ _ (Or.inr (by omega))).trans rfl))]; exact j80 j g1 (by omega))), (fun j g1 g2 => by rw [show w234 276 (36 * a + j + 32) = v1 276 (36 * a + j + 32) from (by rw [← hw234]; exact (e_up_ne _ _ (Or.inr (by omega))).trans (by rw [← hw231]; exact (e_up_ne _ _ (Or.inr (by omega))).trans rfl)), show w234 276 (36 * a + j + 38) = v1 276 (36 * a + j + 38) from (by rw [← hw234]; exact (e_up_ne _ _ (Or.inr (by omega))).trans (by rw [← hw231]; exact (e_up_ne _ _ (Or.inr (by omega))).trans rfl))]; exact j81 j (by omega) g2), (fun e j g1 g2 => Decidable.byCases (p := j = y6) (fun e1 => by rw [e1, show w234 276 (36 * a + y6 + 32) = w 276 (36 * a + y6 + 32) + (-z228) from Eq.trans (by rw [← hw234]; exact e_up_eq _ _ _ _) (by omega), show w234 276 (36 * a + y6 + 38) = -z228 from (by rw [← hw234]; exact (e_up_ne _ _ (Or.inr (by omega))).trans (by rw [← hw231]; exact e_up_eq _ _ _ _))]; omega) (fun e1 => by rw [show w234 276 (36 * a + j + 32) = v1 276 (36 * a + j + 32) from (by rw [← hw234]; exact (e_up_ne _ _ (Or.inr (by omega))).trans (by rw [← hw231]; exact (e_up_ne _ _ (Or.inr (by omega))).trans rfl)), show w234 276 (36 * a + j + 38) = v1 276 (36 * a + j + 38) from (by rw [← hw234]; exact (e_up_ne _ _ (Or.inr (by omega))).trans (by rw [← hw231]; exact (e_up_ne _ _ (Or.inr (by omega))).trans rfl))]; exact j82 (by omega) j g1 (by omega))), (fun e j g1 g2 => Decidable.byCases (p := j = y6) (fun e1 => by rw [e1, show w234 276 (36 * a + y6 + 32) = w 276 (36 * a + y6 + 32) + (-z228) from Eq.trans (by rw [← hw234]; exact e_up_eq _ _ _ _) (by omega), show w234 276 (36 * a + y6 + 38) = -z228 from (by rw [← hw234]; exact (e_up_ne _ _ (Or.inr (by omega))).trans (by rw [← hw231]; exact e_up_eq _ _ _ _))]; omega) (fun e1 => by rw [show w234 276 (36 * a + j + 32) = v1 276 (36 * a + j + 32) from (by rw [← hw234]; exact (e_up_ne _ _ (Or.inr (by omega))).trans (by rw [← hw231]; exact (e_up_ne _ _ (Or.inr (by omega))).trans rfl)), show w234 276 (36 * a + j + 38) = v1 276 (36 * a + j + 38) from (by rw [← hw234]; exact (e_up_ne _ _ (Or.inr (by omega))).trans (by rw [← hw231]; exact (e_up_ne _ _ (Or.inr (by omega))).trans rfl))]; exact j83 (by omega) j g1 (by omega))), (e_fr.up (e_fr.up j84 hw231 (by unfold mVS; omega)) hw234 (by unfold mVS; omega))⟩ (by omega))
                          exact ⟨rfl, rfl, rfl, rfl, rfl, rfl, rfl, trivial⟩
                  · replace h237 : (-z228 : Int) ≠ 0 := by have q : ¬ ((-z228 : Int) = 0) := h237; omega
                    refine e_Ok.run (t' := (250, [(9, (0, -z228)), (8, (0, w 276 (36 * a + y6 + 44) - v1 276 (36 * a + y6 + 32))), (7, (0, v1 276 (36 * a + y6 + 38))), (0, (1, 275)), (1, (0, a)), (2, (0, 36 * a + 16)), (3, (0, 1)), (4, (0, y4)), (5, (0, y5)), (6, (0, y6))], [(0, 1), (0, y5)], w234)) 2 rfl ?_
                    refine e_Ok.or01 (by omega) (by omega) (fun z244 hz244 => ?_) rfl
                    replace hz244 : (0 ≤ z244 ∧ z244 ≤ 1) ∧ (z244 = 0 ↔ (y5 = 0 ∧ 1 = 0)) := hz244
                    refine e_Ok.run (t' := (257, [(5, (0, z244)), (9, (0, -z228)), (8, (0, w 276 (36 * a + y6 + 44) - v1 276 (36 * a + y6 + 32))), (7, (0, v1 276 (36 * a + y6 + 38))), (0, (1, 275)), (1, (0, a)), (2, (0, 36 * a + 16)), (3, (0, 1)), (4, (0, y4)), (6, (0, y6))], [(0, -z228), (0, y4)], w234)) 3 rfl ?_
                    refine e_Ok.if1 rfl (fun h245 => ?_) (fun h245 => ?_)
                    · replace h245 : (-z228 : Int) ≠ 0 := h245
                      refine e_Ok.run (t' := (296, [(5, (0, z244)), (9, (0, -z228)), (8, (0, w 276 (36 * a + y6 + 44) - v1 276 (36 * a + y6 + 32))), (7, (0, v1 276 (36 * a + y6 + 38))), (0, (1, 275)), (1, (0, a)), (2, (0, 36 * a + 16)), (3, (0, 1)), (4, (0, y4)), (6, (0, y6))], [(0, 0), (0, y4)], w234)) 1 rfl ?_
                      refine e_Ok.and01 (by omega) (by omega) (fun z246 hz246 => ?_) rfl
                      replace hz246 : (0 ≤ z246 ∧ z246 ≤ 1) ∧ (z246 = 1 ↔ (y4 = 1 ∧ 0 = 1)) := hz246
                      refine e_Ok.run (t' := (299, [(4, (0, z246)), (5, (0, z244)), (9, (0, -z228)), (8, (0, w 276 (36 * a + y6 + 44) - v1 276 (36 * a + y6 + 32))), (7, (0, v1 276 (36 * a + y6 + 38))), (0, (1, 275)), (1, (0, a)), (2, (0, 36 * a + 16)), (3, (0, 1)), (6, (0, y6))], [], w234)) 1 rfl ?_
                      refine e_Ok.inc (z := y6 + 1) rfl rfl (by omega) (by omega) ?_
                      show e_Ok 20 elay ecode eI (d + 1) 388 (302, [(6, (0, y6 + 1)), (4, (0, z246)), (5, (0, z244)), (9, (0, -z228)), (8, (0, w 276 (36 * a + y6 + 44) - v1 276 (36 * a + y6 + 32))), (7, (0, v1 276 (36 * a + y6 + 38))), (0, (1, 275)), (1, (0, a)), (2, (0, 36 * a + 16)), (3, (0, 1))], [], w234) _
                      refine e_Ok.run (t' := (44, [(6, (0, y6 + 1)), (4, (0, z246)), (5, (0, z244)), (9, (0, -z228)), (8, (0, w 276 (36 * a + y6 + 44) - v1 276 (36 * a + y6 + 32))), (7, (0, v1 276 (36 * a + y6 + 38))), (0, (1, 275)), (1, (0, a)), (2, (0, 36 * a + 16)), (3, (0, 1))], [], w234)) 1 rfl ?_
                      refine e_Ok.sub eAlk (e_sub_of rfl ?_) (ih76 z246 z244 (y6 + 1) w234 ⟨f235, hT236, by omega, (fun j g1 g2 => Decidable.byCases (p := j = y6) (fun e => by rw [e, show w234 276 (36 * a + y6 + 32) = w 276 (36 * a + y6 + 32) + (-z228) from Eq.trans (by rw [← hw234]; exact e_up_eq _ _ _ _) (by omega), show w234 276 (36 * a + y6 + 38) = -z228 from (by rw [← hw234]; exact (e_up_ne _ _ (Or.inr (by omega))).trans (by rw [← hw231]; exact e_up_eq _ _ _ _))]; exact hjn) (fun e => by rw [show w234 276 (36 * a + j + 32) = v1 276 (36 * a + j + 32) from (by rw [← hw234]; exact (e_up_ne _ _ (Or.inr (by omega))).trans (by rw [← hw231]; exact (e_up_ne _ _ (Or.inr (by omega))).trans rfl)), show w234 276 (36 * a + j + 38) = v1 276 (36 * a + j + 38) from (by rw [← hw234]; exact (e_up_ne _ _ (Or.inr (by omega))).trans (by rw [← hw231]; exact (e_up_ne _ _ (Or.inr (by omega))).trans rfl))]; exact j80 j g1 (by omega))), (fun j g1 g2 => by rw [show w234 276 (36 * a + j + 32) = v1 276 (36 * a + j + 32) from (by rw [← hw234]; exact (e_up_ne _ _ (Or.inr (by omega))).trans (by rw [← hw231]; exact (e_up_ne _ _ (Or.inr (by omega))).trans rfl)), show w234 276 (36 * a + j + 38) = v1 276 (36 * a + j + 38) from (by rw [← hw234]; exact (e_up_ne _ _ (Or.inr (by omega))).trans (by rw [← hw231]; exact (e_up_ne _ _ (Or.inr (by omega))).trans rfl))]; exact j81 j (by omega) g2), (fun e j g1 g2 => Decidable.byCases (p := j = y6) (fun e1 => by rw [e1, show w234 276 (36 * a + y6 + 32) = w 276 (36 * a + y6 + 32) + (-z228) from Eq.trans (by rw [← hw234]; exact e_up_eq _ _ _ _) (by omega), show w234 276 (36 * a + y6 + 38) = -z228 from (by rw [← hw234]; exact (e_up_ne _ _ (Or.inr (by omega))).trans (by rw [← hw231]; exact e_up_eq _ _ _ _))]; omega) (fun e1 => by rw [show w234 276 (36 * a + j + 32) = v1 276 (36 * a + j + 32) from (by rw [← hw234]; exact (e_up_ne _ _ (Or.inr (by omega))).trans (by rw [← hw231]; exact (e_up_ne _ _ (Or.inr (by omega))).trans rfl)), show w234 276 (36 * a + j + 38) = v1 276 (36 * a + j + 38) from (by rw [← hw234]; exact (e_up_ne _ _ (Or.inr (by omega))).trans (by rw [← hw231]; exact (e_up_ne _ _ (Or.inr (by omega))).trans rfl))]; exact j82 (by omega) j g1 (by omega))), (fun e j g1 g2 => Decidable.byCases (p := j = y6) (fun e1 => by rw [e1, show w234 276 (36 * a + y6 + 32) = w 276 (36 * a + y6 + 32) + (-z228) from Eq.trans (by rw [← hw234]; exact e_up_eq _ _ _ _) (by omega), show w234 276 (36 * a + y6 + 38) = -z228 from (by rw [← hw234]; exact (e_up_ne _ _ (Or.inr (by omega))).trans (by rw [← hw231]; exact e_up_eq _ _ _ _))]; omega) (fun e1 => by rw [show w234 276 (36 * a + j + 32) = v1 276 (36 * a + j + 32) from (by rw [← hw234]; exact (e_up_ne _ _ (Or.inr (by omega))).trans (by rw [← hw231]; exact (e_up_ne _ _ (Or.inr (by omega))).trans rfl)), show w234 276 (36 * a + j + 38) = v1 276 (36 * a + j + 38) from (by rw [← hw234]; exact (e_up_ne _ _ (Or.inr (by omega))).trans (by rw [← hw231]; exact (e_up_ne _ _ (Or.inr (by omega))).trans rfl))]; exact j83 (by omega) j g1 (by omega))), (e_fr.up (e_fr.up j84 hw231 (by unfold mVS; omega)) hw234 (by unfold mVS; omega))⟩ (by omega))
                      exact ⟨rfl, rfl, rfl, rfl, rfl, rfl, rfl, trivial⟩
                    · replace h245 : (-z228 : Int) = 0 := by have q : ¬ ((-z228 : Int) ≠ 0) := h245; omega
                      exfalso; omega
      refine e_Ok.sub eAlk (e_sub_of rfl ?_) (hL75 (7 + 1 : Int).toNat 1 0 0 w ⟨(e_fr.refl w), hT, by omega, (fun j g1 g2 => by omega), (fun j g1 g2 => ⟨rfl, rfl⟩), (fun e j g1 g2 => by omega), (fun e j g1 g2 => by omega), (e_fr.refl w)⟩ (by omega))
      exact ⟨rfl, rfl, rfl, rfl, rfl, rfl, rfl, trivial⟩
  · replace h5 : (w 276 (36 * a + 16) : Int) = 0 := by have q : ¬ ((w 276 (36 * a + 16) : Int) ≠ 0) := h5; omega
    refine e_Ok.rets rfl rfl ?_
    exact ⟨rfl, (e_fr.refl w), hT, by omega, hMo⟩
end
