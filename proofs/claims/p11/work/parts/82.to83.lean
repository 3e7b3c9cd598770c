-- part 82
section
noncomputable section
theorem wyP.from {w : eW} {a i i' : Int} {P : Int → Int → Int} (h : wyP w a i P) (hi : i ≤ i') : wyP w a i' P := ⟨fun m g1 g2 => h.1 m (by omega) g2, fun m j g1 g2 g3 g4 => h.2.1 m j (by omega) g2 g3 g4, fun m j g1 g2 g3 g4 => h.2.2 m j (by omega) g2 g3 g4⟩
theorem joOk.halt {st v s goal lo hi g : Int} (h : joOk st v s goal lo hi g) (hs : s = 0) : joOk 0 v s goal lo hi g := ⟨h.1, fun _ => hs, fun e => by omega, fun e => by omega⟩
def mNw (a c k : Int) : Prop := c = 276 ∧ (k = 36 * a + 16 ∨ (36 * a + 22 ≤ k ∧ k ≤ 36 * a + 25) ∨ k = 36 * a + 27 ∨ (36 * a + 44 ≤ k ∧ k ≤ 36 * a + 49))
def mVS (a c k : Int) : Prop := c = 276 ∧ 36 * a + 32 ≤ k ∧ k ≤ 36 * a + 43
def mG1 (a c k : Int) : Prop := c = 280 ∨ (c = 276 ∧ (k = 5 ∨ 25060 ≤ k ∨ k = 36 * a + 16 ∨ k = 36 * a + 24 ∨ k = 36 * a + 25 ∨ (36 * a + 32 ≤ k ∧ k ≤ 36 * a + 43) ∨ (16 ≤ k ∧ k < 160 ∧ ((k - 16) % 36 = 4 ∨ (k - 16) % 36 = 5))))
theorem moK_nw {a c k : Int} (ha : 0 ≤ a ∧ a ≤ 3) (q : moK c k) (q2 : ¬ (c = 276 ∧ ((36 * a + 44 ≤ k ∧ k ≤ 36 * a + 49) ∨ k = 36 * a + 23))) : ¬ mNw a c k := by unfold moK at q; unfold mNw; omega
theorem moK_g1 {a c k : Int} (ha : 0 ≤ a ∧ a ≤ 3) (q : moK c k) (q2 : ¬ (c = 276 ∧ ((36 * a + 32 ≤ k ∧ k ≤ 36 * a + 43) ∨ (k < 160 ∧ (k - 16) % 36 = 4)))) : ¬ mG1 a c k := by unfold moK at q; unfold mG1; omega
def mGn (a c k : Int) : Prop := mG1 a c k ∨ mNw a c k
theorem c_386_b {d : Nat} {w : eW} {f s v g : Int} (hf : 0 ≤ f ∧ f ≤ 200000) (hg : 1 ≤ g ∧ g ≤ 2000) (hs : -2000 ≤ s ∧ s ≤ 2000) (hv : 1 ≤ v ∧ v ≤ 2000) : e_Ok 20 elay ecode eI d 386 (0, [(0, (0, f)), (1, (0, s)), (2, (0, v)), (3, (0, g))], [], w) (fun r w' => ∃ z : Int, r = [(0, z)] ∧ w = w' ∧ -2000 ≤ z ∧ z ≤ 2000) := by
  refine e_Ok.ps2 (x := (0, g)) (y := (0, s)) (q := 2) 2 rfl ?_
  refine e_Ok.add (z := s + g) rfl rfl (by omega) ?_
  refine e_Ok.ps1 (x := (0, v)) (q := 4) 1 rfl ?_
  refine e_Ok.if2 rfl (fun h1 => ?_) (fun h1 => ?_)
  · replace h1 : (s + g : Int) ≥ v := h1
    refine e_Ok.run (t' := (18, [(4, (0, v)), (0, (0, f)), (1, (0, s)), (2, (0, v)), (3, (0, g))], [(0, v)], w)) 3 rfl ?_
    refine e_Ok.if1 rfl (fun h2 => ?_) (fun h2 => ?_)
    · replace h2 : (v : Int) > 0 := h2
      refine e_Ok.run (t' := (27, [(5, (0, 0)), (4, (0, v)), (0, (0, f)), (1, (0, s)), (2, (0, v)), (3, (0, g))], [], w)) 2 rfl ?_
      have hL3 : ∀ (nn : Nat) (y4 : Int) (y5 : Int), 0 ≤ y5 ∧ y5 ≤ y4 ∧ y4 ≤ 2000 → y4 - y5 < nn → e_Ok 20 elay ecode eI d 386 (27, [(0, (0, f)), (3, (0, g)), (4, (0, y4)), (5, (0, y5))], [], w) (fun r w' => ∃ z : Int, r = [(0, z)] ∧ w = w' ∧ -2000 ≤ z ∧ z ≤ 2000) := by
        intro nn
        induction nn with
        | zero => intro y4 y5 hj hm; obtain j5 := hj; exfalso; omega
        | succ nn ih4 =>
          intro y4 y5 hj hm
          obtain j5 := hj
          refine e_Ok.run (t' := (31, [(0, (0, f)), (3, (0, g)), (4, (0, y4)), (5, (0, y5))], [(0, y4), (0, y5)], w)) 2 rfl ?_
          refine e_Ok.if2 rfl (fun h6 => ?_) (fun h6 => ?_)
          · replace h6 : (y5 : Int) ≥ y4 := h6
            refine e_Ok.ps1 (x := (0, y5)) (q := 101) 1 rfl ?_
            refine e_Ok.rets rfl rfl ?_
            exact ⟨_, rfl, rfl, by omega, by omega⟩
          · replace h6 : (y5 : Int) < y4 := Int.not_le.mp (show ¬ ((y5 : Int) ≥ y4) from h6)
            refine e_Ok.ps2 (x := (0, y4)) (y := (0, y5)) (q := 38) 2 rfl ?_
            refine e_Ok.add (z := y5 + y4) rfl rfl (by omega) ?_
            refine e_Ok.ps1 (x := (0, 1)) (q := 40) 1 rfl ?_
            refine e_Ok.add (z := y5 + y4 + 1) rfl rfl (by omega) ?_
            refine e_Ok.ps1 (x := (0, 2)) (q := 42) 1 rfl ?_
            refine e_Ok.divn (fun z7 hz7 => ?_) rfl (by omega) (by omega)
            replace hz7 : z7 = (y5 + y4 + 1) / 2 := hz7
            have z7r : 1 ≤ z7 ∧ z7 ≤ 2000 := by omega
            refine e_Ok.run (t' := (48, [(6, (0, z7)), (0, (0, f)), (3, (0, g)), (4, (0, y4)), (5, (0, y5))], [(0, g), (0, z7)], w)) 3 rfl ?_
            refine e_Ok.add (z := z7 + g) rfl rfl (by omega) ?_
            refine e_Ok.ps1 (x := (0, 1)) (q := 50) 1 rfl ?_
            refine e_Ok.sub' (z := z7 + g - 1) rfl rfl (by omega) ?_
            refine e_Ok.ps1 (x := (0, g)) (q := 52) 1 rfl ?_
            refine e_Ok.divn (fun z8 hz8 => ?_) rfl (by omega) (by omega)
            replace hz8 : z8 = (z7 + g - 1) / g := hz8
            refine e_Ok.run (t' := (54, [(6, (0, z7)), (0, (0, f)), (3, (0, g)), (4, (0, y4)), (5, (0, y5))], [(4, z8)], w)) 1 rfl ?_
            have hb := rW_bd (g := g) (d := z7) (by omega) (by omega) z8 hz8
            refine e_Ok.run (t' := (61, [(7, (4, z8)), (6, (0, z7)), (0, (0, f)), (3, (0, g)), (4, (0, y4)), (5, (0, y5))], [(4, z7), (4, z8)], w)) 4 rfl ?_
            refine e_Ok.mulL (z := z8 * z7) rfl (by omega) (by omega) ?_
            refine e_Ok.ps4 (x := (4, 1)) (y := (4, z8)) (z := (4, z8)) (u := (4, g)) (q := 69) 5 rfl ?_
            refine e_Ok.subL (z := z8 - 1) rfl (by omega) (by omega) ?_
            refine e_Ok.mulL (z := z8 * (z8 - 1)) rfl (by omega) (by omega) ?_
            refine e_Ok.ps1 (x := (4, 2)) (q := 74) 1 rfl ?_
            refine e_Ok.ldivn (fun x12 hx12 => ?_) rfl (by omega) (by omega)
            replace hx12 : x12 = (z8 * (z8 - 1)) / 2 := hx12
            have hb2 := hb.2.2.2 x12 hx12
            refine e_Ok.mulL (z := g * x12) rfl (by omega) (by omega) ?_
            refine e_Ok.subL (z := z8 * z7 - g * x12) rfl (by omega) (by omega) ?_
            refine e_Ok.ps1 (x := (4, f)) (q := 79) 2 rfl ?_
            refine e_Ok.lcmp rfl (fun z15 z15a z15b z15c => ?_)
            refine e_Ok.if1 rfl (fun h16 => ?_) (fun h16 => ?_)
            · replace h16 : (z15 : Int) > 0 := h16
              refine e_Ok.ps2 (x := (0, 1)) (y := (0, z7)) (q := 93) 2 rfl ?_
              refine e_Ok.sub' (z := z7 - 1) rfl rfl (by omega) ?_
              refine e_Ok.run (t' := (27, [(4, (0, z7 - 1)), (7, (4, z8)), (6, (0, z7)), (0, (0, f)), (3, (0, g)), (5, (0, y5))], [], w)) 2 rfl ?_
              refine e_Ok.sub eAlk (e_sub_of rfl ?_) (ih4 (z7 - 1) y5 (by omega) (by omega))
              exact ⟨rfl, rfl, rfl, rfl, trivial⟩
            · replace h16 : (z15 : Int) ≤ 0 := Int.not_lt.mp (show ¬ ((z15 : Int) > 0) from h16)
              refine e_Ok.run (t' := (27, [(5, (0, z7)), (7, (4, z8)), (6, (0, z7)), (0, (0, f)), (3, (0, g)), (4, (0, y4))], [], w)) 4 rfl ?_
              refine e_Ok.sub eAlk (e_sub_of rfl ?_) (ih4 y4 z7 (by omega) (by omega))
              exact ⟨rfl, rfl, rfl, rfl, trivial⟩
      refine e_Ok.sub eAlk (e_sub_of rfl ?_) (hL3 (2000 + 1 : Int).toNat v 0 (by omega) (by omega))
      exact ⟨rfl, rfl, rfl, rfl, trivial⟩
    · replace h2 : (v : Int) ≤ 0 := Int.not_lt.mp (show ¬ ((v : Int) > 0) from h2)
      exfalso; omega
  · replace h1 : (s + g : Int) < v := Int.not_le.mp (show ¬ ((s + g : Int) ≥ v) from h1)
    refine e_Ok.ps2 (x := (0, g)) (y := (0, s)) (q := 9) 2 rfl ?_
    refine e_Ok.add (z := s + g) rfl rfl (by omega) ?_
    refine e_Ok.run (t' := (18, [(4, (0, s + g)), (0, (0, f)), (1, (0, s)), (2, (0, v)), (3, (0, g))], [(0, s + g)], w)) 3 rfl ?_
    refine e_Ok.if1 rfl (fun h17 => ?_) (fun h17 => ?_)
    · replace h17 : (s + g : Int) > 0 := h17
      refine e_Ok.run (t' := (27, [(5, (0, 0)), (4, (0, s + g)), (0, (0, f)), (1, (0, s)), (2, (0, v)), (3, (0, g))], [], w)) 2 rfl ?_
      have hL18 : ∀ (nn : Nat) (y4 : Int) (y5 : Int), 0 ≤ y5 ∧ y5 ≤ y4 ∧ y4 ≤ 2000 → y4 - y5 < nn → e_Ok 20 elay ecode eI d 386 (27, [(0, (0, f)), (3, (0, g)), (4, (0, y4)), (5, (0, y5))], [], w) (fun r w' => ∃ z : Int, r = [(0, z)] ∧ w = w' ∧ -2000 ≤ z ∧ z ≤ 2000) := by
        intro nn
        induction nn with
        | zero => intro y4 y5 hj hm; obtain j20 := hj; exfalso; omega
        | succ nn ih19 =>
          intro y4 y5 hj hm
          obtain j20 := hj
          refine e_Ok.run (t' := (31, [(0, (0, f)), (3, (0, g)), (4, (0, y4)), (5, (0, y5))], [(0, y4), (0, y5)], w)) 2 rfl ?_
          refine e_Ok.if2 rfl (fun h21 => ?_) (fun h21 => ?_)
          · replace h21 : (y5 : Int) ≥ y4 := h21
            refine e_Ok.ps1 (x := (0, y5)) (q := 101) 1 rfl ?_
            refine e_Ok.rets rfl rfl ?_
            exact ⟨_, rfl, rfl, by omega, by omega⟩
          · replace h21 : (y5 : Int) < y4 := Int.not_le.mp (show ¬ ((y5 : Int) ≥ y4) from h21)
            refine e_Ok.ps2 (x := (0, y4)) (y := (0, y5)) (q := 38) 2 rfl ?_
            refine e_Ok.add (z := y5 + y4) rfl rfl (by omega) ?_
            refine e_Ok.ps1 (x := (0, 1)) (q := 40) 1 rfl ?_
            refine e_Ok.add (z := y5 + y4 + 1) rfl rfl (by omega) ?_
            refine e_Ok.ps1 (x := (0, 2)) (q := 42) 1 rfl ?_
            refine e_Ok.divn (fun z22 hz22 => ?_) rfl (by omega) (by omega)
            replace hz22 : z22 = (y5 + y4 + 1) / 2 := hz22
            have z22r : 1 ≤ z22 ∧ z22 ≤ 2000 := by omega
            refine e_Ok.run (t' := (48, [(6, (0, z22)), (0, (0, f)), (3, (0, g)), (4, (0, y4)), (5, (0, y5))], [(0, g), (0, z22)], w)) 3 rfl ?_
            refine e_Ok.add (z := z22 + g) rfl rfl (by omega) ?_
            refine e_Ok.ps1 (x := (0, 1)) (q := 50) 1 rfl ?_
            refine e_Ok.sub' (z := z22 + g - 1) rfl rfl (by omega) ?_
            refine e_Ok.ps1 (x := (0, g)) (q := 52) 1 rfl ?_
            refine e_Ok.divn (fun z23 hz23 => ?_) rfl (by omega) (by omega)
            replace hz23 : z23 = (z22 + g - 1) / g := hz23
            refine e_Ok.run (t' := (54, [(6, (0, z22)), (0, (0, f)), (3, (0, g)), (4, (0, y4)), (5, (0, y5))], [(4, z23)], w)) 1 rfl ?_
            have hb := rW_bd (g := g) (d := z22) (by omega) (by omega) z23 hz23
            refine e_Ok.run (t' := (61, [(7, (4, z23)), (6, (0, z22)), (0, (0, f)), (3, (0, g)), (4, (0, y4)), (5, (0, y5))], [(4, z22), (4, z23)], w)) 4 rfl ?_
            refine e_Ok.mulL (z := z23 * z22) rfl (by omega) (by omega) ?_
            refine e_Ok.ps4 (x := (4, 1)) (y := (4, z23)) (z := (4, z23)) (u := (4, g)) (q := 69) 5 rfl ?_
            refine e_Ok.subL (z := z23 - 1) rfl (by omega) (by omega) ?_
            refine e_Ok.mulL (z := z23 * (z23 - 1)) rfl (by omega) (by omega) ?_
            refine e_Ok.ps1 (x := (4, 2)) (q := 74) 1 rfl ?_
            refine e_Ok.ldivn (fun x27 hx27 => ?_) rfl (by omega) (by omega)
            replace hx27 : x27 = (z23 * (z23 - 1)) / 2 := hx27
            have hb2 := hb.2.2.2 x27 hx27
            refine e_Ok.mulL (z := g * x27) rfl (by omega) (by omega) ?_
            refine e_Ok.subL (z := z23 * z22 - g * x27) rfl (by omega) (by omega) ?_
            refine e_Ok.ps1 (x := (4, f)) (q := 79) 2 rfl ?_
            refine e_Ok.lcmp rfl (fun z30 z30a z30b z30c => ?_)
            refine e_Ok.if1 rfl (fun h31 => ?_) (fun h31 => ?_)
            · replace h31 : (z30 : Int) > 0 := h31
              refine e_Ok.ps2 (x := (0, 1)) (y := (0, z22)) (q := 93) 2 rfl ?_
              refine e_Ok.sub' (z := z22 - 1) rfl rfl (by omega) ?_
              refine e_Ok.run (t' := (27, [(4, (0, z22 - 1)), (7, (4, z23)), (6, (0, z22)), (0, (0, f)), (3, (0, g)), (5, (0, y5))], [], w)) 2 rfl ?_
              refine e_Ok.sub eAlk (e_sub_of rfl ?_) (ih19 (z22 - 1) y5 (by omega) (by omega))
              exact ⟨rfl, rfl, rfl, rfl, trivial⟩
            · replace h31 : (z30 : Int) ≤ 0 := Int.not_lt.mp (show ¬ ((z30 : Int) > 0) from h31)
              refine e_Ok.run (t' := (27, [(5, (0, z22)), (7, (4, z23)), (6, (0, z22)), (0, (0, f)), (3, (0, g)), (4, (0, y4))], [], w)) 4 rfl ?_
              refine e_Ok.sub eAlk (e_sub_of rfl ?_) (ih19 y4 z22 (by omega) (by omega))
              exact ⟨rfl, rfl, rfl, rfl, trivial⟩
      refine e_Ok.sub eAlk (e_sub_of rfl ?_) (hL18 (2000 + 1 : Int).toNat (s + g) 0 (by omega) (by omega))
      exact ⟨rfl, rfl, rfl, rfl, trivial⟩
    · replace h17 : (s + g : Int) ≤ 0 := Int.not_lt.mp (show ¬ ((s + g : Int) > 0) from h17)
      refine e_Ok.ps1 (x := (0, s + g)) (q := 23) 1 rfl ?_
      refine e_Ok.rets rfl rfl ?_
      exact ⟨_, rfl, rfl, by omega, by omega⟩
theorem no_82_0 {a : Int} {k : Int} : ¬ mGo a 275 k := by unfold mGo; omega
theorem no_82_1 {a : Int} {k : Int} : ¬ mGo a 286 k := by unfold mGo; omega
theorem no_82_2 {a : Int} (ha : 0 ≤ a ∧ a ≤ 3) : ¬ mGo a 276 (36 * a + 19) := by unfold mGo; omega
theorem no_82_3 {a : Int} (ha : 0 ≤ a ∧ a ≤ 3) : ¬ mBe a 276 (36 * a + 23) := by unfold mBe; omega
theorem no_82_4 {a : Int} (ha : 0 ≤ a ∧ a ≤ 3) : ¬ mBe a 276 (36 * a + 19) := by unfold mBe; omega
theorem no_82_5 {a : Int} (ha : 0 ≤ a ∧ a ≤ 3) : ¬ mBe a 276 (36 * a + 26) := by unfold mBe; omega
theorem no_82_6 {a : Int} (ha : 0 ≤ a ∧ a ≤ 3) : ¬ mGo a 276 (36 * a + 26) := by unfold mGo; omega
theorem no_82_7 {a : Int} {k : Int} : ¬ mBe a 286 k := by unfold mBe; omega
theorem no_82_8 {a : Int} {j : Int} (ha : 0 ≤ a ∧ a ≤ 3) (hj : 0 ≤ j ∧ j ≤ 5) : ¬ mBe a 276 (36 * a + j + 44) := by unfold mBe; omega
theorem su_82_39 {a : Int} {c k : Int} (q : mBe a c k) : mNw a c k := by
  unfold mBe at q
  rcases q with ⟨q, (q | q | q | q)⟩
  · exact ⟨(by omega), Or.inl (by omega)⟩
  · exact ⟨(by omega), Or.inr (Or.inl ⟨(by omega), (by omega)⟩)⟩
  · exact ⟨(by omega), Or.inr (Or.inl ⟨(by omega), (by omega)⟩)⟩
  · exact ⟨(by omega), Or.inr (Or.inr (Or.inl (by omega)))⟩
set_option maxHeartbeats 4000000 in
theorem c_391 {d : Nat} (hd : 22 ≤ d) {w : eW} (hT : e_Has mTy w) (hCf : mCf w) {a : Int} (ha : 0 ≤ a ∧ a ≤ 3) (hMo : mMo w a) (hS : w 276 (36 * a + 16) = 0) (hPw : w 276 1 = 1) : e_Ok 20 elay ecode eI d 391 (0, [(0, (1, 275)), (1, (0, a))], [], w) (fun r w' => r = [] ∧ e_fr (mNw a) w w' ∧ e_Has mTy w' ∧ mMo w' (-1)) := by
  obtain ⟨d, rfl⟩ : ∃ e, d = e + 1 := ⟨d - 1, by omega⟩
  have hja := (e_Has.get hT (c := 286) (k := a) (lo := 0) (hi := 6) (mt_o rfl) (by decide))
  refine e_Ok.ps1 (x := (0, a)) (q := 1) 1 rfl ?_
  refine e_Ok.callS rfl (e_dq hd rfl) rfl rfl (c_268 (by omega)) (fun r1 w2 h3 => ?_)
  obtain ⟨rfl, rfl⟩ := h3
  refine e_Ok.nrm (q := 4) (st' := [(0, 36 * a + 16)]) rfl rfl ?_
  refine e_Ok.run (t' := (6, [(2, (0, 36 * a + 16)), (0, (1, 275)), (1, (0, a))], [(1, 275)], w)) 2 rfl ?_
  refine e_Ok.getr (z := 276) rfl (el_o rfl) rfl (ef_o rfl) (e_Has.eq hT (mt_o rfl)) ⟨by decide, by decide⟩ ?_
  refine e_Ok.ps2 (x := (0, 6)) (y := (0, 36 * a + 16)) (q := 12) 2 rfl ?_
  refine e_Ok.add (z := 36 * a + 22) rfl (e_adl (by decide)) (by omega) ?_
  have h4 := (e_Has.get hT (c := 276) (k := 36 * a + 22) (lo := 0) (hi := 1) (nR_TRAVELS (a := a) (by omega)) (by decide))
  refine e_Ok.ald (z := w 276 (36 * a + 22)) rfl (el_o rfl) rfl (by omega) rfl (e_bq h4 (by decide) (by decide)) ?_
  refine e_Ok.if1 rfl (fun h5 => ?_) (fun h5 => ?_)
  · replace h5 : (w 276 (36 * a + 22) : Int) ≠ 0 := h5
    obtain ⟨-, hle, P, hP1, hP2⟩ := (hMo.2.1 a ha.1 ha.2).2 (by omega)
    have hsz := e_Has.get hT (nR_WAY_SIZE (a := a) ha) (by decide)
    have hta := e_Has.get hT (nR_TRAVEL_AT (a := a) ha) (by decide)
    refine e_Ok.ps1 (x := (1, 275)) (q := 19) 1 rfl ?_
    refine e_Ok.getr (z := 276) rfl (el_o rfl) rfl (ef_o rfl) (e_Has.eq hT (mt_o rfl)) ⟨by decide, by decide⟩ ?_
    refine e_Ok.ps2 (x := (0, 7)) (y := (0, 36 * a + 16)) (q := 25) 2 rfl ?_
    refine e_Ok.add (z := 36 * a + 23) rfl (e_adl (by decide)) (by omega) ?_
    have h6 := (e_Has.get hT (c := 276) (k := 36 * a + 23) (lo := 0) (hi := 1000) (nR_TRAVEL_AT (a := a) (by omega)) (by decide))
    refine e_Ok.ald (z := w 276 (36 * a + 23)) rfl (el_o rfl) rfl (by omega) rfl (e_bq h6 (by decide) (by decide)) ?_
    refine e_Ok.run (t' := (30, [(3, (0, w 276 (36 * a + 23))), (2, (0, 36 * a + 16)), (0, (1, 275)), (1, (0, a))], [(1, 275), (0, w 276 (36 * a + 23))], w)) 3 rfl ?_
    refine e_Ok.getr (z := 276) rfl (el_o rfl) rfl (ef_o rfl) (e_Has.eq hT (mt_o rfl)) ⟨by decide, by decide⟩ ?_
    refine e_Ok.ps2 (x := (0, 3)) (y := (0, 36 * a + 16)) (q := 35) 2 rfl ?_
    refine e_Ok.add (z := 36 * a + 19) rfl (e_adl (by decide)) (by omega) ?_
    have h7 := (e_Has.get hT (c := 276) (k := 36 * a + 19) (lo := (-1)) (hi := 999) (nR_WAY_SIZE (a := a) (by omega)) (by decide))
    refine e_Ok.ald (z := w 276 (36 * a + 19)) rfl (el_o rfl) rfl (by omega) rfl (e_bq h7 (by decide) (by decide)) ?_
    refine e_Ok.if2 rfl (fun h8 => ?_) (fun h8 => ?_)
    · replace h8 : (w 276 (36 * a + 23) : Int) ≠ w 276 (36 * a + 19) := h8
      refine e_Ok.run (t' := (54, [(4, (0, 0)), (3, (0, w 276 (36 * a + 23))), (2, (0, 36 * a + 16)), (0, (1, 275)), (1, (0, a))], [], w)) 2 rfl ?_
      have hL9 : ∀ (nn : Nat) (y4 : Int) (v1 : eW), e_fr (mNw a) w v1 ∧ e_Has mTy v1 ∧ (0 ≤ y4 ∧ y4 ≤ 6) ∧ (∀ j, 0 ≤ j → j < y4 → v1 276 (36 * a + j + 44) = w 276 (36 * a + j + 32)) ∧ e_fr (mGo a) w v1 → 7 - y4 < nn → e_Ok 20 elay ecode eI (d + 1) 391 (54, [(0, (1, 275)), (1, (0, a)), (2, (0, 36 * a + 16)), (3, (0, w 276 (36 * a + 23))), (4, (0, y4))], [], v1) (fun r w' => r = [] ∧ e_fr (mNw a) w w' ∧ e_Has mTy w' ∧ mMo w' (-1)) := by
        intro nn
        induction nn with
        | zero => intro y4 v1 hj hm; obtain ⟨j11, j12, j13, j14, j15⟩ := hj; exfalso; omega
        | succ nn ih10 =>
          intro y4 v1 hj hm
          obtain ⟨j11, j12, j13, j14, j15⟩ := hj
          refine e_Ok.run (t' := (57, [(0, (1, 275)), (1, (0, a)), (2, (0, 36 * a + 16)), (3, (0, w 276 (36 * a + 23))), (4, (0, y4))], [(1, 275), (0, y4)], v1)) 2 rfl ?_
          refine e_Ok.getr (z := 286) rfl (el_o rfl) rfl (ef_o rfl) ((j15 275 15 (by first | exact no_82_0 | (unfold mGo; omega))).trans (e_Has.eq hT (mt_o rfl))) ⟨by decide, by decide⟩ ?_
          refine e_Ok.ps1 (x := (0, a)) (q := 61) 1 rfl ?_
          refine e_Ok.ald (z := w 286 a) rfl (el_o rfl) rfl (by omega) ((j15 286 a (by first | exact no_82_1 | (unfold mGo; omega))).trans rfl) (by omega) ?_
          refine e_Ok.if2 rfl (fun h16 => ?_) (fun h16 => ?_)
          · replace h16 : (y4 : Int) ≥ w 286 a := h16
            refine e_Ok.ps1 (x := (1, 275)) (q := 96) 1 rfl ?_
            refine e_Ok.getr (z := 276) rfl (el_o rfl) rfl (ef_o rfl) ((j15 275 0 (by first | exact no_82_0 | (unfold mGo; omega))).trans (e_Has.eq hT (mt_o rfl))) ⟨by decide, by decide⟩ ?_
            refine e_Ok.ps3 (x := (0, a)) (y := (0, 1000)) (z := (0, 21060)) (q := 106) 3 rfl ?_
            refine e_Ok.mul (z := 1000 * a) rfl rfl (by omega) ?_
            refine e_Ok.add (z := 1000 * a + 21060) rfl (Int.add_comm _ _) (by omega) ?_
            refine e_Ok.ps1 (x := (0, w 276 (36 * a + 23))) (q := 109) 1 rfl ?_
            refine e_Ok.add (z := 1000 * a + w 276 (36 * a + 23) + 21060) rfl (by omega) (by omega) ?_
            have h17 := (e_Has.get hT (c := 276) (k := 1000 * a + w 276 (36 * a + 23) + 21060) (lo := 0) (hi := 11) (nR_WAY (by omega)) (by decide))
            refine e_Ok.ald (z := w 276 (1000 * a + w 276 (36 * a + 23) + 21060)) rfl rfl rfl (by omega) ((j15 276 (1000 * a + w 276 (36 * a + 23) + 21060) (by unfold mGo; omega)).trans rfl) (e_bq h17 (by decide) (by decide)) ?_
            refine e_Ok.run (t' := (113, [(4, (0, w 276 (1000 * a + w 276 (36 * a + 23) + 21060))), (0, (1, 275)), (1, (0, a)), (2, (0, 36 * a + 16)), (3, (0, w 276 (36 * a + 23)))], [], v1)) 1 rfl ?_
            have hL18 : ∀ (nn : Nat) (y3 : Int) (v2 : eW), e_fr (mNw a) w v2 ∧ e_Has mTy v2 ∧ (w 276 (36 * a + 23) ≤ y3 ∧ y3 ≤ w 276 (36 * a + 19)) ∧ (∀ j, 0 ≤ j → j < w 286 a → v2 276 (36 * a + j + 44) = P y3 j) ∧ e_fr (mGo a) w v2 → 1000 - y3 < nn → e_Ok 20 elay ecode eI (d + 1) 391 (113, [(0, (1, 275)), (1, (0, a)), (2, (0, 36 * a + 16)), (3, (0, y3)), (4, (0, w 276 (1000 * a + w 276 (36 * a + 23) + 21060)))], [], v2) (fun r w' => r = [] ∧ e_fr (mNw a) w w' ∧ e_Has mTy w' ∧ mMo w' (-1)) := by
              intro nn
              induction nn with
              | zero => intro y3 v2 hj hm; obtain ⟨j20, j21, j22, j23, j24⟩ := hj; exfalso; omega
              | succ nn ih19 =>
                intro y3 v2 hj hm
                obtain ⟨j20, j21, j22, j23, j24⟩ := hj
                refine e_Ok.run (t' := (115, [(0, (1, 275)), (1, (0, a)), (2, (0, 36 * a + 16)), (3, (0, y3)), (4, (0, w 276 (1000 * a + w 276 (36 * a + 23) + 21060)))], [(1, 275), (0, y3)], v2)) 2 rfl ?_
                refine e_Ok.getr (z := 276) rfl (el_o rfl) rfl (ef_o rfl) ((j24 275 0 (by first | exact no_82_0 | (unfold mGo; omega))).trans (e_Has.eq hT (mt_o rfl))) ⟨by decide, by decide⟩ ?_
                refine e_Ok.ps2 (x := (0, 3)) (y := (0, 36 * a + 16)) (q := 120) 2 rfl ?_
                refine e_Ok.add (z := 36 * a + 19) rfl (e_adl (by decide)) (by omega) ?_
                refine e_Ok.ald (z := w 276 (36 * a + 19)) rfl (el_o rfl) rfl (by omega) ((j24 276 (36 * a + 19) (by first | exact no_82_2 (by omega) | (unfold mGo; omega))).trans rfl) (by omega) ?_
                refine e_Ok.if2 rfl (fun h25 => ?_) (fun h25 => ?_)
                · replace h25 : (y3 : Int) ≥ w 276 (36 * a + 19) := h25
                  refine e_Ok.ps1 (x := (1, 275)) (q := 199) 1 rfl ?_
                  refine e_Ok.getr (z := 276) rfl (el_o rfl) rfl (ef_o rfl) ((j24 275 0 (by first | exact no_82_0 | (unfold mGo; omega))).trans (e_Has.eq hT (mt_o rfl))) ⟨by decide, by decide⟩ ?_
                  refine e_Ok.ps2 (x := (0, 7)) (y := (0, 36 * a + 16)) (q := 205) 2 rfl ?_
                  refine e_Ok.add (z := 36 * a + 23) rfl (e_adl (by decide)) (by omega) ?_
                  refine e_Ok.ps1 (x := (0, y3)) (q := 207) 1 rfl ?_
                  refine e_Ok.ast rfl (el_o rfl) rfl rfl (by omega) ?_
                  generalize hw26 : e_up v2 276 (36 * a + 23) y3 = w26
                  have hT28 : e_Has mTy w26 := e_Has.upr j21 hw26 (nR_TRAVEL_AT (a := a) (by omega)) (by omega)
                  refine e_Ok.ps2 (x := (0, a)) (y := (1, 275)) (q := 210) 2 rfl ?_
                  refine e_Ok.callV rfl (e_dq hd rfl) rfl rfl rfl rfl (c_381 (e_dq hd rfl) hT28 (mCf.fr hCf (fun c k q => (e_uq hw26 (Or.inl (by omega)) ((j24 c k (by unfold mGo; omega)).trans rfl)))) (by omega)) (fun r29 w30 h31 => ?_)
                  obtain ⟨rfl, q32, q32T, q32s⟩ := h31
                  have f33 : e_fr (mNw a) w w30 := e_fr.trans (show e_fr (mNw a) w w26 from e_fr.up j20 hw26 (by first | exact ⟨rfl, Or.inr (Or.inl ⟨(by omega), (by omega)⟩)⟩ | (unfold mNw; omega))) (e_fr.mono q32 (fun c k q => by first | exact su_82_39 q | (unfold mBe at q; unfold mNw; omega)))
                  refine e_Ok.nrm (q := 213) (st' := []) rfl rfl ?_
                  refine e_Ok.rets rfl rfl ?_
                  have e23 : w30 276 (36 * a + 23) = y3 := ((q32 276 (36 * a + 23) (by first | exact no_82_3 (by omega) | (unfold mBe; omega))).trans (e_ue hw26))
                  have e19 : w30 276 (36 * a + 19) = w 276 (36 * a + 19) := ((q32 276 (36 * a + 19) (by first | exact no_82_4 (by omega) | (unfold mBe; omega))).trans (e_uq hw26 (Or.inr (e_neo (by decide))) ((j24 276 (36 * a + 19) (by first | exact no_82_2 (by omega) | (unfold mGo; omega))).trans rfl)))
                  have e26 : w30 276 (36 * a + 26) = w 276 (36 * a + 26) := ((q32 276 (36 * a + 26) (by first | exact no_82_5 (by omega) | (unfold mBe; omega))).trans (e_uq hw26 (Or.inr (e_neo (by decide))) ((j24 276 (36 * a + 26) (by first | exact no_82_6 (by omega) | (unfold mGo; omega))).trans rfl)))
                  have e286 : w30 286 a = w 286 a := ((q32 286 a (by first | exact no_82_7 | (unfold mBe; omega))).trans (e_uq hw26 (Or.inl (by decide)) ((j24 286 a (by first | exact no_82_1 | (unfold mGo; omega))).trans rfl)))
                  have egl : ∀ j, 0 ≤ j → j < w 286 a → w30 276 (36 * a + j + 44) = P y3 j := fun j g1 g2 => (Eq.trans ((q32 276 (36 * a + j + 44) (by first | exact no_82_8 (by omega) (by omega) | (unfold mBe; omega))).trans (e_uq hw26 (Or.inr (by omega)) rfl)) (j23 j g1 (by omega)))
                  exact ⟨rfl, f33, q32T, mMo.begin hMo (Or.inr rfl) (e_Has.mo hT) ha hS (by omega) (fun c k q q2 => f33 c k (moK_nw ha q q2)) (fun b g1 g2 g3 => ⟨f33 276 _ (by unfold mNw; omega), f33 276 _ (by unfold mNw; omega)⟩) q32s (fun j g1 g2 => by rw [egl j g1 g2]; exact hP1.2.2 y3 j (by omega) (by omega) g1 g2) (fun _ => by rw [e23, e19, e286]; exact ⟨by omega, P, (hP1.from (by omega)).fr ha (by omega) (by omega) e19 e26 (fun c k q => f33 c k (by unfold mNw; omega)) (fun k q1 q2 => f33 276 k (by unfold mNw; omega)), fun j g1 g2 => (egl j g1 g2).symm⟩)⟩
                · replace h25 : (y3 : Int) < w 276 (36 * a + 19) := Int.not_le.mp (show ¬ ((y3 : Int) ≥ w 276 (36 * a + 19)) from h25)
                  refine e_Ok.ps1 (x := (1, 275)) (q := 126) 1 rfl ?_
                  refine e_Ok.getr (z := 276) rfl (el_o rfl) rfl (ef_o rfl) ((j24 275 0 (by first | exact no_82_0 | (unfold mGo; omega))).trans (e_Has.eq hT (mt_o rfl))) ⟨by decide, by decide⟩ ?_
                  refine e_Ok.ps3 (x := (0, a)) (y := (0, 1000)) (z := (0, 21060)) (q := 136) 3 rfl ?_
                  refine e_Ok.mul (z := 1000 * a) rfl rfl (by omega) ?_
                  refine e_Ok.add (z := 1000 * a + 21060) rfl (Int.add_comm _ _) (by omega) ?_
                  refine e_Ok.ps1 (x := (0, y3)) (q := 139) 1 rfl ?_
                  refine e_Ok.add (z := 1000 * a + y3 + 21060) rfl (by omega) (by omega) ?_
                  have h34 := (e_Has.get hT (c := 276) (k := 1000 * a + y3 + 21060) (lo := 0) (hi := 11) (nR_WAY (by omega)) (by decide))
                  refine e_Ok.ald (z := w 276 (1000 * a + y3 + 21060)) rfl (el_o rfl) rfl (by omega) ((j24 276 (1000 * a + y3 + 21060) (by unfold mGo; omega)).trans rfl) (e_bq h34 (by decide) (by decide)) ?_
                  refine e_Ok.ps1 (x := (0, w 276 (1000 * a + w 276 (36 * a + 23) + 21060))) (q := 143) 1 rfl ?_
                  refine e_Ok.if2 rfl (fun h35 => ?_) (fun h35 => ?_)
                  · replace h35 : (w 276 (1000 * a + y3 + 21060) : Int) ≠ w 276 (1000 * a + w 276 (36 * a + 23) + 21060) := h35
                    refine e_Ok.ps1 (x := (1, 275)) (q := 199) 1 rfl ?_
                    refine e_Ok.getr (z := 276) rfl (el_o rfl) rfl (ef_o rfl) ((j24 275 0 (by first | exact no_82_0 | (unfold mGo; omega))).trans (e_Has.eq hT (mt_o rfl))) ⟨by decide, by decide⟩ ?_
                    refine e_Ok.ps2 (x := (0, 7)) (y := (0, 36 * a + 16)) (q := 205) 2 rfl ?_
                    refine e_Ok.add (z := 36 * a + 23) rfl (e_adl (by decide)) (by omega) ?_
                    refine e_Ok.ps1 (x := (0, y3)) (q := 207) 1 rfl ?_
                    refine e_Ok.ast rfl (el_o rfl) rfl rfl (by omega) ?_
                    generalize hw36 : e_up v2 276 (36 * a + 23) y3 = w36
                    have hT38 : e_Has mTy w36 := e_Has.upr j21 hw36 (nR_TRAVEL_AT (a := a) (by omega)) (by omega)
                    refine e_Ok.ps2 (x := (0, a)) (y := (1, 275)) (q := 210) 2 rfl ?_
                    refine e_Ok.callV rfl (e_dq hd rfl) rfl rfl rfl rfl (c_381 (e_dq hd rfl) hT38 (mCf.fr hCf (fun c k q => (e_uq hw36 (Or.inl (by omega)) ((j24 c k (by unfold mGo; omega)).trans rfl)))) (by omega)) (fun r40 w41 h42 => ?_)
                    obtain ⟨rfl, q43, q43T, q43s⟩ := h42
                    have f44 : e_fr (mNw a) w w41 := e_fr.trans (show e_fr (mNw a) w w36 from e_fr.up j20 hw36 (by first | exact ⟨rfl, Or.inr (Or.inl ⟨(by omega), (by omega)⟩)⟩ | (unfold mNw; omega))) (e_fr.mono q43 (fun c k q => by first | exact su_82_39 q | (unfold mBe at q; unfold mNw; omega)))
                    refine e_Ok.nrm (q := 213) (st' := []) rfl rfl ?_
                    refine e_Ok.rets rfl rfl ?_
                    have e23 : w41 276 (36 * a + 23) = y3 := ((q43 276 (36 * a + 23) (by first | exact no_82_3 (by omega) | (unfold mBe; omega))).trans (e_ue hw36))
                    have e19 : w41 276 (36 * a + 19) = w 276 (36 * a + 19) := ((q43 276 (36 * a + 19) (by first | exact no_82_4 (by omega) | (unfold mBe; omega))).trans (e_uq hw36 (Or.inr (e_neo (by decide))) ((j24 276 (36 * a + 19) (by first | exact no_82_2 (by omega) | (unfold mGo; omega))).trans rfl)))
                    have e26 : w41 276 (36 * a + 26) = w 276 (36 * a + 26) := ((q43 276 (36 * a + 26) (by first | exact no_82_5 (by omega) | (unfold mBe; omega))).trans (e_uq hw36 (Or.inr (e_neo (by decide))) ((j24 276 (36 * a + 26) (by first | exact no_82_6 (by omega) | (unfold mGo; omega))).trans rfl)))
                    have e286 : w41 286 a = w 286 a := ((q43 286 a (by first | exact no_82_7 | (unfold mBe; omega))).trans (e_uq hw36 (Or.inl (by decide)) ((j24 286 a (by first | exact no_82_1 | (unfold mGo; omega))).trans rfl)))
                    have egl : ∀ j, 0 ≤ j → j < w 286 a → w41 276 (36 * a + j + 44) = P y3 j := fun j g1 g2 => (Eq.trans ((q43 276 (36 * a + j + 44) (by first | exact no_82_8 (by omega) (by omega) | (unfold mBe; omega))).trans (e_uq hw36 (Or.inr (by omega)) rfl)) (j23 j g1 (by omega)))
                    exact ⟨rfl, f44, q43T, mMo.begin hMo (Or.inr rfl) (e_Has.mo hT) ha hS (by omega) (fun c k q q2 => f44 c k (moK_nw ha q q2)) (fun b g1 g2 g3 => ⟨f44 276 _ (by unfold mNw; omega), f44 276 _ (by unfold mNw; omega)⟩) q43s (fun j g1 g2 => by rw [egl j g1 g2]; exact hP1.2.2 y3 j (by omega) (by omega) g1 g2) (fun _ => by rw [e23, e19, e286]; exact ⟨by omega, P, (hP1.from (by omega)).fr ha (by omega) (by omega) e19 e26 (fun c k q => f44 c k (by unfold mNw; omega)) (fun k q1 q2 => f44 276 k (by unfold mNw; omega)), fun j g1 g2 => (egl j g1 g2).symm⟩)⟩
                  · replace h35 : (w 276 (1000 * a + y3 + 21060) : Int) = w 276 (1000 * a + w 276 (36 * a + 23) + 21060) := Classical.not_not.mp (show ¬ ((w 276 (1000 * a + y3 + 21060) : Int) ≠ w 276 (1000 * a + w 276 (36 * a + 23) + 21060)) from h35)
                    refine e_Ok.ps1 (x := (1, 275)) (q := 147) 1 rfl ?_
                    refine e_Ok.getr (z := 276) rfl (el_o rfl) rfl (ef_o rfl) ((j24 275 0 (by first | exact no_82_0 | (unfold mGo; omega))).trans (e_Has.eq hT (mt_o rfl))) ⟨by decide, by decide⟩ ?_
                    refine e_Ok.ps2 (x := (0, 28)) (y := (0, 36 * a + 16)) (q := 153) 2 rfl ?_
                    refine e_Ok.add (z := 36 * a + 44) rfl (e_adl (by decide)) (by omega) ?_
                    refine e_Ok.ps2 (x := (0, 2)) (y := (0, w 276 (1000 * a + w 276 (36 * a + 23) + 21060))) (q := 157) 2 rfl ?_
                    refine e_Ok.divn (fun z45 hz45 => ?_) rfl (by omega) (by omega)
                    replace hz45 : z45 = (w 276 (1000 * a + w 276 (36 * a + 23) + 21060)) / 2 := hz45
                    have z45r : 0 ≤ z45 ∧ z45 ≤ 5 := by omega
                    refine e_Ok.add (z := 36 * a + z45 + 44) rfl (by omega) (by omega) ?_
                    refine e_Ok.ps2 (x := (0, 36 * a + z45 + 44)) (y := (1, 276)) (q := 160) 1 rfl ?_
                    have h46 := (e_Has.get j21 (c := 276) (k := 36 * a + z45 + 44) (lo := (-100000)) (hi := 100000) (nR_GOAL (a := a) (j := z45) (by omega) (by omega)) (by decide))
                    refine e_Ok.ald (z := v2 276 (36 * a + z45 + 44)) rfl (el_o rfl) rfl (by omega) rfl (e_bq h46 (by decide) (by decide)) ?_
                    refine e_Ok.ps2 (x := (0, 2)) (y := (0, w 276 (1000 * a + w 276 (36 * a + 23) + 21060))) (q := 164) 2 rfl ?_
                    refine e_Ok.remn (fun z47 hz47 => ?_) rfl (by omega) (by omega)
                    replace hz47 : z47 = (w 276 (1000 * a + w 276 (36 * a + 23) + 21060)) % 2 := hz47
                    have z47r : 0 ≤ z47 ∧ z47 ≤ 1 := by omega
                    refine e_Ok.if1 rfl (fun h48 => ?_) (fun h48 => ?_)
                    · replace h48 : (z47 : Int) ≠ 0 := h48
                      refine e_Ok.ps1 (x := (1, 275)) (q := 181) 1 rfl ?_
                      refine e_Ok.getr (z := 276) rfl (el_o rfl) rfl (ef_o rfl) ((j24 275 0 (by first | exact no_82_0 | (unfold mGo; omega))).trans (e_Has.eq hT (mt_o rfl))) ⟨by decide, by decide⟩ ?_
                      refine e_Ok.ps2 (x := (0, 10)) (y := (0, 36 * a + 16)) (q := 187) 2 rfl ?_
                      refine e_Ok.add (z := 36 * a + 26) rfl (e_adl (by decide)) (by omega) ?_
                      have h49 := (e_Has.get hT (c := 276) (k := 36 * a + 26) (lo := 0) (hi := 16) (nR_WIDE (a := a) (by omega)) (by decide))
                      refine e_Ok.ald (z := w 276 (36 * a + 26)) rfl (el_o rfl) rfl (by omega) ((j24 276 (36 * a + 26) (by first | exact no_82_6 (by omega) | (unfold mGo; omega))).trans rfl) (e_bq h49 (by decide) (by decide)) ?_
                      refine e_Ok.neg (z := -w 276 (36 * a + 26)) rfl (by omega) (by omega) ?_
                      have hw1 := hP1.1 y3 (by omega) (by omega)
                      have hw2 := hP1.2.1 y3 z45 (by omega) (by omega) (by omega) (by omega)
                      have hw3 := hP1.2.2 (y3 + 1) z45 (by omega) (by omega) (by omega) (by omega)
                      have hw4 := j23 z45 (by omega) (by omega)
                      have hb288 := e_Has.get hT (c := 288) (k := 6 * a + z45) (lo := -100000) (hi := 0) (mt_o rfl) (by decide)
                      have hb289 := e_Has.get hT (c := 289) (k := 6 * a + z45) (lo := 0) (hi := 100000) (mt_o rfl) (by decide)
                      refine e_Ok.add (z := v2 276 (36 * a + z45 + 44) - w 276 (36 * a + 26)) rfl (by omega) (by omega) ?_
                      refine e_Ok.ast rfl (el_o rfl) rfl rfl (by omega) ?_
                      generalize hw50 : e_up v2 276 (36 * a + z45 + 44) (v2 276 (36 * a + z45 + 44) - w 276 (36 * a + 26)) = w50
                      have hT52 : e_Has mTy w50 := e_Has.upr j21 hw50 (nR_GOAL (a := a) (j := z45) (by omega) (by omega)) (by omega)
                      refine e_Ok.inc (z := y3 + 1) rfl rfl (by first | with_reducible rfl | omega) (by omega) ?_
                      show e_Ok 20 elay ecode eI (d + 1) 391 (195, [(3, (0, y3 + 1)), (0, (1, 275)), (1, (0, a)), (2, (0, 36 * a + 16)), (4, (0, w 276 (1000 * a + w 276 (36 * a + 23) + 21060)))], [], w50) _
                      refine e_Ok.ps0 (q := 113) 1 rfl ?_
                      refine e_Ok.sub eAlk (e_sub_of rfl ?_) (ih19 (y3 + 1) w50 ⟨(show e_fr (mNw a) w w50 from e_fr.up j20 hw50 (by unfold mNw; omega)), hT52, by omega, (fun j g1 g2 => Decidable.byCases (p := j = z45) (fun e => by rw [e, ← hw50, e_up_eq]; omega) (fun e => Eq.trans (show w50 276 (36 * a + j + 44) = v2 276 (36 * a + j + 44) from by rw [← hw50]; exact e_up_ne _ _ (Or.inr (by omega))) (by have q1 := j23 j g1 g2; have q2 := (hP1.2.1 y3 j (by omega) (by omega) g1 (by omega)).2.2 (by omega) (by omega); omega))), (e_fr.up j24 hw50 (by unfold mGo; omega))⟩ (by omega))
                      exact ⟨rfl, rfl, rfl, rfl, rfl, trivial⟩
                    · replace h48 : (z47 : Int) = 0 := Classical.not_not.mp (show ¬ ((z47 : Int) ≠ 0) from h48)
                      refine e_Ok.ps1 (x := (1, 275)) (q := 169) 1 rfl ?_
                      refine e_Ok.getr (z := 276) rfl (el_o rfl) rfl (ef_o rfl) ((j24 275 0 (by first | exact no_82_0 | (unfold mGo; omega))).trans (e_Has.eq hT (mt_o rfl))) ⟨by decide, by decide⟩ ?_
                      refine e_Ok.ps2 (x := (0, 10)) (y := (0, 36 * a + 16)) (q := 175) 2 rfl ?_
                      refine e_Ok.add (z := 36 * a + 26) rfl (e_adl (by decide)) (by omega) ?_
                      have h53 := (e_Has.get hT (c := 276) (k := 36 * a + 26) (lo := 0) (hi := 16) (nR_WIDE (a := a) (by omega)) (by decide))
                      refine e_Ok.ald (z := w 276 (36 * a + 26)) rfl (el_o rfl) rfl (by omega) ((j24 276 (36 * a + 26) (by first | exact no_82_6 (by omega) | (unfold mGo; omega))).trans rfl) (e_bq h53 (by decide) (by decide)) ?_
                      refine e_Ok.ps0 (q := 190) 1 rfl ?_
                      have hw1 := hP1.1 y3 (by omega) (by omega)
                      have hw2 := hP1.2.1 y3 z45 (by omega) (by omega) (by omega) (by omega)
                      have hw3 := hP1.2.2 (y3 + 1) z45 (by omega) (by omega) (by omega) (by omega)
                      have hw4 := j23 z45 (by omega) (by omega)
                      have hb288 := e_Has.get hT (c := 288) (k := 6 * a + z45) (lo := -100000) (hi := 0) (mt_o rfl) (by decide)
                      have hb289 := e_Has.get hT (c := 289) (k := 6 * a + z45) (lo := 0) (hi := 100000) (mt_o rfl) (by decide)
                      refine e_Ok.add (z := v2 276 (36 * a + z45 + 44) + w 276 (36 * a + 26)) rfl rfl (by omega) ?_
                      refine e_Ok.ast rfl (el_o rfl) rfl rfl (by omega) ?_
                      generalize hw54 : e_up v2 276 (36 * a + z45 + 44) (v2 276 (36 * a + z45 + 44) + w 276 (36 * a + 26)) = w54
                      have hT56 : e_Has mTy w54 := e_Has.upr j21 hw54 (nR_GOAL (a := a) (j := z45) (by omega) (by omega)) (by omega)
                      refine e_Ok.inc (z := y3 + 1) rfl rfl (by first | with_reducible rfl | omega) (by omega) ?_
                      show e_Ok 20 elay ecode eI (d + 1) 391 (195, [(3, (0, y3 + 1)), (0, (1, 275)), (1, (0, a)), (2, (0, 36 * a + 16)), (4, (0, w 276 (1000 * a + w 276 (36 * a + 23) + 21060)))], [], w54) _
                      refine e_Ok.ps0 (q := 113) 1 rfl ?_
                      refine e_Ok.sub eAlk (e_sub_of rfl ?_) (ih19 (y3 + 1) w54 ⟨(show e_fr (mNw a) w w54 from e_fr.up j20 hw54 (by unfold mNw; omega)), hT56, by omega, (fun j g1 g2 => Decidable.byCases (p := j = z45) (fun e => by rw [e, ← hw54, e_up_eq]; omega) (fun e => Eq.trans (show w54 276 (36 * a + j + 44) = v2 276 (36 * a + j + 44) from by rw [← hw54]; exact e_up_ne _ _ (Or.inr (by omega))) (by have q1 := j23 j g1 g2; have q2 := (hP1.2.1 y3 j (by omega) (by omega) g1 (by omega)).2.2 (by omega) (by omega); omega))), (e_fr.up j24 hw54 (by unfold mGo; omega))⟩ (by omega))
                      exact ⟨rfl, rfl, rfl, rfl, rfl, trivial⟩
            refine e_Ok.sub eAlk (e_sub_of rfl ?_) (hL18 (1000 + 1 : Int).toNat (w 276 (36 * a + 23)) v1 ⟨j11, j12, by omega, (fun j g1 g2 => Eq.trans (j14 j g1 (by omega)) (Eq.symm ((hP2 j g1 g2).2 rfl))), j15⟩ (by omega))
            exact ⟨rfl, rfl, rfl, rfl, rfl, trivial⟩
          · replace h16 : (y4 : Int) < w 286 a := Int.not_le.mp (show ¬ ((y4 : Int) ≥ w 286 a) from h16)
            refine e_Ok.ps1 (x := (1, 275)) (q := 66) 1 rfl ?_
            refine e_Ok.getr (z := 276) rfl (el_o rfl) rfl (ef_o rfl) ((j15 275 0 (by first | exact no_82_0 | (unfold mGo; omega))).trans (e_Has.eq hT (mt_o rfl))) ⟨by decide, by decide⟩ ?_
            refine e_Ok.ps2 (x := (0, 28)) (y := (0, 36 * a + 16)) (q := 72) 2 rfl ?_
            refine e_Ok.add (z := 36 * a + 44) rfl (e_adl (by decide)) (by omega) ?_
            refine e_Ok.ps1 (x := (0, y4)) (q := 75) 1 rfl ?_
            refine e_Ok.add (z := 36 * a + y4 + 44) rfl (by omega) (by omega) ?_
            refine e_Ok.ps1 (x := (1, 275)) (q := 77) 1 rfl ?_
            refine e_Ok.getr (z := 276) rfl (el_o rfl) rfl (ef_o rfl) ((j15 275 0 (by first | exact no_82_0 | (unfold mGo; omega))).trans (e_Has.eq hT (mt_o rfl))) ⟨by decide, by decide⟩ ?_
            refine e_Ok.ps2 (x := (0, 16)) (y := (0, 36 * a + 16)) (q := 83) 2 rfl ?_
            refine e_Ok.add (z := 36 * a + 32) rfl (e_adl (by decide)) (by omega) ?_
            refine e_Ok.ps1 (x := (0, y4)) (q := 86) 1 rfl ?_
            refine e_Ok.add (z := 36 * a + y4 + 32) rfl (by omega) (by omega) ?_
            have h57 := (e_Has.get hT (c := 276) (k := 36 * a + y4 + 32) (lo := (-100000)) (hi := 100000) (nR_VALUE (a := a) (j := y4) (by omega) (by omega)) (by decide))
            refine e_Ok.ald (z := w 276 (36 * a + y4 + 32)) rfl (el_o rfl) rfl (by omega) ((j15 276 (36 * a + y4 + 32) (by unfold mGo; omega)).trans rfl) (e_bq h57 (by decide) (by decide)) ?_
            refine e_Ok.ast rfl (el_o rfl) rfl rfl (by omega) ?_
            generalize hw58 : e_up v1 276 (36 * a + y4 + 44) (w 276 (36 * a + y4 + 32)) = w58
            have hT60 : e_Has mTy w58 := e_Has.upr j12 hw58 (nR_GOAL (a := a) (j := y4) (by omega) (by omega)) (by omega)
            refine e_Ok.inc (z := y4 + 1) rfl rfl (by first | with_reducible rfl | omega) (by omega) ?_
            show e_Ok 20 elay ecode eI (d + 1) 391 (92, [(4, (0, y4 + 1)), (0, (1, 275)), (1, (0, a)), (2, (0, 36 * a + 16)), (3, (0, w 276 (36 * a + 23)))], [], w58) _
            refine e_Ok.ps0 (q := 54) 1 rfl ?_
            refine e_Ok.sub eAlk (e_sub_of rfl ?_) (ih10 (y4 + 1) w58 ⟨(show e_fr (mNw a) w w58 from e_fr.up j11 hw58 (by unfold mNw; omega)), hT60, by omega, (fun j g1 g2 => Decidable.byCases (p := j = y4) (fun e => by rw [e, ← hw58]; exact e_up_eq _ _ _ _) (fun e => Eq.trans (e_un hw58 (Or.inr (by omega))) (j14 j g1 (by omega)))), (e_fr.up j15 hw58 (by unfold mGo; omega))⟩ (by omega))
            exact ⟨rfl, rfl, rfl, rfl, rfl, trivial⟩
      refine e_Ok.sub eAlk (e_sub_of rfl ?_) (hL9 (7 + 1 : Int).toNat 0 w ⟨(e_fr.refl w), hT, by omega, (fun j g1 g2 => by omega), (e_fr.refl w)⟩ (by omega))
      exact ⟨rfl, rfl, rfl, rfl, rfl, trivial⟩
    · replace h8 : (w 276 (36 * a + 23) : Int) = w 276 (36 * a + 19) := Classical.not_not.mp (show ¬ ((w 276 (36 * a + 23) : Int) ≠ w 276 (36 * a + 19)) from h8)
      refine e_Ok.ps1 (x := (1, 275)) (q := 41) 1 rfl ?_
      refine e_Ok.getr (z := 276) rfl (el_o rfl) rfl (ef_o rfl) (e_Has.eq hT (mt_o rfl)) ⟨by decide, by decide⟩ ?_
      refine e_Ok.ps2 (x := (0, 6)) (y := (0, 36 * a + 16)) (q := 47) 2 rfl ?_
      refine e_Ok.add (z := 36 * a + 22) rfl (e_adl (by decide)) (by omega) ?_
      refine e_Ok.ps1 (x := (0, 0)) (q := 49) 1 rfl ?_
      refine e_Ok.ast rfl (el_o rfl) rfl rfl (by omega) ?_
      generalize hw61 : e_up w 276 (36 * a + 22) 0 = w61
      have hT63 : e_Has mTy w61 := e_Has.upr hT hw61 (nR_TRAVELS (a := a) (by omega)) (by omega)
      refine e_Ok.rets rfl rfl ?_
      exact ⟨rfl, (show e_fr (mNw a) w w61 from e_fr.up (e_fr.refl w) hw61 (by first | exact ⟨rfl, Or.inr (Or.inl ⟨(by omega), (by omega)⟩)⟩ | (unfold mNw; omega))), hT63, mMo.quit hMo (by omega) (e_Has.mo hT) (fun c k q => by rw [← hw61]; exact e_up_ne _ _ (by unfold moK at q; omega)) (fun b g1 g2 => by rw [← hw61]; exact e_up_ne _ _ (Or.inr (by omega))) (fun b g1 g2 g3 => by rw [← hw61]; exact e_up_ne _ _ (Or.inr (by omega))) (by rw [← hw61, e_up_eq]; decide)⟩
  · replace h5 : (w 276 (36 * a + 22) : Int) = 0 := Classical.not_not.mp (show ¬ ((w 276 (36 * a + 22) : Int) ≠ 0) from h5)
    refine e_Ok.rets rfl rfl ?_
    exact ⟨rfl, (e_fr.refl w), hT, mMo.quit hMo (by omega) (e_Has.mo hT) (fun c k q => rfl) (fun b g1 g2 => rfl) (fun b g1 g2 g3 => rfl) (by omega)⟩
theorem no_82_9 {a : Int} {k : Int} : ¬ mVS a 275 k := by unfold mVS; omega
theorem no_82_10 {a : Int} {k : Int} : ¬ mVS a 286 k := by unfold mVS; omega
theorem no_82_11 {a : Int} (ha : 0 ≤ a ∧ a ≤ 3) : ¬ mVS a 276 5 := by unfold mVS; omega
theorem no_82_12 {a : Int} {j : Int} (ha : 0 ≤ a ∧ a ≤ 3) (hj : 0 ≤ j ∧ j ≤ 5) : ¬ mG1 a 276 (36 * a + j + 44) := by unfold mG1; omega
theorem no_82_13 {a : Int} {k : Int} : ¬ mG1 a 288 k := by unfold mG1; omega
theorem no_82_14 {a : Int} {k : Int} : ¬ mG1 a 289 k := by unfold mG1; omega
theorem no_82_15 {a : Int} {k : Int} : ¬ mG1 a 291 k := by unfold mG1; omega
theorem no_82_16 {a : Int} {b : Int} (ha : 0 ≤ a ∧ a ≤ 3) (hb : 0 ≤ b ∧ b ≤ 3) : ¬ mVS a 276 (36 * b + 20) := by unfold mVS; omega
theorem no_82_17 {k : Int} : ¬ mSt 275 k := by unfold mSt; omega
theorem no_82_18 : ¬ mSt 276 5 := by unfold mSt; omega
theorem no_82_19 {a : Int} {j : Int} (ha : 0 ≤ a ∧ a ≤ 3) (hj : 0 ≤ j ∧ j ≤ 5) : ¬ mSt 276 (36 * a + j + 32) := by unfold mSt; omega
theorem no_82_20 {a : Int} {j : Int} (ha : 0 ≤ a ∧ a ≤ 3) (hj : 0 ≤ j ∧ j ≤ 5) : ¬ mSt 276 (36 * a + j + 38) := by unfold mSt; omega
theorem no_82_21 {a : Int} {k : Int} : ¬ mVS a 290 k := by unfold mVS; omega
theorem no_82_22 {a : Int} {k : Int} : ¬ mVS a 291 k := by unfold mVS; omega
theorem no_82_23 {a : Int} (ha : 0 ≤ a ∧ a ≤ 3) : ¬ mVS a 276 (36 * a + 24) := by unfold mVS; omega
theorem no_82_24 {a : Int} (ha : 0 ≤ a ∧ a ≤ 3) : ¬ mVS a 276 (36 * a + 16) := by unfold mVS; omega
theorem no_82_25 {k : Int} : ¬ mE 275 k := by unfold mE; omega
theorem no_82_26 {a : Int} (ha : 0 ≤ a ∧ a ≤ 3) : ¬ mE 276 (36 * a + 24) := by unfold mE; omega
theorem no_82_27 {a : Int} (ha : 0 ≤ a ∧ a ≤ 3) : ¬ mE 276 (36 * a + 27) := by unfold mE; omega
theorem no_82_28 {a : Int} (ha : 0 ≤ a ∧ a ≤ 3) : ¬ mVS a 276 (36 * a + 27) := by unfold mVS; omega
theorem no_82_29 {k : Int} : ¬ mTl 275 k := by unfold mTl; omega
theorem no_82_30 {k : Int} : ¬ mTl 276 k := by unfold mTl; omega
theorem no_82_31 {a : Int} {j : Int} (ha : 0 ≤ a ∧ a ≤ 3) (hj : 0 ≤ j ∧ j ≤ 5) : ¬ mE 276 (36 * a + j + 32) := by unfold mE; omega
theorem no_82_32 {a : Int} {j : Int} (ha : 0 ≤ a ∧ a ≤ 3) (hj : 0 ≤ j ∧ j ≤ 5) : ¬ mE 276 (36 * a + j + 38) := by unfold mE; omega
theorem no_82_33 {b : Int} (hb : 0 ≤ b ∧ b ≤ 3) : ¬ mE 276 (36 * b + 20) := by unfold mE; omega
theorem no_82_34 {a : Int} (ha : 0 ≤ a ∧ a ≤ 3) : ¬ mG1 a 276 1 := by unfold mG1; omega
theorem no_82_35 {a : Int} (ha : 0 ≤ a ∧ a ≤ 3) : ¬ mNw a 276 5 := by unfold mNw; omega
theorem no_82_36 {a : Int} (ha : 0 ≤ a ∧ a ≤ 3) : ¬ mSt 276 (36 * a + 24) := by unfold mSt; omega
theorem no_82_37 {a : Int} (ha : 0 ≤ a ∧ a ≤ 3) : ¬ mSt 276 (36 * a + 16) := by unfold mSt; omega
theorem no_82_38 {a : Int} (ha : 0 ≤ a ∧ a ≤ 3) : ¬ mSt 276 (36 * a + 27) := by unfold mSt; omega
theorem su_82_40 {a : Int} {c k : Int} (q : mVS a c k) : mG1 a c k := by
  unfold mVS at q
  rcases q with ⟨q, ⟨q, q⟩⟩
  · exact Or.inr ⟨(by omega), Or.inr (Or.inr (Or.inr (Or.inr (Or.inr (Or.inl ⟨(by omega), (by omega)⟩)))))⟩
theorem su_82_41 {a : Int} {c k : Int} (q : mSt c k) : mGn a c k := by
  unfold mSt at q
  rcases q with ⟨q, (⟨q, (⟨q, (q | q)⟩)⟩)⟩
  · exact Or.inl (Or.inr ⟨(by omega), Or.inr (Or.inr (Or.inr (Or.inr (Or.inr (Or.inr ⟨(by omega), ⟨(by omega), Or.inl (by omega)⟩⟩)))))⟩)
  · exact Or.inl (Or.inr ⟨(by omega), Or.inr (Or.inr (Or.inr (Or.inr (Or.inr (Or.inr ⟨(by omega), ⟨(by omega), Or.inr (by omega)⟩⟩)))))⟩)
theorem su_82_42 {a : Int} {c k : Int} (q : mSt c k) : mG1 a c k := by
  unfold mSt at q
  rcases q with ⟨q, (⟨q, (⟨q, (q | q)⟩)⟩)⟩
  · exact Or.inr ⟨(by omega), Or.inr (Or.inr (Or.inr (Or.inr (Or.inr (Or.inr ⟨(by omega), ⟨(by omega), Or.inl (by omega)⟩⟩)))))⟩
  · exact Or.inr ⟨(by omega), Or.inr (Or.inr (Or.inr (Or.inr (Or.inr (Or.inr ⟨(by omega), ⟨(by omega), Or.inr (by omega)⟩⟩)))))⟩
theorem su_82_43 {a : Int} {c k : Int} (q : mE c k) : mGn a c k := by
  unfold mE at q
  rcases q with ⟨q, (q | q)⟩
  · exact Or.inl (Or.inr ⟨(by omega), Or.inl (by omega)⟩)
  · exact Or.inl (Or.inr ⟨(by omega), Or.inr (Or.inl (by omega))⟩)
theorem su_82_44 {a : Int} {c k : Int} (q : mTl c k) : mGn a c k := by
  unfold mTl at q
  rcases q with q
  · exact Or.inl (Or.inl (by omega))
theorem su_82_45 {a : Int} {c k : Int} (q : mE c k) : mG1 a c k := by
  unfold mE at q
  rcases q with ⟨q, (q | q)⟩
  · exact Or.inr ⟨(by omega), Or.inl (by omega)⟩
  · exact Or.inr ⟨(by omega), Or.inr (Or.inl (by omega))⟩
theorem su_82_46 {a : Int} {c k : Int} (q : mTl c k) : mG1 a c k := by
  unfold mTl at q
  rcases q with q
  · exact Or.inl (by omega)
set_option maxHeartbeats 4000000 in
theorem c_388 {d : Nat} (hd : 24 ≤ d) {w : eW} (hT : e_Has mTy w) (hCf : mCf w) {a : Int} (ha : 0 ≤ a ∧ a ≤ 3) (hMo : mMo w (-1)) (hPw : w 276 1 = 1) (hE : w 276 5 ≤ 2147483600) : e_Ok 20 elay ecode eI d 388 (0, [(0, (1, 275)), (1, (0, a))], [], w) (fun r w' => r = [] ∧ e_fr (mGn a) w w' ∧ e_Has mTy w' ∧ (w 276 5 ≤ w' 276 5 ∧ w' 276 5 ≤ w 276 5 + 1) ∧ mMo w' (-1)) := by
  obtain ⟨d, rfl⟩ : ∃ e, d = e + 1 := ⟨d - 1, by omega⟩
  have hja := (e_Has.get hT (c := 286) (k := a) (lo := 0) (hi := 6) (mt_o rfl) (by decide))
  have har := e_Has.get hT (c := 275) (k := 10) (lo := 0) (hi := 4) (mt_o rfl) (by decide)
  refine e_Ok.ps1 (x := (0, a)) (q := 1) 1 rfl ?_
  refine e_Ok.callS rfl (e_dq hd rfl) rfl rfl (c_268 (by omega)) (fun r1 w2 h3 => ?_)
  obtain ⟨rfl, rfl⟩ := h3
  refine e_Ok.nrm (q := 4) (st' := [(0, 36 * a + 16)]) rfl rfl ?_
  refine e_Ok.run (t' := (6, [(2, (0, 36 * a + 16)), (0, (1, 275)), (1, (0, a))], [(1, 275)], w)) 2 rfl ?_
  refine e_Ok.getr (z := 276) rfl (el_o rfl) rfl (ef_o rfl) (e_Has.eq hT (mt_o rfl)) ⟨by decide, by decide⟩ ?_
  refine e_Ok.ps2 (x := (0, 0)) (y := (0, 36 * a + 16)) (q := 11) 2 rfl ?_
  refine e_Ok.add (z := 36 * a + 16) rfl (e_adl (by decide)) (by omega) ?_
  have h4 := (e_Has.get hT (c := 276) (k := 36 * a + 16) (lo := 0) (hi := 2) (nR_STATE (a := a) (by omega)) (by decide))
  refine e_Ok.ald (z := w 276 (36 * a + 16)) rfl (el_o rfl) rfl (by omega) rfl (e_bq h4 (by decide) (by decide)) ?_
  refine e_Ok.if1 rfl (fun h5 => ?_) (fun h5 => ?_)
  · replace h5 : (w 276 (36 * a + 16) : Int) ≠ 0 := h5
    refine e_Ok.ps1 (x := (1, 275)) (q := 18) 1 rfl ?_
    refine e_Ok.getr (z := 276) rfl (el_o rfl) rfl (ef_o rfl) (e_Has.eq hT (mt_o rfl)) ⟨by decide, by decide⟩ ?_
    refine e_Ok.ps2 (x := (0, 0)) (y := (0, 36 * a + 16)) (q := 23) 2 rfl ?_
    refine e_Ok.add (z := 36 * a + 16) rfl (e_adl (by decide)) (by omega) ?_
    refine e_Ok.ald (z := w 276 (36 * a + 16)) rfl (el_o rfl) rfl (by omega) rfl (by omega) ?_
    refine e_Ok.ps1 (x := (0, 1)) (q := 26) 1 rfl ?_
    refine e_Ok.if2 rfl (fun h6 => ?_) (fun h6 => ?_)
    · replace h6 : (w 276 (36 * a + 16) : Int) ≠ 1 := h6
      refine e_Ok.run (t' := (44, [(6, (0, 0)), (5, (0, 0)), (4, (0, 1)), (3, (0, 0)), (2, (0, 36 * a + 16)), (0, (1, 275)), (1, (0, a))], [], w)) 8 rfl ?_
      have hL7 : ∀ (nn : Nat) (y4 : Int) (y5 : Int) (y6 : Int) (v1 : eW), e_fr (mGn a) w v1 ∧ e_Has mTy v1 ∧ (0 ≤ y4 ∧ y4 ≤ 1 ∧ 0 ≤ y5 ∧ y5 ≤ 1 ∧ 0 ≤ y6 ∧ y6 ≤ 6) ∧ (∀ j, 0 ≤ j → j < y6 → joOk (w 276 (36 * a + 16)) (v1 276 (36 * a + j + 32)) (v1 276 (36 * a + j + 38)) (w 276 (36 * a + j + 44)) (w 288 (6 * a + j)) (w 289 (6 * a + j)) (w 291 (6 * a + j))) ∧ (∀ j, y6 ≤ j → j ≤ 5 → v1 276 (36 * a + j + 32) = w 276 (36 * a + j + 32) ∧ v1 276 (36 * a + j + 38) = w 276 (36 * a + j + 38)) ∧ ((y5 = 0 → ∀ j, 0 ≤ j → j < y6 → v1 276 (36 * a + j + 32) = w 276 (36 * a + j + 32) ∧ v1 276 (36 * a + j + 38) = 0)) ∧ ((y4 = 1 → ∀ j, 0 ≤ j → j < y6 → v1 276 (36 * a + j + 38) = 0 ∧ (w 276 (36 * a + 16) = 1 → v1 276 (36 * a + j + 32) = w 276 (36 * a + j + 44)))) ∧ e_fr (mVS a) w v1 → 7 - y6 < nn → e_Ok 20 elay ecode eI (d + 1) 388 (44, [(0, (1, 275)), (1, (0, a)), (2, (0, 36 * a + 16)), (3, (0, 0)), (4, (0, y4)), (5, (0, y5)), (6, (0, y6))], [], v1) (fun r w' => r = [] ∧ e_fr (mGn a) w w' ∧ e_Has mTy w' ∧ (w 276 5 ≤ w' 276 5 ∧ w' 276 5 ≤ w 276 5 + 1) ∧ mMo w' (-1)) := by
        intro nn
        induction nn with
        | zero => intro y4 y5 y6 v1 hj hm; obtain ⟨j9, j10, j11, j12, j13, j14, j15, j16⟩ := hj; exfalso; omega
        | succ nn ih8 =>
          intro y4 y5 y6 v1 hj hm
          obtain ⟨j9, j10, j11, j12, j13, j14, j15, j16⟩ := hj
          refine e_Ok.run (t' := (47, [(0, (1, 275)), (1, (0, a)), (2, (0, 36 * a + 16)), (3, (0, 0)), (4, (0, y4)), (5, (0, y5)), (6, (0, y6))], [(1, 275), (0, y6)], v1)) 2 rfl ?_
          refine e_Ok.getr (z := 286) rfl (el_o rfl) rfl (ef_o rfl) ((j16 275 15 (by first | exact no_82_9 | (unfold mVS; omega))).trans (e_Has.eq hT (mt_o rfl))) ⟨by decide, by decide⟩ ?_
          refine e_Ok.ps1 (x := (0, a)) (q := 51) 1 rfl ?_
          refine e_Ok.ald (z := w 286 a) rfl (el_o rfl) rfl (by omega) ((j16 286 a (by first | exact no_82_10 | (unfold mVS; omega))).trans rfl) (by omega) ?_
          refine e_Ok.if2 rfl (fun h17 => ?_) (fun h17 => ?_)
          · replace h17 : (y6 : Int) ≥ w 286 a := h17
            refine e_Ok.ps1 (x := (0, y5)) (q := 307) 1 rfl ?_
            refine e_Ok.if1 rfl (fun h18 => ?_) (fun h18 => ?_)
            · replace h18 : (y5 : Int) = 0 := h18
              refine e_Ok.ps1 (x := (0, 0)) (q := 316) 1 rfl ?_
              refine e_Ok.if1 rfl (fun h19 => ?_) (fun h19 => ?_)
              · replace h19 : (0 : Int) ≠ 0 := h19
                exfalso; omega
              · replace h19 : (0 : Int) = 0 := Classical.not_not.mp (show ¬ ((0 : Int) ≠ 0) from h19)
                refine e_Ok.ps1 (x := (1, 275)) (q := 320) 1 rfl ?_
                refine e_Ok.getr (z := 276) rfl (el_o rfl) rfl (ef_o rfl) ((j16 275 0 (by first | exact no_82_9 | (unfold mVS; omega))).trans (e_Has.eq hT (mt_o rfl))) ⟨by decide, by decide⟩ ?_
                refine e_Ok.ps2 (x := (0, 0)) (y := (0, 36 * a + 16)) (q := 325) 2 rfl ?_
                refine e_Ok.add (z := 36 * a + 16) rfl (e_adl (by decide)) (by omega) ?_
                refine e_Ok.ps1 (x := (0, y4)) (q := 328) 1 rfl ?_
                refine e_Ok.if1 rfl (fun h20 => ?_) (fun h20 => ?_)
                · replace h20 : (y4 : Int) = 0 := h20
                  refine e_Ok.ps1 (x := (0, 2)) (q := 336) 1 rfl ?_
                  refine e_Ok.ast rfl (el_o rfl) rfl rfl (by omega) ?_
                  generalize hw21 : e_up v1 276 (36 * a + 16) 2 = w21
                  have hT23 : e_Has mTy w21 := e_Has.upr j10 hw21 (nR_STATE (a := a) (by omega)) (by omega)
                  refine e_Ok.rets rfl rfl ?_
                  have e24 : w21 276 5 = w 276 5 := (e_uq hw21 (Or.inr (by omega)) ((j16 276 5 (by first | exact no_82_11 (by omega) | (unfold mVS; omega))).trans rfl))
                  have hG : e_fr (mG1 a) w w21 := (e_fr.up (e_fr.mono j16 (fun c k q => by first | exact su_82_40 q | (unfold mVS at q; unfold mG1; omega))) hw21 (by unfold mG1; omega))
                  have eV : ∀ j, 0 ≤ j → j < w 286 a → w21 276 (36 * a + j + 32) = v1 276 (36 * a + j + 32) := fun j g1 g2 => (e_uq hw21 (Or.inr (by omega)) rfl)
                  have eS : ∀ j, 0 ≤ j → j < w 286 a → w21 276 (36 * a + j + 38) = v1 276 (36 * a + j + 38) := fun j g1 g2 => (e_uq hw21 (Or.inr (by omega)) rfl)
                  have eT : w21 276 (36 * a + 16) = 2 := (e_ue hw21)
                  have hwt : mMo w21 (-1) := mMo.went hMo (Or.inl rfl) (e_Has.mo hT) ha (by omega) (fun c k q q2 => hG c k (moK_g1 ha q q2)) (fun b g1 g2 g3 => ⟨hG 276 _ (by unfold mG1; omega), hG 276 _ (by unfold mG1; omega)⟩) (hG 276 _ (by unfold mG1; omega)) (fun j g1 g2 => by unfold moJ; rw [show w21 276 (36 * a + 16) = w 276 (36 * a + 16) by omega, eV j g1 g2, eS j g1 g2, hG 276 (36 * a + j + 44) (by first | exact no_82_12 (by omega) (by omega) | (unfold mG1; omega)), hG 288 _ (by first | exact no_82_13 | (unfold mG1; omega)), hG 289 _ (by first | exact no_82_14 | (unfold mG1; omega)), hG 291 _ (by first | exact no_82_15 | (unfold mG1; omega))]; exact j12 j g1 (by omega)) (fun e => by exfalso; omega) (Or.inr ⟨fun b g1 g2 => (e_uq hw21 (Or.inr (by omega)) ((j16 276 (36 * b + 20) (by first | exact no_82_16 (by omega) (by omega) | (unfold mVS; omega))).trans rfl)), fun j g1 g2 => Eq.trans (eV j g1 g2) (j14 (by omega) j g1 (by omega)).1⟩) (fun b g1 g2 => Or.inr (e_uq hw21 (Or.inr (by omega)) ((j16 276 (36 * b + 20) (by first | exact no_82_16 (by omega) (by omega) | (unfold mVS; omega))).trans rfl)))
                  exact ⟨rfl, (show e_fr (mGn a) w w21 from e_fr.up j9 hw21 (by first | exact Or.inl (Or.inr ⟨rfl, Or.inr (Or.inr (Or.inl (by omega)))⟩) | (unfold mGn mG1 mNw; omega))), hT23, by omega, hwt⟩
                · replace h20 : (y4 : Int) ≠ 0 := (show ¬ ((y4 : Int) = 0) from h20)
                  refine e_Ok.ps1 (x := (0, 0)) (q := 336) 2 rfl ?_
                  refine e_Ok.ast rfl (el_o rfl) rfl rfl (by omega) ?_
                  generalize hw25 : e_up v1 276 (36 * a + 16) 0 = w25
                  have hT27 : e_Has mTy w25 := e_Has.upr j10 hw25 (nR_STATE (a := a) (by omega)) (by omega)
                  refine e_Ok.rets rfl rfl ?_
                  have e28 : w25 276 5 = w 276 5 := (e_uq hw25 (Or.inr (by omega)) ((j16 276 5 (by first | exact no_82_11 (by omega) | (unfold mVS; omega))).trans rfl))
                  have hG : e_fr (mG1 a) w w25 := (e_fr.up (e_fr.mono j16 (fun c k q => by first | exact su_82_40 q | (unfold mVS at q; unfold mG1; omega))) hw25 (by unfold mG1; omega))
                  have eV : ∀ j, 0 ≤ j → j < w 286 a → w25 276 (36 * a + j + 32) = v1 276 (36 * a + j + 32) := fun j g1 g2 => (e_uq hw25 (Or.inr (by omega)) rfl)
                  have eS : ∀ j, 0 ≤ j → j < w 286 a → w25 276 (36 * a + j + 38) = v1 276 (36 * a + j + 38) := fun j g1 g2 => (e_uq hw25 (Or.inr (by omega)) rfl)
                  have eT : w25 276 (36 * a + 16) = 0 := (e_ue hw25)
                  have hwt : mMo w25 (-1) := mMo.went hMo (Or.inl rfl) (e_Has.mo hT) ha (by omega) (fun c k q q2 => hG c k (moK_g1 ha q q2)) (fun b g1 g2 g3 => ⟨hG 276 _ (by unfold mG1; omega), hG 276 _ (by unfold mG1; omega)⟩) (hG 276 _ (by unfold mG1; omega)) (fun j g1 g2 => by unfold moJ; rw [eT, eV j g1 g2, eS j g1 g2, hG 276 (36 * a + j + 44) (by first | exact no_82_12 (by omega) (by omega) | (unfold mG1; omega)), hG 288 _ (by first | exact no_82_13 | (unfold mG1; omega)), hG 289 _ (by first | exact no_82_14 | (unfold mG1; omega)), hG 291 _ (by first | exact no_82_15 | (unfold mG1; omega))]; exact joOk.halt (j12 j g1 (by omega)) (j15 (by omega) j g1 (by omega)).1) (fun e => by exfalso; omega) (Or.inr ⟨fun b g1 g2 => (e_uq hw25 (Or.inr (by omega)) ((j16 276 (36 * b + 20) (by first | exact no_82_16 (by omega) (by omega) | (unfold mVS; omega))).trans rfl)), fun j g1 g2 => Eq.trans (eV j g1 g2) (j14 (by omega) j g1 (by omega)).1⟩) (fun b g1 g2 => Or.inr (e_uq hw25 (Or.inr (by omega)) ((j16 276 (36 * b + 20) (by first | exact no_82_16 (by omega) (by omega) | (unfold mVS; omega))).trans rfl)))
                  exact ⟨rfl, (show e_fr (mGn a) w w25 from e_fr.up j9 hw25 (by first | exact Or.inl (Or.inr ⟨rfl, Or.inr (Or.inr (Or.inl (by omega)))⟩) | (unfold mGn mG1 mNw; omega))), hT27, by omega, hwt⟩
            · replace h18 : (y5 : Int) ≠ 0 := (show ¬ ((y5 : Int) = 0) from h18)
              refine e_Ok.ps2 (x := (0, a)) (y := (1, 275)) (q := 312) 2 rfl ?_
              refine e_Ok.callV rfl (e_dq hd rfl) rfl rfl rfl rfl (c_390 (e_dq hd rfl) j10) (fun r29 w30 h31 => ?_)
              obtain ⟨rfl, q32, q32T, q32a, q32b⟩ := h31
              have f33 : e_fr (mGn a) w w30 := e_fr.trans j9 (e_fr.mono q32 (fun c k q => by first | exact su_82_41 q | (unfold mSt at q; unfold mGn mG1 mNw; omega)))
              refine e_Ok.nrm (q := 315) (st' := []) rfl rfl ?_
              refine e_Ok.ps1 (x := (0, 0)) (q := 316) 1 rfl ?_
              refine e_Ok.if1 rfl (fun h34 => ?_) (fun h34 => ?_)
              · replace h34 : (0 : Int) ≠ 0 := h34
                exfalso; omega
              · replace h34 : (0 : Int) = 0 := Classical.not_not.mp (show ¬ ((0 : Int) ≠ 0) from h34)
                refine e_Ok.ps1 (x := (1, 275)) (q := 320) 1 rfl ?_
                refine e_Ok.getr (z := 276) rfl (el_o rfl) rfl (ef_o rfl) ((q32 275 0 no_82_17).trans ((j16 275 0 (by first | exact no_82_9 | (unfold mVS; omega))).trans (e_Has.eq hT (mt_o rfl)))) ⟨by decide, by decide⟩ ?_
                refine e_Ok.ps2 (x := (0, 0)) (y := (0, 36 * a + 16)) (q := 325) 2 rfl ?_
                refine e_Ok.add (z := 36 * a + 16) rfl (e_adl (by decide)) (by omega) ?_
                refine e_Ok.ps1 (x := (0, y4)) (q := 328) 1 rfl ?_
                refine e_Ok.if1 rfl (fun h35 => ?_) (fun h35 => ?_)
                · replace h35 : (y4 : Int) = 0 := h35
                  refine e_Ok.ps1 (x := (0, 2)) (q := 336) 1 rfl ?_
                  refine e_Ok.ast rfl (el_o rfl) rfl rfl (by omega) ?_
                  generalize hw36 : e_up w30 276 (36 * a + 16) 2 = w36
                  have hT38 : e_Has mTy w36 := e_Has.upr q32T hw36 (nR_STATE (a := a) (by omega)) (by omega)
                  refine e_Ok.rets rfl rfl ?_
                  have e40 : w36 276 5 = w 276 5 := (e_uq hw36 (Or.inr (by omega)) ((q32 276 5 no_82_18).trans ((j16 276 5 (by first | exact no_82_11 (by omega) | (unfold mVS; omega))).trans rfl)))
                  have hG : e_fr (mG1 a) w w36 := (e_fr.up (e_fr.trans (e_fr.mono j16 (fun c k q => by first | exact su_82_40 q | (unfold mVS at q; unfold mG1; omega))) (e_fr.mono q32 (fun c k q => by first | exact su_82_42 q | (unfold mSt at q; unfold mG1; omega)))) hw36 (by unfold mG1; omega))
                  have eV : ∀ j, 0 ≤ j → j < w 286 a → w36 276 (36 * a + j + 32) = v1 276 (36 * a + j + 32) := fun j g1 g2 => (e_uq hw36 (Or.inr (by omega)) ((q32 276 (36 * a + j + 32) (by first | exact no_82_19 (by omega) (by omega) | (unfold mSt; omega))).trans rfl))
                  have eS : ∀ j, 0 ≤ j → j < w 286 a → w36 276 (36 * a + j + 38) = v1 276 (36 * a + j + 38) := fun j g1 g2 => (e_uq hw36 (Or.inr (by omega)) ((q32 276 (36 * a + j + 38) (by first | exact no_82_20 (by omega) (by omega) | (unfold mSt; omega))).trans rfl))
                  have eT : w36 276 (36 * a + 16) = 2 := (e_ue hw36)
                  have hwt : mMo w36 (-1) := mMo.went hMo (Or.inl rfl) (e_Has.mo hT) ha (by omega) (fun c k q q2 => hG c k (moK_g1 ha q q2)) (fun b g1 g2 g3 => ⟨hG 276 _ (by unfold mG1; omega), hG 276 _ (by unfold mG1; omega)⟩) (hG 276 _ (by unfold mG1; omega)) (fun j g1 g2 => by unfold moJ; rw [show w36 276 (36 * a + 16) = w 276 (36 * a + 16) by omega, eV j g1 g2, eS j g1 g2, hG 276 (36 * a + j + 44) (by first | exact no_82_12 (by omega) (by omega) | (unfold mG1; omega)), hG 288 _ (by first | exact no_82_13 | (unfold mG1; omega)), hG 289 _ (by first | exact no_82_14 | (unfold mG1; omega)), hG 291 _ (by first | exact no_82_15 | (unfold mG1; omega))]; exact j12 j g1 (by omega)) (fun e => by exfalso; omega) (Or.inl (fun b g1 g2 => Eq.trans (e_uq hw36 (Or.inr (by omega)) rfl) (q32a b g1 (by have q0 : v1 275 10 = w 275 10 := ((j16 275 10 (by first | exact no_82_9 | (unfold mVS; omega))).trans rfl); omega)))) (fun b g1 g2 => by have e := q32b b g1 g2; rw [show v1 276 (36 * b + 20) = w 276 (36 * b + 20) from ((j16 276 (36 * b + 20) (by first | exact no_82_16 (by omega) (by omega) | (unfold mVS; omega))).trans rfl)] at e; rw [show w36 276 (36 * b + 20) = w30 276 (36 * b + 20) from (e_uq hw36 (Or.inr (by omega)) rfl)]; exact e)
                  exact ⟨rfl, (show e_fr (mGn a) w w36 from e_fr.up f33 hw36 (by first | exact Or.inl (Or.inr ⟨rfl, Or.inr (Or.inr (Or.inl (by omega)))⟩) | (unfold mGn mG1 mNw; omega))), hT38, by omega, hwt⟩
                · replace h35 : (y4 : Int) ≠ 0 := (show ¬ ((y4 : Int) = 0) from h35)
                  refine e_Ok.ps1 (x := (0, 0)) (q := 336) 2 rfl ?_
                  refine e_Ok.ast rfl (el_o rfl) rfl rfl (by omega) ?_
                  generalize hw41 : e_up w30 276 (36 * a + 16) 0 = w41
                  have hT43 : e_Has mTy w41 := e_Has.upr q32T hw41 (nR_STATE (a := a) (by omega)) (by omega)
                  refine e_Ok.rets rfl rfl ?_
                  have e44 : w41 276 5 = w 276 5 := (e_uq hw41 (Or.inr (by omega)) ((q32 276 5 no_82_18).trans ((j16 276 5 (by first | exact no_82_11 (by omega) | (unfold mVS; omega))).trans rfl)))
                  have hG : e_fr (mG1 a) w w41 := (e_fr.up (e_fr.trans (e_fr.mono j16 (fun c k q => by first | exact su_82_40 q | (unfold mVS at q; unfold mG1; omega))) (e_fr.mono q32 (fun c k q => by first | exact su_82_42 q | (unfold mSt at q; unfold mG1; omega)))) hw41 (by unfold mG1; omega))
                  have eV : ∀ j, 0 ≤ j → j < w 286 a → w41 276 (36 * a + j + 32) = v1 276 (36 * a + j + 32) := fun j g1 g2 => (e_uq hw41 (Or.inr (by omega)) ((q32 276 (36 * a + j + 32) (by first | exact no_82_19 (by omega) (by omega) | (unfold mSt; omega))).trans rfl))
                  have eS : ∀ j, 0 ≤ j → j < w 286 a → w41 276 (36 * a + j + 38) = v1 276 (36 * a + j + 38) := fun j g1 g2 => (e_uq hw41 (Or.inr (by omega)) ((q32 276 (36 * a + j + 38) (by first | exact no_82_20 (by omega) (by omega) | (unfold mSt; omega))).trans rfl))
                  have eT : w41 276 (36 * a + 16) = 0 := (e_ue hw41)
                  have hwt : mMo w41 (-1) := mMo.went hMo (Or.inl rfl) (e_Has.mo hT) ha (by omega) (fun c k q q2 => hG c k (moK_g1 ha q q2)) (fun b g1 g2 g3 => ⟨hG 276 _ (by unfold mG1; omega), hG 276 _ (by unfold mG1; omega)⟩) (hG 276 _ (by unfold mG1; omega)) (fun j g1 g2 => by unfold moJ; rw [eT, eV j g1 g2, eS j g1 g2, hG 276 (36 * a + j + 44) (by first | exact no_82_12 (by omega) (by omega) | (unfold mG1; omega)), hG 288 _ (by first | exact no_82_13 | (unfold mG1; omega)), hG 289 _ (by first | exact no_82_14 | (unfold mG1; omega)), hG 291 _ (by first | exact no_82_15 | (unfold mG1; omega))]; exact joOk.halt (j12 j g1 (by omega)) (j15 (by omega) j g1 (by omega)).1) (fun e => by exfalso; omega) (Or.inl (fun b g1 g2 => Eq.trans (e_uq hw41 (Or.inr (by omega)) rfl) (q32a b g1 (by have q0 : v1 275 10 = w 275 10 := ((j16 275 10 (by first | exact no_82_9 | (unfold mVS; omega))).trans rfl); omega)))) (fun b g1 g2 => by have e := q32b b g1 g2; rw [show v1 276 (36 * b + 20) = w 276 (36 * b + 20) from ((j16 276 (36 * b + 20) (by first | exact no_82_16 (by omega) (by omega) | (unfold mVS; omega))).trans rfl)] at e; rw [show w41 276 (36 * b + 20) = w30 276 (36 * b + 20) from (e_uq hw41 (Or.inr (by omega)) rfl)]; exact e)
                  exact ⟨rfl, (show e_fr (mGn a) w w41 from e_fr.up f33 hw41 (by first | exact Or.inl (Or.inr ⟨rfl, Or.inr (Or.inr (Or.inl (by omega)))⟩) | (unfold mGn mG1 mNw; omega))), hT43, by omega, hwt⟩
          · replace h17 : (y6 : Int) < w 286 a := Int.not_le.mp (show ¬ ((y6 : Int) ≥ w 286 a) from h17)
            have h4 := j13 y6 (by omega) (by omega)
            have hjo := hMo.1 a y6 ha.1 ha.2 (by omega) (by omega)
            unfold moJ at hjo
            have hST : w 276 (36 * a + 16) = 2 := by omega
            rw [hST] at hjo
            have hcf := hCf a y6 ha.1 ha.2 (by omega) (by omega)
            have hb288 := e_Has.get hT (c := 288) (k := 6 * a + y6) (lo := -100000) (hi := 0) (mt_o rfl) (by decide)
            have hb289 := e_Has.get hT (c := 289) (k := 6 * a + y6) (lo := 0) (hi := 100000) (mt_o rfl) (by decide)
            have hb290 := e_Has.get hT (c := 290) (k := 6 * a + y6) (lo := 0) (hi := 2000) (mt_o rfl) (by decide)
            have hb291 := e_Has.get hT (c := 291) (k := 6 * a + y6) (lo := 0) (hi := 2000) (mt_o rfl) (by decide)
            refine e_Ok.run (t' := (56, [(0, (1, 275)), (1, (0, a)), (2, (0, 36 * a + 16)), (3, (0, 0)), (4, (0, y4)), (5, (0, y5)), (6, (0, y6))], [(1, 275)], v1)) 1 rfl ?_
            refine e_Ok.getr (z := 276) rfl (el_o rfl) rfl (ef_o rfl) ((j16 275 0 (by first | exact no_82_9 | (unfold mVS; omega))).trans (e_Has.eq hT (mt_o rfl))) ⟨by decide, by decide⟩ ?_
            refine e_Ok.ps2 (x := (0, 22)) (y := (0, 36 * a + 16)) (q := 62) 2 rfl ?_
            refine e_Ok.add (z := 36 * a + 38) rfl (e_adl (by decide)) (by omega) ?_
            refine e_Ok.ps1 (x := (0, y6)) (q := 65) 1 rfl ?_
            refine e_Ok.add (z := 36 * a + y6 + 38) rfl (by omega) (by omega) ?_
            have h45 := (e_Has.get j10 (c := 276) (k := 36 * a + y6 + 38) (lo := (-2000)) (hi := 2000) (nR_STEP (a := a) (j := y6) (by omega) (by omega)) (by decide))
            refine e_Ok.ald (z := v1 276 (36 * a + y6 + 38)) rfl (el_o rfl) rfl (by omega) rfl (e_bq h45 (by decide) (by decide)) ?_
            refine e_Ok.run (t' := (70, [(7, (0, v1 276 (36 * a + y6 + 38))), (0, (1, 275)), (1, (0, a)), (2, (0, 36 * a + 16)), (3, (0, 0)), (4, (0, y4)), (5, (0, y5)), (6, (0, y6))], [(0, 0)], v1)) 2 rfl ?_
            refine e_Ok.if1 rfl (fun h46 => ?_) (fun h46 => ?_)
            · replace h46 : (0 : Int) = 0 := h46
              refine e_Ok.run (t' := (106, [(8, (0, 0)), (7, (0, v1 276 (36 * a + y6 + 38))), (0, (1, 275)), (1, (0, a)), (2, (0, 36 * a + 16)), (3, (0, 0)), (4, (0, y4)), (5, (0, y5)), (6, (0, y6))], [(0, 0)], v1)) 3 rfl ?_
              refine e_Ok.if1 rfl (fun h47 => ?_) (fun h47 => ?_)
              · replace h47 : (0 : Int) ≥ 0 := h47
                refine e_Ok.ps3 (x := (1, 275)) (y := (0, v1 276 (36 * a + y6 + 38))) (z := (0, 0)) (q := 151) 3 rfl ?_
                refine e_Ok.getr (z := 290) rfl (el_o rfl) rfl (ef_o rfl) ((j16 275 19 (by first | exact no_82_9 | (unfold mVS; omega))).trans (e_Has.eq hT (mt_o rfl))) ⟨by decide, by decide⟩ ?_
                refine e_Ok.ps2 (x := (0, a)) (y := (0, 6)) (q := 157) 2 rfl ?_
                refine e_Ok.mul (z := 6 * a) rfl rfl (by omega) ?_
                refine e_Ok.ps1 (x := (0, y6)) (q := 160) 1 rfl ?_
                refine e_Ok.add (z := 6 * a + y6) rfl rfl (by omega) ?_
                refine e_Ok.ald (z := w 290 (6 * a + y6)) rfl (el_o rfl) rfl (by omega) ((j16 290 (6 * a + y6) (by first | exact no_82_21 | (unfold mVS; omega))).trans rfl) (by omega) ?_
                refine e_Ok.ps1 (x := (1, 275)) (q := 163) 1 rfl ?_
                refine e_Ok.getr (z := 291) rfl (el_o rfl) rfl (ef_o rfl) ((j16 275 20 (by first | exact no_82_9 | (unfold mVS; omega))).trans (e_Has.eq hT (mt_o rfl))) ⟨by decide, by decide⟩ ?_
                refine e_Ok.ps2 (x := (0, a)) (y := (0, 6)) (q := 169) 2 rfl ?_
                refine e_Ok.mul (z := 6 * a) rfl rfl (by omega) ?_
                refine e_Ok.ps1 (x := (0, y6)) (q := 172) 1 rfl ?_
                refine e_Ok.add (z := 6 * a + y6) rfl rfl (by omega) ?_
                refine e_Ok.ald (z := w 291 (6 * a + y6)) rfl (el_o rfl) rfl (by omega) ((j16 291 (6 * a + y6) (by first | exact no_82_22 | (unfold mVS; omega))).trans rfl) (by omega) ?_
                refine e_Ok.callS rfl (e_dq hd rfl) rfl rfl (c_386_b (by omega) (by omega) (by omega) (by omega)) (fun r48 w49 h50 => ?_)
                obtain ⟨z51, rfl, rfl, q52⟩ := h50
                refine e_Ok.nrm (q := 177) (st' := [(0, z51)]) rfl rfl ?_
                refine e_Ok.run (t' := (180, [(9, (0, z51)), (8, (0, 0)), (7, (0, v1 276 (36 * a + y6 + 38))), (0, (1, 275)), (1, (0, a)), (2, (0, 36 * a + 16)), (3, (0, 0)), (4, (0, y4)), (5, (0, y5)), (6, (0, y6))], [(0, 0)], v1)) 2 rfl ?_
                refine e_Ok.if1 rfl (fun h53 => ?_) (fun h53 => ?_)
                · replace h53 : (0 : Int) = 0 := h53
                  refine e_Ok.ps2 (x := (1, 275)) (y := (0, v1 276 (36 * a + y6 + 38))) (q := 191) 2 rfl ?_
                  refine e_Ok.getr (z := 291) rfl (el_o rfl) rfl (ef_o rfl) ((j16 275 20 (by first | exact no_82_9 | (unfold mVS; omega))).trans (e_Has.eq hT (mt_o rfl))) ⟨by decide, by decide⟩ ?_
                  refine e_Ok.ps2 (x := (0, a)) (y := (0, 6)) (q := 197) 2 rfl ?_
                  refine e_Ok.mul (z := 6 * a) rfl rfl (by omega) ?_
                  refine e_Ok.ps1 (x := (0, y6)) (q := 200) 1 rfl ?_
                  refine e_Ok.add (z := 6 * a + y6) rfl rfl (by omega) ?_
                  refine e_Ok.ald (z := w 291 (6 * a + y6)) rfl (el_o rfl) rfl (by omega) ((j16 291 (6 * a + y6) (by first | exact no_82_22 | (unfold mVS; omega))).trans rfl) (by omega) ?_
                  refine e_Ok.callS rfl (e_dq hd rfl) rfl rfl (c_387 (by omega) (by omega)) (fun r54 w55 h56 => ?_)
                  obtain ⟨z57, rfl, rfl, q58⟩ := h56
                  have z57b : -2000 ≤ z57 ∧ z57 ≤ 2000 := by omega
                  refine e_Ok.nrm (q := 205) (st' := [(0, z57)]) rfl rfl ?_
                  refine e_Ok.run (t' := (207, [(9, (0, z57)), (8, (0, 0)), (7, (0, v1 276 (36 * a + y6 + 38))), (0, (1, 275)), (1, (0, a)), (2, (0, 36 * a + 16)), (3, (0, 0)), (4, (0, y4)), (5, (0, y5)), (6, (0, y6))], [], v1)) 1 rfl ?_
                  have hjn : joOk (w 276 (36 * a + 16)) (w 276 (36 * a + y6 + 32) + z57) z57 (w 276 (36 * a + y6 + 44)) (w 288 (6 * a + y6)) (w 289 (6 * a + y6)) (w 291 (6 * a + y6)) := by rw [hST]; exact joOk.slow hcf.2 hjo (by omega)
                  have hjl := hjn.1
                  refine e_Ok.ps1 (x := (1, 275)) (q := 208) 1 rfl ?_
                  refine e_Ok.getr (z := 276) rfl (el_o rfl) rfl (ef_o rfl) ((j16 275 0 (by first | exact no_82_9 | (unfold mVS; omega))).trans (e_Has.eq hT (mt_o rfl))) ⟨by decide, by decide⟩ ?_
                  refine e_Ok.ps2 (x := (0, 22)) (y := (0, 36 * a + 16)) (q := 214) 2 rfl ?_
                  refine e_Ok.add (z := 36 * a + 38) rfl (e_adl (by decide)) (by omega) ?_
                  refine e_Ok.ps1 (x := (0, y6)) (q := 217) 1 rfl ?_
                  refine e_Ok.add (z := 36 * a + y6 + 38) rfl (by omega) (by omega) ?_
                  refine e_Ok.ps1 (x := (0, z57)) (q := 220) 1 rfl ?_
                  refine e_Ok.ast rfl (el_o rfl) rfl rfl (by omega) ?_
                  generalize hw59 : e_up v1 276 (36 * a + y6 + 38) z57 = w59
                  have hT61 : e_Has mTy w59 := e_Has.upr j10 hw59 (nR_STEP (a := a) (j := y6) (by omega) (by omega)) (by omega)
                  refine e_Ok.ps1 (x := (1, 275)) (q := 222) 1 rfl ?_
                  refine e_Ok.getr (z := 276) rfl (el_o rfl) rfl (ef_o rfl) (e_uq hw59 (Or.inl (by decide)) ((j16 275 0 (by first | exact no_82_9 | (unfold mVS; omega))).trans (e_Has.eq hT (mt_o rfl)))) ⟨by decide, by decide⟩ ?_
                  refine e_Ok.ps2 (x := (0, 16)) (y := (0, 36 * a + 16)) (q := 228) 2 rfl ?_
                  refine e_Ok.add (z := 36 * a + 32) rfl (e_adl (by decide)) (by omega) ?_
                  refine e_Ok.ps1 (x := (0, y6)) (q := 231) 1 rfl ?_
                  refine e_Ok.add (z := 36 * a + y6 + 32) rfl (by omega) (by omega) ?_
                  refine e_Ok.ps2 (x := (0, 36 * a + y6 + 32)) (y := (1, 276)) (q := 233) 1 rfl ?_
                  have h62 := (e_Has.get j10 (c := 276) (k := 36 * a + y6 + 32) (lo := (-100000)) (hi := 100000) (nR_VALUE (a := a) (j := y6) (by omega) (by omega)) (by decide))
                  refine e_Ok.ald (z := v1 276 (36 * a + y6 + 32)) rfl (el_o rfl) rfl (by omega) (e_uq hw59 (Or.inr (e_neo (by decide))) rfl) (e_bq h62 (by decide) (by decide)) ?_
                  refine e_Ok.ps1 (x := (0, z57)) (q := 236) 1 rfl ?_
                  refine e_Ok.add (z := v1 276 (36 * a + y6 + 32) + z57) rfl rfl (by omega) ?_
                  refine e_Ok.ast rfl (el_o rfl) rfl rfl (by omega) ?_
                  generalize hw63 : e_up w59 276 (36 * a + y6 + 32) (v1 276 (36 * a + y6 + 32) + z57) = w63
                  have f64 : e_fr (mGn a) w w63 := e_fr.up (show e_fr (mGn a) w w59 from e_fr.up j9 hw59 (by unfold mGn mG1 mNw; omega)) hw63 (by unfold mGn mG1 mNw; omega)
                  have hT65 : e_Has mTy w63 := e_Has.upr hT61 hw63 (nR_VALUE (a := a) (j := y6) (by omega) (by omega)) (by omega)
                  refine e_Ok.ps2 (x := (0, z57)) (y := (0, y5)) (q := 242) 2 rfl ?_
                  refine e_Ok.if1 rfl (fun h66 => ?_) (fun h66 => ?_)
                  · replace h66 : (z57 : Int) = 0 := h66
                    refine e_Ok.ps1 (x := (0, 0)) (q := 250) 1 rfl ?_
                    refine e_Ok.or01 (by omega) (by omega) (fun z67 hz67 => ?_) rfl
                    replace hz67 : (0 ≤ z67 ∧ z67 ≤ 1) ∧ (z67 = 0 ↔ ((y5 : Int) = 0 ∧ (0 : Int) = 0)) := hz67
                    refine e_Ok.run (t' := (257, [(5, (0, z67)), (9, (0, z57)), (8, (0, 0)), (7, (0, v1 276 (36 * a + y6 + 38))), (0, (1, 275)), (1, (0, a)), (2, (0, 36 * a + 16)), (3, (0, 0)), (4, (0, y4)), (6, (0, y6))], [(0, z57), (0, y4)], w63)) 3 rfl ?_
                    refine e_Ok.if1 rfl (fun h68 => ?_) (fun h68 => ?_)
                    · replace h68 : (z57 : Int) ≠ 0 := h68
                      exfalso; omega
                    · replace h68 : (z57 : Int) = 0 := Classical.not_not.mp (show ¬ ((z57 : Int) ≠ 0) from h68)
                      refine e_Ok.ps1 (x := (0, 0)) (q := 261) 1 rfl ?_
                      refine e_Ok.if1 rfl (fun h69 => ?_) (fun h69 => ?_)
                      · replace h69 : (0 : Int) = 0 := h69
                        refine e_Ok.ps1 (x := (0, 1)) (q := 296) 2 rfl ?_
                        refine e_Ok.and01 (by omega) (by omega) (fun z70 hz70 => ?_) rfl
                        replace hz70 : (0 ≤ z70 ∧ z70 ≤ 1) ∧ (z70 = 1 ↔ ((y4 : Int) = 1 ∧ (1 : Int) = 1)) := hz70
                        refine e_Ok.run (t' := (299, [(4, (0, z70)), (5, (0, z67)), (9, (0, z57)), (8, (0, 0)), (7, (0, v1 276 (36 * a + y6 + 38))), (0, (1, 275)), (1, (0, a)), (2, (0, 36 * a + 16)), (3, (0, 0)), (6, (0, y6))], [], w63)) 1 rfl ?_
                        refine e_Ok.inc (z := y6 + 1) rfl rfl (by first | with_reducible rfl | omega) (by omega) ?_
                        show e_Ok 20 elay ecode eI (d + 1) 388 (302, [(6, (0, y6 + 1)), (4, (0, z70)), (5, (0, z67)), (9, (0, z57)), (8, (0, 0)), (7, (0, v1 276 (36 * a + y6 + 38))), (0, (1, 275)), (1, (0, a)), (2, (0, 36 * a + 16)), (3, (0, 0))], [], w63) _
                        refine e_Ok.ps0 (q := 44) 1 rfl ?_
                        refine e_Ok.sub eAlk (e_sub_of rfl ?_) (ih8 z70 z67 (y6 + 1) w63 ⟨f64, hT65, by omega, (fun j g1 g2 => Decidable.byCases (p := j = y6) (fun e => by rw [e, show w63 276 (36 * a + y6 + 32) = w 276 (36 * a + y6 + 32) + z57 from Eq.trans (show w63 276 (36 * a + y6 + 32) = v1 276 (36 * a + y6 + 32) + z57 from (e_ue hw63)) (by omega), show w63 276 (36 * a + y6 + 38) = z57 from (e_uq hw63 (Or.inr (by omega)) (e_ue hw59))]; exact hjn) (fun e => by rw [show w63 276 (36 * a + j + 32) = v1 276 (36 * a + j + 32) from (e_uq hw63 (Or.inr (by omega)) (e_uq hw59 (Or.inr (by omega)) rfl)), show w63 276 (36 * a + j + 38) = v1 276 (36 * a + j + 38) from (e_uq hw63 (Or.inr (by omega)) (e_uq hw59 (Or.inr (by omega)) rfl))]; exact j12 j g1 (by omega))), (fun j g1 g2 => by rw [show w63 276 (36 * a + j + 32) = v1 276 (36 * a + j + 32) from (e_uq hw63 (Or.inr (by omega)) (e_uq hw59 (Or.inr (by omega)) rfl)), show w63 276 (36 * a + j + 38) = v1 276 (36 * a + j + 38) from (e_uq hw63 (Or.inr (by omega)) (e_uq hw59 (Or.inr (by omega)) rfl))]; exact j13 j (by omega) g2), (fun e j g1 g2 => Decidable.byCases (p := j = y6) (fun e1 => by rw [e1, show w63 276 (36 * a + y6 + 32) = w 276 (36 * a + y6 + 32) + z57 from Eq.trans (show w63 276 (36 * a + y6 + 32) = v1 276 (36 * a + y6 + 32) + z57 from (e_ue hw63)) (by omega), show w63 276 (36 * a + y6 + 38) = z57 from (e_uq hw63 (Or.inr (by omega)) (e_ue hw59))]; omega) (fun e1 => by rw [show w63 276 (36 * a + j + 32) = v1 276 (36 * a + j + 32) from (e_uq hw63 (Or.inr (by omega)) (e_uq hw59 (Or.inr (by omega)) rfl)), show w63 276 (36 * a + j + 38) = v1 276 (36 * a + j + 38) from (e_uq hw63 (Or.inr (by omega)) (e_uq hw59 (Or.inr (by omega)) rfl))]; exact j14 (by omega) j g1 (by omega))), (fun e j g1 g2 => Decidable.byCases (p := j = y6) (fun e1 => by rw [e1, show w63 276 (36 * a + y6 + 32) = w 276 (36 * a + y6 + 32) + z57 from Eq.trans (show w63 276 (36 * a + y6 + 32) = v1 276 (36 * a + y6 + 32) + z57 from (e_ue hw63)) (by omega), show w63 276 (36 * a + y6 + 38) = z57 from (e_uq hw63 (Or.inr (by omega)) (e_ue hw59))]; omega) (fun e1 => by rw [show w63 276 (36 * a + j + 32) = v1 276 (36 * a + j + 32) from (e_uq hw63 (Or.inr (by omega)) (e_uq hw59 (Or.inr (by omega)) rfl)), show w63 276 (36 * a + j + 38) = v1 276 (36 * a + j + 38) from (e_uq hw63 (Or.inr (by omega)) (e_uq hw59 (Or.inr (by omega)) rfl))]; exact j15 (by omega) j g1 (by omega))), (e_fr.up (e_fr.up j16 hw59 (by unfold mVS; omega)) hw63 (by unfold mVS; omega))⟩ (by omega))
                        exact ⟨rfl, rfl, rfl, rfl, rfl, rfl, rfl, trivial⟩
                      · replace h69 : (0 : Int) ≠ 0 := (show ¬ ((0 : Int) = 0) from h69)
                        exfalso; omega
                  · replace h66 : (z57 : Int) ≠ 0 := (show ¬ ((z57 : Int) = 0) from h66)
                    refine e_Ok.ps1 (x := (0, 1)) (q := 250) 2 rfl ?_
                    refine e_Ok.or01 (by omega) (by omega) (fun z71 hz71 => ?_) rfl
                    replace hz71 : (0 ≤ z71 ∧ z71 ≤ 1) ∧ (z71 = 0 ↔ ((y5 : Int) = 0 ∧ (1 : Int) = 0)) := hz71
                    refine e_Ok.run (t' := (257, [(5, (0, z71)), (9, (0, z57)), (8, (0, 0)), (7, (0, v1 276 (36 * a + y6 + 38))), (0, (1, 275)), (1, (0, a)), (2, (0, 36 * a + 16)), (3, (0, 0)), (4, (0, y4)), (6, (0, y6))], [(0, z57), (0, y4)], w63)) 3 rfl ?_
                    refine e_Ok.if1 rfl (fun h72 => ?_) (fun h72 => ?_)
                    · replace h72 : (z57 : Int) ≠ 0 := h72
                      refine e_Ok.ps1 (x := (0, 0)) (q := 296) 1 rfl ?_
                      refine e_Ok.and01 (by omega) (by omega) (fun z73 hz73 => ?_) rfl
                      replace hz73 : (0 ≤ z73 ∧ z73 ≤ 1) ∧ (z73 = 1 ↔ ((y4 : Int) = 1 ∧ (0 : Int) = 1)) := hz73
                      refine e_Ok.run (t' := (299, [(4, (0, z73)), (5, (0, z71)), (9, (0, z57)), (8, (0, 0)), (7, (0, v1 276 (36 * a + y6 + 38))), (0, (1, 275)), (1, (0, a)), (2, (0, 36 * a + 16)), (3, (0, 0)), (6, (0, y6))], [], w63)) 1 rfl ?_
                      refine e_Ok.inc (z := y6 + 1) rfl rfl (by first | with_reducible rfl | omega) (by omega) ?_
                      show e_Ok 20 elay ecode eI (d + 1) 388 (302, [(6, (0, y6 + 1)), (4, (0, z73)), (5, (0, z71)), (9, (0, z57)), (8, (0, 0)), (7, (0, v1 276 (36 * a + y6 + 38))), (0, (1, 275)), (1, (0, a)), (2, (0, 36 * a + 16)), (3, (0, 0))], [], w63) _
                      refine e_Ok.ps0 (q := 44) 1 rfl ?_
                      refine e_Ok.sub eAlk (e_sub_of rfl ?_) (ih8 z73 z71 (y6 + 1) w63 ⟨f64, hT65, by omega, (fun j g1 g2 => Decidable.byCases (p := j = y6) (fun e => by rw [e, show w63 276 (36 * a + y6 + 32) = w 276 (36 * a + y6 + 32) + z57 from Eq.trans (show w63 276 (36 * a + y6 + 32) = v1 276 (36 * a + y6 + 32) + z57 from (e_ue hw63)) (by omega), show w63 276 (36 * a + y6 + 38) = z57 from (e_uq hw63 (Or.inr (by omega)) (e_ue hw59))]; exact hjn) (fun e => by rw [show w63 276 (36 * a + j + 32) = v1 276 (36 * a + j + 32) from (e_uq hw63 (Or.inr (by omega)) (e_uq hw59 (Or.inr (by omega)) rfl)), show w63 276 (36 * a + j + 38) = v1 276 (36 * a + j + 38) from (e_uq hw63 (Or.inr (by omega)) (e_uq hw59 (Or.inr (by omega)) rfl))]; exact j12 j g1 (by omega))), (fun j g1 g2 => by rw [show w63 276 (36 * a + j + 32) = v1 276 (36 * a + j + 32) from (e_uq hw63 (Or.inr (by omega)) (e_uq hw59 (Or.inr (by omega)) rfl)), show w63 276 (36 * a + j + 38) = v1 276 (36 * a + j + 38) from (e_uq hw63 (Or.inr (by omega)) (e_uq hw59 (Or.inr (by omega)) rfl))]; exact j13 j (by omega) g2), (fun e j g1 g2 => Decidable.byCases (p := j = y6) (fun e1 => by rw [e1, show w63 276 (36 * a + y6 + 32) = w 276 (36 * a + y6 + 32) + z57 from Eq.trans (show w63 276 (36 * a + y6 + 32) = v1 276 (36 * a + y6 + 32) + z57 from (e_ue hw63)) (by omega), show w63 276 (36 * a + y6 + 38) = z57 from (e_uq hw63 (Or.inr (by omega)) (e_ue hw59))]; omega) (fun e1 => by rw [show w63 276 (36 * a + j + 32) = v1 276 (36 * a + j + 32) from (e_uq hw63 (Or.inr (by omega)) (e_uq hw59 (Or.inr (by omega)) rfl)), show w63 276 (36 * a + j + 38) = v1 276 (36 * a + j + 38) from (e_uq hw63 (Or.inr (by omega)) (e_uq hw59 (Or.inr (by omega)) rfl))]; exact j14 (by omega) j g1 (by omega))), (fun e j g1 g2 => Decidable.byCases (p := j = y6) (fun e1 => by rw [e1, show w63 276 (36 * a + y6 + 32) = w 276 (36 * a + y6 + 32) + z57 from Eq.trans (show w63 276 (36 * a + y6 + 32) = v1 276 (36 * a + y6 + 32) + z57 from (e_ue hw63)) (by omega), show w63 276 (36 * a + y6 + 38) = z57 from (e_uq hw63 (Or.inr (by omega)) (e_ue hw59))]; omega) (fun e1 => by rw [show w63 276 (36 * a + j + 32) = v1 276 (36 * a + j + 32) from (e_uq hw63 (Or.inr (by omega)) (e_uq hw59 (Or.inr (by omega)) rfl)), show w63 276 (36 * a + j + 38) = v1 276 (36 * a + j + 38) from (e_uq hw63 (Or.inr (by omega)) (e_uq hw59 (Or.inr (by omega)) rfl))]; exact j15 (by omega) j g1 (by omega))), (e_fr.up (e_fr.up j16 hw59 (by unfold mVS; omega)) hw63 (by unfold mVS; omega))⟩ (by omega))
                      exact ⟨rfl, rfl, rfl, rfl, rfl, rfl, rfl, trivial⟩
                    · replace h72 : (z57 : Int) = 0 := Classical.not_not.mp (show ¬ ((z57 : Int) ≠ 0) from h72)
                      refine e_Ok.ps1 (x := (0, 0)) (q := 261) 1 rfl ?_
                      refine e_Ok.if1 rfl (fun h74 => ?_) (fun h74 => ?_)
                      · replace h74 : (0 : Int) = 0 := h74
                        refine e_Ok.ps1 (x := (0, 1)) (q := 296) 2 rfl ?_
                        refine e_Ok.and01 (by omega) (by omega) (fun z75 hz75 => ?_) rfl
                        replace hz75 : (0 ≤ z75 ∧ z75 ≤ 1) ∧ (z75 = 1 ↔ ((y4 : Int) = 1 ∧ (1 : Int) = 1)) := hz75
                        refine e_Ok.run (t' := (299, [(4, (0, z75)), (5, (0, z71)), (9, (0, z57)), (8, (0, 0)), (7, (0, v1 276 (36 * a + y6 + 38))), (0, (1, 275)), (1, (0, a)), (2, (0, 36 * a + 16)), (3, (0, 0)), (6, (0, y6))], [], w63)) 1 rfl ?_
                        refine e_Ok.inc (z := y6 + 1) rfl rfl (by first | with_reducible rfl | omega) (by omega) ?_
                        show e_Ok 20 elay ecode eI (d + 1) 388 (302, [(6, (0, y6 + 1)), (4, (0, z75)), (5, (0, z71)), (9, (0, z57)), (8, (0, 0)), (7, (0, v1 276 (36 * a + y6 + 38))), (0, (1, 275)), (1, (0, a)), (2, (0, 36 * a + 16)), (3, (0, 0))], [], w63) _
                        refine e_Ok.ps0 (q := 44) 1 rfl ?_
                        refine e_Ok.sub eAlk (e_sub_of rfl ?_) (ih8 z75 z71 (y6 + 1) w63 ⟨f64, hT65, by omega, (fun j g1 g2 => Decidable.byCases (p := j = y6) (fun e => by rw [e, show w63 276 (36 * a + y6 + 32) = w 276 (36 * a + y6 + 32) + z57 from Eq.trans (show w63 276 (36 * a + y6 + 32) = v1 276 (36 * a + y6 + 32) + z57 from (e_ue hw63)) (by omega), show w63 276 (36 * a + y6 + 38) = z57 from (e_uq hw63 (Or.inr (by omega)) (e_ue hw59))]; exact hjn) (fun e => by rw [show w63 276 (36 * a + j + 32) = v1 276 (36 * a + j + 32) from (e_uq hw63 (Or.inr (by omega)) (e_uq hw59 (Or.inr (by omega)) rfl)), show w63 276 (36 * a + j + 38) = v1 276 (36 * a + j + 38) from (e_uq hw63 (Or.inr (by omega)) (e_uq hw59 (Or.inr (by omega)) rfl))]; exact j12 j g1 (by omega))), (fun j g1 g2 => by rw [show w63 276 (36 * a + j + 32) = v1 276 (36 * a + j + 32) from (e_uq hw63 (Or.inr (by omega)) (e_uq hw59 (Or.inr (by omega)) rfl)), show w63 276 (36 * a + j + 38) = v1 276 (36 * a + j + 38) from (e_uq hw63 (Or.inr (by omega)) (e_uq hw59 (Or.inr (by omega)) rfl))]; exact j13 j (by omega) g2), (fun e j g1 g2 => Decidable.byCases (p := j = y6) (fun e1 => by rw [e1, show w63 276 (36 * a + y6 + 32) = w 276 (36 * a + y6 + 32) + z57 from Eq.trans (show w63 276 (36 * a + y6 + 32) = v1 276 (36 * a + y6 + 32) + z57 from (e_ue hw63)) (by omega), show w63 276 (36 * a + y6 + 38) = z57 from (e_uq hw63 (Or.inr (by omega)) (e_ue hw59))]; omega) (fun e1 => by rw [show w63 276 (36 * a + j + 32) = v1 276 (36 * a + j + 32) from (e_uq hw63 (Or.inr (by omega)) (e_uq hw59 (Or.inr (by omega)) rfl)), show w63 276 (36 * a + j + 38) = v1 276 (36 * a + j + 38) from (e_uq hw63 (Or.inr (by omega)) (e_uq hw59 (Or.inr (by omega)) rfl))]; exact j14 (by omega) j g1 (by omega))), (fun e j g1 g2 => Decidable.byCases (p := j = y6) (fun e1 => by rw [e1, show w63 276 (36 * a + y6 + 32) = w 276 (36 * a + y6 + 32) + z57 from Eq.trans (show w63 276 (36 * a + y6 + 32) = v1 276 (36 * a + y6 + 32) + z57 from (e_ue hw63)) (by omega), show w63 276 (36 * a + y6 + 38) = z57 from (e_uq hw63 (Or.inr (by omega)) (e_ue hw59))]; omega) (fun e1 => by rw [show w63 276 (36 * a + j + 32) = v1 276 (36 * a + j + 32) from (e_uq hw63 (Or.inr (by omega)) (e_uq hw59 (Or.inr (by omega)) rfl)), show w63 276 (36 * a + j + 38) = v1 276 (36 * a + j + 38) from (e_uq hw63 (Or.inr (by omega)) (e_uq hw59 (Or.inr (by omega)) rfl))]; exact j15 (by omega) j g1 (by omega))), (e_fr.up (e_fr.up j16 hw59 (by unfold mVS; omega)) hw63 (by unfold mVS; omega))⟩ (by omega))
                        exact ⟨rfl, rfl, rfl, rfl, rfl, rfl, rfl, trivial⟩
                      · replace h74 : (0 : Int) ≠ 0 := (show ¬ ((0 : Int) = 0) from h74)
                        exfalso; omega
                · replace h53 : (0 : Int) ≠ 0 := (show ¬ ((0 : Int) = 0) from h53)
                  exfalso; omega
              · replace h47 : (0 : Int) < 0 := Int.not_le.mp (show ¬ ((0 : Int) ≥ 0) from h47)
                exfalso; omega
            · replace h46 : (0 : Int) ≠ 0 := (show ¬ ((0 : Int) = 0) from h46)
              exfalso; omega
      refine e_Ok.sub eAlk (e_sub_of rfl ?_) (hL7 (7 + 1 : Int).toNat 1 0 0 w ⟨(e_fr.refl w), hT, by omega, (fun j g1 g2 => by omega), (fun j g1 g2 => ⟨rfl, rfl⟩), (fun e j g1 g2 => by omega), (fun e j g1 g2 => by omega), (e_fr.refl w)⟩ (by omega))
      exact ⟨rfl, rfl, rfl, rfl, rfl, rfl, rfl, trivial⟩
    · replace h6 : (w 276 (36 * a + 16) : Int) = 1 := Classical.not_not.mp (show ¬ ((w 276 (36 * a + 16) : Int) ≠ 1) from h6)
      refine e_Ok.run (t' := (44, [(6, (0, 0)), (5, (0, 0)), (4, (0, 1)), (3, (0, 1)), (2, (0, 36 * a + 16)), (0, (1, 275)), (1, (0, a))], [], w)) 9 rfl ?_
      have hL76 : ∀ (nn : Nat) (y4 : Int) (y5 : Int) (y6 : Int) (v1 : eW), e_fr (mGn a) w v1 ∧ e_Has mTy v1 ∧ (0 ≤ y4 ∧ y4 ≤ 1 ∧ 0 ≤ y5 ∧ y5 ≤ 1 ∧ 0 ≤ y6 ∧ y6 ≤ 6) ∧ (∀ j, 0 ≤ j → j < y6 → joOk (w 276 (36 * a + 16)) (v1 276 (36 * a + j + 32)) (v1 276 (36 * a + j + 38)) (w 276 (36 * a + j + 44)) (w 288 (6 * a + j)) (w 289 (6 * a + j)) (w 291 (6 * a + j))) ∧ (∀ j, y6 ≤ j → j ≤ 5 → v1 276 (36 * a + j + 32) = w 276 (36 * a + j + 32) ∧ v1 276 (36 * a + j + 38) = w 276 (36 * a + j + 38)) ∧ ((y5 = 0 → ∀ j, 0 ≤ j → j < y6 → v1 276 (36 * a + j + 32) = w 276 (36 * a + j + 32) ∧ v1 276 (36 * a + j + 38) = 0)) ∧ ((y4 = 1 → ∀ j, 0 ≤ j → j < y6 → v1 276 (36 * a + j + 38) = 0 ∧ (w 276 (36 * a + 16) = 1 → v1 276 (36 * a + j + 32) = w 276 (36 * a + j + 44)))) ∧ e_fr (mVS a) w v1 → 7 - y6 < nn → e_Ok 20 elay ecode eI (d + 1) 388 (44, [(0, (1, 275)), (1, (0, a)), (2, (0, 36 * a + 16)), (3, (0, 1)), (4, (0, y4)), (5, (0, y5)), (6, (0, y6))], [], v1) (fun r w' => r = [] ∧ e_fr (mGn a) w w' ∧ e_Has mTy w' ∧ (w 276 5 ≤ w' 276 5 ∧ w' 276 5 ≤ w 276 5 + 1) ∧ mMo w' (-1)) := by
        intro nn
        induction nn with
        | zero => intro y4 y5 y6 v1 hj hm; obtain ⟨j78, j79, j80, j81, j82, j83, j84, j85⟩ := hj; exfalso; omega
        | succ nn ih77 =>
          intro y4 y5 y6 v1 hj hm
          obtain ⟨j78, j79, j80, j81, j82, j83, j84, j85⟩ := hj
          refine e_Ok.run (t' := (47, [(0, (1, 275)), (1, (0, a)), (2, (0, 36 * a + 16)), (3, (0, 1)), (4, (0, y4)), (5, (0, y5)), (6, (0, y6))], [(1, 275), (0, y6)], v1)) 2 rfl ?_
          refine e_Ok.getr (z := 286) rfl (el_o rfl) rfl (ef_o rfl) ((j85 275 15 (by first | exact no_82_9 | (unfold mVS; omega))).trans (e_Has.eq hT (mt_o rfl))) ⟨by decide, by decide⟩ ?_
          refine e_Ok.ps1 (x := (0, a)) (q := 51) 1 rfl ?_
          refine e_Ok.ald (z := w 286 a) rfl (el_o rfl) rfl (by omega) ((j85 286 a (by first | exact no_82_10 | (unfold mVS; omega))).trans rfl) (by omega) ?_
          refine e_Ok.if2 rfl (fun h86 => ?_) (fun h86 => ?_)
          · replace h86 : (y6 : Int) ≥ w 286 a := h86
            refine e_Ok.ps1 (x := (0, y5)) (q := 307) 1 rfl ?_
            refine e_Ok.if1 rfl (fun h87 => ?_) (fun h87 => ?_)
            · replace h87 : (y5 : Int) = 0 := h87
              refine e_Ok.ps1 (x := (0, 1)) (q := 316) 1 rfl ?_
              refine e_Ok.if1 rfl (fun h88 => ?_) (fun h88 => ?_)
              · replace h88 : (1 : Int) ≠ 0 := h88
                refine e_Ok.ps1 (x := (1, 275)) (q := 339) 1 rfl ?_
                refine e_Ok.getr (z := 276) rfl (el_o rfl) rfl (ef_o rfl) ((j85 275 0 (by first | exact no_82_9 | (unfold mVS; omega))).trans (e_Has.eq hT (mt_o rfl))) ⟨by decide, by decide⟩ ?_
                refine e_Ok.ps2 (x := (0, 8)) (y := (0, 36 * a + 16)) (q := 345) 2 rfl ?_
                refine e_Ok.add (z := 36 * a + 24) rfl (e_adl (by decide)) (by omega) ?_
                refine e_Ok.ps2 (x := (0, 36 * a + 24)) (y := (1, 276)) (q := 347) 1 rfl ?_
                have h89 := (e_Has.get hT (c := 276) (k := 36 * a + 24) (lo := (-2147483648)) (hi := 2147483647) (nR_TICKS (a := a) (by omega)) (by decide))
                refine e_Ok.ald (z := w 276 (36 * a + 24)) rfl (el_o rfl) rfl (by omega) ((j85 276 (36 * a + 24) (by first | exact no_82_23 (by omega) | (unfold mVS; omega))).trans rfl) (e_bq h89 (by decide) (by decide)) ?_
                refine e_Ok.ps1 (x := (0, 1)) (q := 349) 1 rfl ?_
                refine e_Ok.any rfl (eF_add_any _ _) (fun z90 z90a z90b => ?_)
                refine e_Ok.ast rfl (el_o rfl) rfl rfl (by omega) ?_
                generalize hw91 : e_up v1 276 (36 * a + 24) z90 = w91
                have f92 : e_fr (mGn a) w w91 := e_fr.up j78 hw91 (by first | exact Or.inl (Or.inr ⟨rfl, Or.inr (Or.inr (Or.inr (Or.inl (by omega))))⟩) | (unfold mGn mG1 mNw; omega))
                have hT93 : e_Has mTy w91 := e_Has.upr j79 hw91 (nR_TICKS (a := a) (by omega)) (by omega)
                refine e_Ok.ps1 (x := (0, y4)) (q := 353) 1 rfl ?_
                refine e_Ok.if1 rfl (fun h94 => ?_) (fun h94 => ?_)
                · replace h94 : (y4 : Int) = 0 := h94
                  refine e_Ok.rets rfl rfl ?_
                  have e95 : w91 276 5 = w 276 5 := (e_uq hw91 (Or.inr (by omega)) ((j85 276 5 (by first | exact no_82_11 (by omega) | (unfold mVS; omega))).trans rfl))
                  have hG : e_fr (mG1 a) w w91 := (e_fr.up (e_fr.mono j85 (fun c k q => by first | exact su_82_40 q | (unfold mVS at q; unfold mG1; omega))) hw91 (by unfold mG1; omega))
                  have eV : ∀ j, 0 ≤ j → j < w 286 a → w91 276 (36 * a + j + 32) = v1 276 (36 * a + j + 32) := fun j g1 g2 => (e_uq hw91 (Or.inr (by omega)) rfl)
                  have eS : ∀ j, 0 ≤ j → j < w 286 a → w91 276 (36 * a + j + 38) = v1 276 (36 * a + j + 38) := fun j g1 g2 => (e_uq hw91 (Or.inr (by omega)) rfl)
                  have eT : w91 276 (36 * a + 16) = w 276 (36 * a + 16) := (e_uq hw91 (Or.inr (e_neo (by decide))) ((j85 276 (36 * a + 16) (by first | exact no_82_24 (by omega) | (unfold mVS; omega))).trans rfl))
                  have hwt : mMo w91 (-1) := mMo.went hMo (Or.inl rfl) (e_Has.mo hT) ha (by omega) (fun c k q q2 => hG c k (moK_g1 ha q q2)) (fun b g1 g2 g3 => ⟨hG 276 _ (by unfold mG1; omega), hG 276 _ (by unfold mG1; omega)⟩) (hG 276 _ (by unfold mG1; omega)) (fun j g1 g2 => by unfold moJ; rw [show w91 276 (36 * a + 16) = w 276 (36 * a + 16) by omega, eV j g1 g2, eS j g1 g2, hG 276 (36 * a + j + 44) (by first | exact no_82_12 (by omega) (by omega) | (unfold mG1; omega)), hG 288 _ (by first | exact no_82_13 | (unfold mG1; omega)), hG 289 _ (by first | exact no_82_14 | (unfold mG1; omega)), hG 291 _ (by first | exact no_82_15 | (unfold mG1; omega))]; exact j81 j g1 (by omega)) (fun _ => Or.inr ⟨rfl, by omega⟩) (Or.inr ⟨fun b g1 g2 => (e_uq hw91 (Or.inr (by omega)) ((j85 276 (36 * b + 20) (by first | exact no_82_16 (by omega) (by omega) | (unfold mVS; omega))).trans rfl)), fun j g1 g2 => Eq.trans (eV j g1 g2) (j83 (by omega) j g1 (by omega)).1⟩) (fun b g1 g2 => Or.inr (e_uq hw91 (Or.inr (by omega)) ((j85 276 (36 * b + 20) (by first | exact no_82_16 (by omega) (by omega) | (unfold mVS; omega))).trans rfl)))
                  exact ⟨rfl, f92, hT93, by omega, hwt⟩
                · replace h94 : (y4 : Int) ≠ 0 := (show ¬ ((y4 : Int) = 0) from h94)
                  refine e_Ok.ps4 (x := (1, 275)) (y := (0, a)) (z := (0, 8)) (u := (1, 275)) (q := 361) 4 rfl ?_
                  refine e_Ok.getr (z := 276) rfl (el_o rfl) rfl (ef_o rfl) (e_uq hw91 (Or.inl (by decide)) ((j85 275 0 (by first | exact no_82_9 | (unfold mVS; omega))).trans (e_Has.eq hT (mt_o rfl)))) ⟨by decide, by decide⟩ ?_
                  refine e_Ok.ps2 (x := (0, 8)) (y := (0, 36 * a + 16)) (q := 367) 2 rfl ?_
                  refine e_Ok.add (z := 36 * a + 24) rfl (e_adl (by decide)) (by omega) ?_
                  refine e_Ok.ald (z := z90) rfl (el_o rfl) rfl (by omega) (e_ue hw91) (by omega) ?_
                  have e105 : w91 276 5 = w 276 5 := (e_uq hw91 (Or.inr (by omega)) ((j85 276 5 (by first | exact no_82_11 (by omega) | (unfold mVS; omega))).trans rfl))
                  refine e_Ok.callV rfl (e_dq hd rfl) rfl rfl rfl rfl (c_319 hT93 (by omega) (by omega) (by omega) (by omega)) (fun r101 w103 h104 => ?_)
                  obtain ⟨rfl, q106, q106T, q106n⟩ := h104
                  have f107 : e_fr (mGn a) w w103 := e_fr.trans f92 (e_fr.mono q106 (fun c k q => by first | exact su_82_43 q | (unfold mE at q; unfold mGn mG1 mNw; omega)))
                  refine e_Ok.nrm (q := 372) (st' := []) rfl rfl ?_
                  refine e_Ok.ps3 (x := (1, 275)) (y := (0, 1)) (z := (1, 275)) (q := 375) 3 rfl ?_
                  refine e_Ok.getr (z := 276) rfl (el_o rfl) rfl (ef_o rfl) ((q106 275 0 no_82_25).trans (e_uq hw91 (Or.inl (by decide)) ((j85 275 0 (by first | exact no_82_9 | (unfold mVS; omega))).trans (e_Has.eq hT (mt_o rfl))))) ⟨by decide, by decide⟩ ?_
                  refine e_Ok.ps2 (x := (0, 8)) (y := (0, 36 * a + 16)) (q := 381) 2 rfl ?_
                  refine e_Ok.add (z := 36 * a + 24) rfl (e_adl (by decide)) (by omega) ?_
                  refine e_Ok.ald (z := z90) rfl (el_o rfl) rfl (by omega) ((q106 276 (36 * a + 24) (by first | exact no_82_26 (by omega) | (unfold mE; omega))).trans (e_ue hw91)) (by omega) ?_
                  refine e_Ok.ps1 (x := (1, 275)) (q := 384) 1 rfl ?_
                  refine e_Ok.getr (z := 276) rfl (el_o rfl) rfl (ef_o rfl) ((q106 275 0 no_82_25).trans (e_uq hw91 (Or.inl (by decide)) ((j85 275 0 (by first | exact no_82_9 | (unfold mVS; omega))).trans (e_Has.eq hT (mt_o rfl))))) ⟨by decide, by decide⟩ ?_
                  refine e_Ok.ps2 (x := (0, 11)) (y := (0, 36 * a + 16)) (q := 390) 2 rfl ?_
                  refine e_Ok.add (z := 36 * a + 27) rfl (e_adl (by decide)) (by omega) ?_
                  have h108 := (e_Has.get hT (c := 276) (k := 36 * a + 27) (lo := (-2147483648)) (hi := 2147483647) (nR_FEWEST (a := a) (by omega)) (by decide))
                  refine e_Ok.ald (z := w 276 (36 * a + 27)) rfl (el_o rfl) rfl (by omega) ((q106 276 (36 * a + 27) (by first | exact no_82_27 (by omega) | (unfold mE; omega))).trans (e_uq hw91 (Or.inr (e_neo (by decide))) ((j85 276 (36 * a + 27) (by first | exact no_82_28 (by omega) | (unfold mVS; omega))).trans rfl))) (e_bq h108 (by decide) (by decide)) ?_
                  refine e_Ok.ps1 (x := (0, 1)) (q := 393) 1 rfl ?_
                  refine e_Ok.any rfl (eF_add_any _ _) (fun z109 z109a z109b => ?_)
                  refine e_Ok.if2 rfl (fun h110 => ?_) (fun h110 => ?_)
                  · replace h110 : (z90 : Int) = z109 := h110
                    refine e_Ok.ps1 (x := (0, 0)) (q := 402) 1 rfl ?_
                    refine e_Ok.callV rfl (e_dq hd rfl) rfl rfl rfl rfl (c_389 q106T (by omega)) (fun r111 w112 h113 => ?_)
                    obtain ⟨rfl, q114, q114T⟩ := h113
                    refine e_Ok.nrm (q := 405) (st' := []) rfl rfl ?_
                    refine e_Ok.ps1 (x := (1, 275)) (q := 406) 1 rfl ?_
                    refine e_Ok.getr (z := 276) rfl (el_o rfl) rfl (ef_o rfl) ((q114 275 0 no_82_29).trans ((q106 275 0 no_82_25).trans (e_uq hw91 (Or.inl (by decide)) ((j85 275 0 (by first | exact no_82_9 | (unfold mVS; omega))).trans (e_Has.eq hT (mt_o rfl)))))) ⟨by decide, by decide⟩ ?_
                    refine e_Ok.ps2 (x := (0, 0)) (y := (0, 36 * a + 16)) (q := 411) 2 rfl ?_
                    refine e_Ok.add (z := 36 * a + 16) rfl (e_adl (by decide)) (by omega) ?_
                    refine e_Ok.ps1 (x := (0, 0)) (q := 413) 1 rfl ?_
                    refine e_Ok.ast rfl (el_o rfl) rfl rfl (by omega) ?_
                    generalize hw116 : e_up w112 276 (36 * a + 16) 0 = w116
                    have hT118 : e_Has mTy w116 := e_Has.upr q114T hw116 (nR_STATE (a := a) (by omega)) (by omega)
                    refine e_Ok.ps1 (x := (1, 275)) (q := 415) 1 rfl ?_
                    refine e_Ok.getr (z := 276) rfl (el_o rfl) rfl (ef_o rfl) (e_uq hw116 (Or.inl (by decide)) ((q114 275 0 no_82_29).trans ((q106 275 0 no_82_25).trans (e_uq hw91 (Or.inl (by decide)) ((j85 275 0 (by first | exact no_82_9 | (unfold mVS; omega))).trans (e_Has.eq hT (mt_o rfl))))))) ⟨by decide, by decide⟩ ?_
                    refine e_Ok.ps2 (x := (0, 9)) (y := (0, 36 * a + 16)) (q := 421) 2 rfl ?_
                    refine e_Ok.add (z := 36 * a + 25) rfl (e_adl (by decide)) (by omega) ?_
                    refine e_Ok.ps1 (x := (0, (-1))) (q := 423) 1 rfl ?_
                    refine e_Ok.ast rfl (el_o rfl) rfl rfl (by omega) ?_
                    generalize hw119 : e_up w116 276 (36 * a + 25) (-1) = w119
                    have hT121 : e_Has mTy w119 := e_Has.upr hT118 hw119 (nR_MOVER (a := a) (by omega)) (by omega)
                    refine e_Ok.ps2 (x := (0, a)) (y := (1, 275)) (q := 426) 2 rfl ?_
                    have e125 : w119 276 5 = w103 276 5 := (e_uq hw119 (Or.inr (by omega)) (e_uq hw116 (Or.inr (by omega)) ((q114 276 5 no_82_30).trans rfl)))
                    have hG : e_fr (mG1 a) w w119 := (e_fr.up (e_fr.up (e_fr.trans (e_fr.trans (e_fr.up (e_fr.mono j85 (fun c k q => by first | exact su_82_40 q | (unfold mVS at q; unfold mG1; omega))) hw91 (by unfold mG1; omega)) (e_fr.mono q106 (fun c k q => by first | exact su_82_45 q | (unfold mE at q; unfold mG1; omega)))) (e_fr.mono q114 (fun c k q => by first | exact su_82_46 q | (unfold mTl at q; unfold mG1; omega)))) hw116 (by unfold mG1; omega)) hw119 (by unfold mG1; omega))
                    have eV : ∀ j, 0 ≤ j → j < w 286 a → w119 276 (36 * a + j + 32) = v1 276 (36 * a + j + 32) := fun j g1 g2 => (e_uq hw119 (Or.inr (by omega)) (e_uq hw116 (Or.inr (by omega)) ((q114 276 (36 * a + j + 32) no_82_30).trans ((q106 276 (36 * a + j + 32) (by first | exact no_82_31 (by omega) (by omega) | (unfold mE; omega))).trans (e_uq hw91 (Or.inr (by omega)) rfl)))))
                    have eS : ∀ j, 0 ≤ j → j < w 286 a → w119 276 (36 * a + j + 38) = v1 276 (36 * a + j + 38) := fun j g1 g2 => (e_uq hw119 (Or.inr (by omega)) (e_uq hw116 (Or.inr (by omega)) ((q114 276 (36 * a + j + 38) no_82_30).trans ((q106 276 (36 * a + j + 38) (by first | exact no_82_32 (by omega) (by omega) | (unfold mE; omega))).trans (e_uq hw91 (Or.inr (by omega)) rfl)))))
                    have eT : w119 276 (36 * a + 16) = 0 := (e_uq hw119 (Or.inr (e_neo (by decide))) (e_ue hw116))
                    have hwt : mMo w119 a := mMo.went hMo (Or.inr rfl) (e_Has.mo hT) ha (by omega) (fun c k q q2 => hG c k (moK_g1 ha q q2)) (fun b g1 g2 g3 => ⟨hG 276 _ (by unfold mG1; omega), hG 276 _ (by unfold mG1; omega)⟩) (hG 276 _ (by unfold mG1; omega)) (fun j g1 g2 => by unfold moJ; rw [eT, eV j g1 g2, eS j g1 g2, hG 276 (36 * a + j + 44) (by first | exact no_82_12 (by omega) (by omega) | (unfold mG1; omega)), hG 288 _ (by first | exact no_82_13 | (unfold mG1; omega)), hG 289 _ (by first | exact no_82_14 | (unfold mG1; omega)), hG 291 _ (by first | exact no_82_15 | (unfold mG1; omega))]; exact joOk.halt (j81 j g1 (by omega)) (j84 (by omega) j g1 (by omega)).1) (fun e => Or.inl ⟨rfl, fun j g1 g2 => Eq.trans (eV j g1 g2) ((j84 (by omega) j g1 (by omega)).2 e)⟩) (Or.inr ⟨fun b g1 g2 => (e_uq hw119 (Or.inr (by omega)) (e_uq hw116 (Or.inr (by omega)) ((q114 276 (36 * b + 20) no_82_30).trans ((q106 276 (36 * b + 20) (by first | exact no_82_33 (by omega) | (unfold mE; omega))).trans (e_uq hw91 (Or.inr (by omega)) ((j85 276 (36 * b + 20) (by first | exact no_82_16 (by omega) (by omega) | (unfold mVS; omega))).trans rfl)))))), fun j g1 g2 => Eq.trans (eV j g1 g2) (j83 (by omega) j g1 (by omega)).1⟩) (fun b g1 g2 => Or.inr (e_uq hw119 (Or.inr (by omega)) (e_uq hw116 (Or.inr (by omega)) ((q114 276 (36 * b + 20) no_82_30).trans ((q106 276 (36 * b + 20) (by first | exact no_82_33 (by omega) | (unfold mE; omega))).trans (e_uq hw91 (Or.inr (by omega)) ((j85 276 (36 * b + 20) (by first | exact no_82_16 (by omega) (by omega) | (unfold mVS; omega))).trans rfl)))))))
                    refine e_Ok.callV rfl (e_dq hd rfl) rfl rfl rfl rfl (c_391 (e_dq hd rfl) hT121 (mCf.fr hCf (fun c k q => (e_uq hw119 (Or.inl (by omega)) (e_uq hw116 (Or.inl (by omega)) ((q114 c k (by unfold mTl; omega)).trans ((q106 c k (by unfold mE; omega)).trans (e_uq hw91 (Or.inl (by omega)) ((j85 c k (by unfold mVS; omega)).trans rfl)))))))) ha hwt eT (Eq.trans (hG 276 1 (by first | exact no_82_34 (by omega) | (unfold mG1; omega))) hPw)) (fun r122 w123 h124 => ?_)
                    obtain ⟨rfl, q126, q126T, q126m⟩ := h124
                    refine e_Ok.nrm (q := 429) (st' := []) rfl rfl ?_
                    refine e_Ok.rets rfl rfl ?_
                    have e128 : w123 276 5 = w103 276 5 := ((q126 276 5 (by first | exact no_82_35 (by omega) | (unfold mNw; omega))).trans (e_uq hw119 (Or.inr (by omega)) (e_uq hw116 (Or.inr (by omega)) ((q114 276 5 no_82_30).trans rfl))))
                    exact ⟨rfl, (show e_fr (mGn a) w w123 from e_fr.trans (show e_fr (mGn a) w w119 from e_fr.up (show e_fr (mGn a) w w116 from e_fr.up (show e_fr (mGn a) w w112 from e_fr.trans f107 (e_fr.mono q114 (fun c k q => by first | exact su_82_44 q | (unfold mTl at q; unfold mGn mG1 mNw; omega)))) hw116 (by first | exact Or.inl (Or.inr ⟨rfl, Or.inr (Or.inr (Or.inl (by omega)))⟩) | (unfold mGn mG1 mNw; omega))) hw119 (by first | exact Or.inl (Or.inr ⟨rfl, Or.inr (Or.inr (Or.inr (Or.inr (Or.inl (by omega)))))⟩) | (unfold mGn mG1 mNw; omega))) (e_fr.mono q126 (fun c k q => by exact Or.inr q))), q126T, by omega, q126m⟩
                  · replace h110 : (z90 : Int) ≠ z109 := (show ¬ ((z90 : Int) = z109) from h110)
                    refine e_Ok.ps1 (x := (0, 1)) (q := 402) 2 rfl ?_
                    refine e_Ok.callV rfl (e_dq hd rfl) rfl rfl rfl rfl (c_389 q106T (by omega)) (fun r129 w130 h131 => ?_)
                    obtain ⟨rfl, q132, q132T⟩ := h131
                    refine e_Ok.nrm (q := 405) (st' := []) rfl rfl ?_
                    refine e_Ok.ps1 (x := (1, 275)) (q := 406) 1 rfl ?_
                    refine e_Ok.getr (z := 276) rfl (el_o rfl) rfl (ef_o rfl) ((q132 275 0 no_82_29).trans ((q106 275 0 no_82_25).trans (e_uq hw91 (Or.inl (by decide)) ((j85 275 0 (by first | exact no_82_9 | (unfold mVS; omega))).trans (e_Has.eq hT (mt_o rfl)))))) ⟨by decide, by decide⟩ ?_
                    refine e_Ok.ps2 (x := (0, 0)) (y := (0, 36 * a + 16)) (q := 411) 2 rfl ?_
                    refine e_Ok.add (z := 36 * a + 16) rfl (e_adl (by decide)) (by omega) ?_
                    refine e_Ok.ps1 (x := (0, 0)) (q := 413) 1 rfl ?_
                    refine e_Ok.ast rfl (el_o rfl) rfl rfl (by omega) ?_
                    generalize hw134 : e_up w130 276 (36 * a + 16) 0 = w134
                    have hT136 : e_Has mTy w134 := e_Has.upr q132T hw134 (nR_STATE (a := a) (by omega)) (by omega)
                    refine e_Ok.ps1 (x := (1, 275)) (q := 415) 1 rfl ?_
                    refine e_Ok.getr (z := 276) rfl (el_o rfl) rfl (ef_o rfl) (e_uq hw134 (Or.inl (by decide)) ((q132 275 0 no_82_29).trans ((q106 275 0 no_82_25).trans (e_uq hw91 (Or.inl (by decide)) ((j85 275 0 (by first | exact no_82_9 | (unfold mVS; omega))).trans (e_Has.eq hT (mt_o rfl))))))) ⟨by decide, by decide⟩ ?_
                    refine e_Ok.ps2 (x := (0, 9)) (y := (0, 36 * a + 16)) (q := 421) 2 rfl ?_
                    refine e_Ok.add (z := 36 * a + 25) rfl (e_adl (by decide)) (by omega) ?_
                    refine e_Ok.ps1 (x := (0, (-1))) (q := 423) 1 rfl ?_
                    refine e_Ok.ast rfl (el_o rfl) rfl rfl (by omega) ?_
                    generalize hw137 : e_up w134 276 (36 * a + 25) (-1) = w137
                    have hT139 : e_Has mTy w137 := e_Has.upr hT136 hw137 (nR_MOVER (a := a) (by omega)) (by omega)
                    refine e_Ok.ps2 (x := (0, a)) (y := (1, 275)) (q := 426) 2 rfl ?_
                    have e143 : w137 276 5 = w103 276 5 := (e_uq hw137 (Or.inr (by omega)) (e_uq hw134 (Or.inr (by omega)) ((q132 276 5 no_82_30).trans rfl)))
                    have hG : e_fr (mG1 a) w w137 := (e_fr.up (e_fr.up (e_fr.trans (e_fr.trans (e_fr.up (e_fr.mono j85 (fun c k q => by first | exact su_82_40 q | (unfold mVS at q; unfold mG1; omega))) hw91 (by unfold mG1; omega)) (e_fr.mono q106 (fun c k q => by first | exact su_82_45 q | (unfold mE at q; unfold mG1; omega)))) (e_fr.mono q132 (fun c k q => by first | exact su_82_46 q | (unfold mTl at q; unfold mG1; omega)))) hw134 (by unfold mG1; omega)) hw137 (by unfold mG1; omega))
                    have eV : ∀ j, 0 ≤ j → j < w 286 a → w137 276 (36 * a + j + 32) = v1 276 (36 * a + j + 32) := fun j g1 g2 => (e_uq hw137 (Or.inr (by omega)) (e_uq hw134 (Or.inr (by omega)) ((q132 276 (36 * a + j + 32) no_82_30).trans ((q106 276 (36 * a + j + 32) (by first | exact no_82_31 (by omega) (by omega) | (unfold mE; omega))).trans (e_uq hw91 (Or.inr (by omega)) rfl)))))
                    have eS : ∀ j, 0 ≤ j → j < w 286 a → w137 276 (36 * a + j + 38) = v1 276 (36 * a + j + 38) := fun j g1 g2 => (e_uq hw137 (Or.inr (by omega)) (e_uq hw134 (Or.inr (by omega)) ((q132 276 (36 * a + j + 38) no_82_30).trans ((q106 276 (36 * a + j + 38) (by first | exact no_82_32 (by omega) (by omega) | (unfold mE; omega))).trans (e_uq hw91 (Or.inr (by omega)) rfl)))))
                    have eT : w137 276 (36 * a + 16) = 0 := (e_uq hw137 (Or.inr (e_neo (by decide))) (e_ue hw134))
                    have hwt : mMo w137 a := mMo.went hMo (Or.inr rfl) (e_Has.mo hT) ha (by omega) (fun c k q q2 => hG c k (moK_g1 ha q q2)) (fun b g1 g2 g3 => ⟨hG 276 _ (by unfold mG1; omega), hG 276 _ (by unfold mG1; omega)⟩) (hG 276 _ (by unfold mG1; omega)) (fun j g1 g2 => by unfold moJ; rw [eT, eV j g1 g2, eS j g1 g2, hG 276 (36 * a + j + 44) (by first | exact no_82_12 (by omega) (by omega) | (unfold mG1; omega)), hG 288 _ (by first | exact no_82_13 | (unfold mG1; omega)), hG 289 _ (by first | exact no_82_14 | (unfold mG1; omega)), hG 291 _ (by first | exact no_82_15 | (unfold mG1; omega))]; exact joOk.halt (j81 j g1 (by omega)) (j84 (by omega) j g1 (by omega)).1) (fun e => Or.inl ⟨rfl, fun j g1 g2 => Eq.trans (eV j g1 g2) ((j84 (by omega) j g1 (by omega)).2 e)⟩) (Or.inr ⟨fun b g1 g2 => (e_uq hw137 (Or.inr (by omega)) (e_uq hw134 (Or.inr (by omega)) ((q132 276 (36 * b + 20) no_82_30).trans ((q106 276 (36 * b + 20) (by first | exact no_82_33 (by omega) | (unfold mE; omega))).trans (e_uq hw91 (Or.inr (by omega)) ((j85 276 (36 * b + 20) (by first | exact no_82_16 (by omega) (by omega) | (unfold mVS; omega))).trans rfl)))))), fun j g1 g2 => Eq.trans (eV j g1 g2) (j83 (by omega) j g1 (by omega)).1⟩) (fun b g1 g2 => Or.inr (e_uq hw137 (Or.inr (by omega)) (e_uq hw134 (Or.inr (by omega)) ((q132 276 (36 * b + 20) no_82_30).trans ((q106 276 (36 * b + 20) (by first | exact no_82_33 (by omega) | (unfold mE; omega))).trans (e_uq hw91 (Or.inr (by omega)) ((j85 276 (36 * b + 20) (by first | exact no_82_16 (by omega) (by omega) | (unfold mVS; omega))).trans rfl)))))))
                    refine e_Ok.callV rfl (e_dq hd rfl) rfl rfl rfl rfl (c_391 (e_dq hd rfl) hT139 (mCf.fr hCf (fun c k q => (e_uq hw137 (Or.inl (by omega)) (e_uq hw134 (Or.inl (by omega)) ((q132 c k (by unfold mTl; omega)).trans ((q106 c k (by unfold mE; omega)).trans (e_uq hw91 (Or.inl (by omega)) ((j85 c k (by unfold mVS; omega)).trans rfl)))))))) ha hwt eT (Eq.trans (hG 276 1 (by first | exact no_82_34 (by omega) | (unfold mG1; omega))) hPw)) (fun r140 w141 h142 => ?_)
                    obtain ⟨rfl, q144, q144T, q144m⟩ := h142
                    refine e_Ok.nrm (q := 429) (st' := []) rfl rfl ?_
                    refine e_Ok.rets rfl rfl ?_
                    have e146 : w141 276 5 = w103 276 5 := ((q144 276 5 (by first | exact no_82_35 (by omega) | (unfold mNw; omega))).trans (e_uq hw137 (Or.inr (by omega)) (e_uq hw134 (Or.inr (by omega)) ((q132 276 5 no_82_30).trans rfl))))
                    exact ⟨rfl, (show e_fr (mGn a) w w141 from e_fr.trans (show e_fr (mGn a) w w137 from e_fr.up (show e_fr (mGn a) w w134 from e_fr.up (show e_fr (mGn a) w w130 from e_fr.trans f107 (e_fr.mono q132 (fun c k q => by first | exact su_82_44 q | (unfold mTl at q; unfold mGn mG1 mNw; omega)))) hw134 (by first | exact Or.inl (Or.inr ⟨rfl, Or.inr (Or.inr (Or.inl (by omega)))⟩) | (unfold mGn mG1 mNw; omega))) hw137 (by first | exact Or.inl (Or.inr ⟨rfl, Or.inr (Or.inr (Or.inr (Or.inr (Or.inl (by omega)))))⟩) | (unfold mGn mG1 mNw; omega))) (e_fr.mono q144 (fun c k q => by exact Or.inr q))), q144T, by omega, q144m⟩
              · replace h88 : (1 : Int) = 0 := Classical.not_not.mp (show ¬ ((1 : Int) ≠ 0) from h88)
                exfalso; omega
            · replace h87 : (y5 : Int) ≠ 0 := (show ¬ ((y5 : Int) = 0) from h87)
              refine e_Ok.ps2 (x := (0, a)) (y := (1, 275)) (q := 312) 2 rfl ?_
              refine e_Ok.callV rfl (e_dq hd rfl) rfl rfl rfl rfl (c_390 (e_dq hd rfl) j79) (fun r147 w148 h149 => ?_)
              obtain ⟨rfl, q150, q150T, q150a, q150b⟩ := h149
              refine e_Ok.nrm (q := 315) (st' := []) rfl rfl ?_
              refine e_Ok.ps1 (x := (0, 1)) (q := 316) 1 rfl ?_
              refine e_Ok.if1 rfl (fun h152 => ?_) (fun h152 => ?_)
              · replace h152 : (1 : Int) ≠ 0 := h152
                refine e_Ok.ps1 (x := (1, 275)) (q := 339) 1 rfl ?_
                refine e_Ok.getr (z := 276) rfl (el_o rfl) rfl (ef_o rfl) ((q150 275 0 no_82_17).trans ((j85 275 0 (by first | exact no_82_9 | (unfold mVS; omega))).trans (e_Has.eq hT (mt_o rfl)))) ⟨by decide, by decide⟩ ?_
                refine e_Ok.ps2 (x := (0, 8)) (y := (0, 36 * a + 16)) (q := 345) 2 rfl ?_
                refine e_Ok.add (z := 36 * a + 24) rfl (e_adl (by decide)) (by omega) ?_
                refine e_Ok.ps2 (x := (0, 36 * a + 24)) (y := (1, 276)) (q := 347) 1 rfl ?_
                have h153 := (e_Has.get hT (c := 276) (k := 36 * a + 24) (lo := (-2147483648)) (hi := 2147483647) (nR_TICKS (a := a) (by omega)) (by decide))
                refine e_Ok.ald (z := w 276 (36 * a + 24)) rfl (el_o rfl) rfl (by omega) ((q150 276 (36 * a + 24) (by first | exact no_82_36 (by omega) | (unfold mSt; omega))).trans ((j85 276 (36 * a + 24) (by first | exact no_82_23 (by omega) | (unfold mVS; omega))).trans rfl)) (e_bq h153 (by decide) (by decide)) ?_
                refine e_Ok.ps1 (x := (0, 1)) (q := 349) 1 rfl ?_
                refine e_Ok.any rfl (eF_add_any _ _) (fun z154 z154a z154b => ?_)
                refine e_Ok.ast rfl (el_o rfl) rfl rfl (by omega) ?_
                generalize hw155 : e_up w148 276 (36 * a + 24) z154 = w155
                have f156 : e_fr (mGn a) w w155 := e_fr.up (show e_fr (mGn a) w w148 from e_fr.trans j78 (e_fr.mono q150 (fun c k q => by first | exact su_82_41 q | (unfold mSt at q; unfold mGn mG1 mNw; omega)))) hw155 (by first | exact Or.inl (Or.inr ⟨rfl, Or.inr (Or.inr (Or.inr (Or.inl (by omega))))⟩) | (unfold mGn mG1 mNw; omega))
                have hT157 : e_Has mTy w155 := e_Has.upr q150T hw155 (nR_TICKS (a := a) (by omega)) (by omega)
                refine e_Ok.ps1 (x := (0, y4)) (q := 353) 1 rfl ?_
                refine e_Ok.if1 rfl (fun h158 => ?_) (fun h158 => ?_)
                · replace h158 : (y4 : Int) = 0 := h158
                  refine e_Ok.rets rfl rfl ?_
                  have e159 : w155 276 5 = w 276 5 := (e_uq hw155 (Or.inr (by omega)) ((q150 276 5 no_82_18).trans ((j85 276 5 (by first | exact no_82_11 (by omega) | (unfold mVS; omega))).trans rfl)))
                  have hG : e_fr (mG1 a) w w155 := (e_fr.up (e_fr.trans (e_fr.mono j85 (fun c k q => by first | exact su_82_40 q | (unfold mVS at q; unfold mG1; omega))) (e_fr.mono q150 (fun c k q => by first | exact su_82_42 q | (unfold mSt at q; unfold mG1; omega)))) hw155 (by unfold mG1; omega))
                  have eV : ∀ j, 0 ≤ j → j < w 286 a → w155 276 (36 * a + j + 32) = v1 276 (36 * a + j + 32) := fun j g1 g2 => (e_uq hw155 (Or.inr (by omega)) ((q150 276 (36 * a + j + 32) (by first | exact no_82_19 (by omega) (by omega) | (unfold mSt; omega))).trans rfl))
                  have eS : ∀ j, 0 ≤ j → j < w 286 a → w155 276 (36 * a + j + 38) = v1 276 (36 * a + j + 38) := fun j g1 g2 => (e_uq hw155 (Or.inr (by omega)) ((q150 276 (36 * a + j + 38) (by first | exact no_82_20 (by omega) (by omega) | (unfold mSt; omega))).trans rfl))
                  have eT : w155 276 (36 * a + 16) = w 276 (36 * a + 16) := (e_uq hw155 (Or.inr (e_neo (by decide))) ((q150 276 (36 * a + 16) (by first | exact no_82_37 (by omega) | (unfold mSt; omega))).trans ((j85 276 (36 * a + 16) (by first | exact no_82_24 (by omega) | (unfold mVS; omega))).trans rfl)))
                  have hwt : mMo w155 (-1) := mMo.went hMo (Or.inl rfl) (e_Has.mo hT) ha (by omega) (fun c k q q2 => hG c k (moK_g1 ha q q2)) (fun b g1 g2 g3 => ⟨hG 276 _ (by unfold mG1; omega), hG 276 _ (by unfold mG1; omega)⟩) (hG 276 _ (by unfold mG1; omega)) (fun j g1 g2 => by unfold moJ; rw [show w155 276 (36 * a + 16) = w 276 (36 * a + 16) by omega, eV j g1 g2, eS j g1 g2, hG 276 (36 * a + j + 44) (by first | exact no_82_12 (by omega) (by omega) | (unfold mG1; omega)), hG 288 _ (by first | exact no_82_13 | (unfold mG1; omega)), hG 289 _ (by first | exact no_82_14 | (unfold mG1; omega)), hG 291 _ (by first | exact no_82_15 | (unfold mG1; omega))]; exact j81 j g1 (by omega)) (fun _ => Or.inr ⟨rfl, by omega⟩) (Or.inl (fun b g1 g2 => Eq.trans (e_uq hw155 (Or.inr (by omega)) rfl) (q150a b g1 (by have q0 : v1 275 10 = w 275 10 := ((j85 275 10 (by first | exact no_82_9 | (unfold mVS; omega))).trans rfl); omega)))) (fun b g1 g2 => by have e := q150b b g1 g2; rw [show v1 276 (36 * b + 20) = w 276 (36 * b + 20) from ((j85 276 (36 * b + 20) (by first | exact no_82_16 (by omega) (by omega) | (unfold mVS; omega))).trans rfl)] at e; rw [show w155 276 (36 * b + 20) = w148 276 (36 * b + 20) from (e_uq hw155 (Or.inr (by omega)) rfl)]; exact e)
                  exact ⟨rfl, f156, hT157, by omega, hwt⟩
                · replace h158 : (y4 : Int) ≠ 0 := (show ¬ ((y4 : Int) = 0) from h158)
                  refine e_Ok.ps4 (x := (1, 275)) (y := (0, a)) (z := (0, 8)) (u := (1, 275)) (q := 361) 4 rfl ?_
                  refine e_Ok.getr (z := 276) rfl (el_o rfl) rfl (ef_o rfl) (e_uq hw155 (Or.inl (by decide)) ((q150 275 0 no_82_17).trans ((j85 275 0 (by first | exact no_82_9 | (unfold mVS; omega))).trans (e_Has.eq hT (mt_o rfl))))) ⟨by decide, by decide⟩ ?_
                  refine e_Ok.ps2 (x := (0, 8)) (y := (0, 36 * a + 16)) (q := 367) 2 rfl ?_
                  refine e_Ok.add (z := 36 * a + 24) rfl (e_adl (by decide)) (by omega) ?_
                  refine e_Ok.ald (z := z154) rfl (el_o rfl) rfl (by omega) (e_ue hw155) (by omega) ?_
                  have e163 : w155 276 5 = w 276 5 := (e_uq hw155 (Or.inr (by omega)) ((q150 276 5 no_82_18).trans ((j85 276 5 (by first | exact no_82_11 (by omega) | (unfold mVS; omega))).trans rfl)))
                  refine e_Ok.callV rfl (e_dq hd rfl) rfl rfl rfl rfl (c_319 hT157 (by omega) (by omega) (by omega) (by omega)) (fun r160 w161 h162 => ?_)
                  obtain ⟨rfl, q164, q164T, q164n⟩ := h162
                  have f165 : e_fr (mGn a) w w161 := e_fr.trans f156 (e_fr.mono q164 (fun c k q => by first | exact su_82_43 q | (unfold mE at q; unfold mGn mG1 mNw; omega)))
                  refine e_Ok.nrm (q := 372) (st' := []) rfl rfl ?_
                  refine e_Ok.ps3 (x := (1, 275)) (y := (0, 1)) (z := (1, 275)) (q := 375) 3 rfl ?_
                  refine e_Ok.getr (z := 276) rfl (el_o rfl) rfl (ef_o rfl) ((q164 275 0 no_82_25).trans (e_uq hw155 (Or.inl (by decide)) ((q150 275 0 no_82_17).trans ((j85 275 0 (by first | exact no_82_9 | (unfold mVS; omega))).trans (e_Has.eq hT (mt_o rfl)))))) ⟨by decide, by decide⟩ ?_
                  refine e_Ok.ps2 (x := (0, 8)) (y := (0, 36 * a + 16)) (q := 381) 2 rfl ?_
                  refine e_Ok.add (z := 36 * a + 24) rfl (e_adl (by decide)) (by omega) ?_
                  refine e_Ok.ald (z := z154) rfl (el_o rfl) rfl (by omega) ((q164 276 (36 * a + 24) (by first | exact no_82_26 (by omega) | (unfold mE; omega))).trans (e_ue hw155)) (by omega) ?_
                  refine e_Ok.ps1 (x := (1, 275)) (q := 384) 1 rfl ?_
                  refine e_Ok.getr (z := 276) rfl (el_o rfl) rfl (ef_o rfl) ((q164 275 0 no_82_25).trans (e_uq hw155 (Or.inl (by decide)) ((q150 275 0 no_82_17).trans ((j85 275 0 (by first | exact no_82_9 | (unfold mVS; omega))).trans (e_Has.eq hT (mt_o rfl)))))) ⟨by decide, by decide⟩ ?_
                  refine e_Ok.ps2 (x := (0, 11)) (y := (0, 36 * a + 16)) (q := 390) 2 rfl ?_
                  refine e_Ok.add (z := 36 * a + 27) rfl (e_adl (by decide)) (by omega) ?_
                  have h166 := (e_Has.get hT (c := 276) (k := 36 * a + 27) (lo := (-2147483648)) (hi := 2147483647) (nR_FEWEST (a := a) (by omega)) (by decide))
                  refine e_Ok.ald (z := w 276 (36 * a + 27)) rfl (el_o rfl) rfl (by omega) ((q164 276 (36 * a + 27) (by first | exact no_82_27 (by omega) | (unfold mE; omega))).trans (e_uq hw155 (Or.inr (e_neo (by decide))) ((q150 276 (36 * a + 27) (by first | exact no_82_38 (by omega) | (unfold mSt; omega))).trans ((j85 276 (36 * a + 27) (by first | exact no_82_28 (by omega) | (unfold mVS; omega))).trans rfl)))) (e_bq h166 (by decide) (by decide)) ?_
                  refine e_Ok.ps1 (x := (0, 1)) (q := 393) 1 rfl ?_
                  refine e_Ok.any rfl (eF_add_any _ _) (fun z167 z167a z167b => ?_)
                  refine e_Ok.if2 rfl (fun h168 => ?_) (fun h168 => ?_)
                  · replace h168 : (z154 : Int) = z167 := h168
                    refine e_Ok.ps1 (x := (0, 0)) (q := 402) 1 rfl ?_
                    refine e_Ok.callV rfl (e_dq hd rfl) rfl rfl rfl rfl (c_389 q164T (by omega)) (fun r169 w170 h171 => ?_)
                    obtain ⟨rfl, q172, q172T⟩ := h171
                    refine e_Ok.nrm (q := 405) (st' := []) rfl rfl ?_
                    refine e_Ok.ps1 (x := (1, 275)) (q := 406) 1 rfl ?_
                    refine e_Ok.getr (z := 276) rfl (el_o rfl) rfl (ef_o rfl) ((q172 275 0 no_82_29).trans ((q164 275 0 no_82_25).trans (e_uq hw155 (Or.inl (by decide)) ((q150 275 0 no_82_17).trans ((j85 275 0 (by first | exact no_82_9 | (unfold mVS; omega))).trans (e_Has.eq hT (mt_o rfl))))))) ⟨by decide, by decide⟩ ?_
                    refine e_Ok.ps2 (x := (0, 0)) (y := (0, 36 * a + 16)) (q := 411) 2 rfl ?_
                    refine e_Ok.add (z := 36 * a + 16) rfl (e_adl (by decide)) (by omega) ?_
                    refine e_Ok.ps1 (x := (0, 0)) (q := 413) 1 rfl ?_
                    refine e_Ok.ast rfl (el_o rfl) rfl rfl (by omega) ?_
                    generalize hw174 : e_up w170 276 (36 * a + 16) 0 = w174
                    have hT176 : e_Has mTy w174 := e_Has.upr q172T hw174 (nR_STATE (a := a) (by omega)) (by omega)
                    refine e_Ok.ps1 (x := (1, 275)) (q := 415) 1 rfl ?_
                    refine e_Ok.getr (z := 276) rfl (el_o rfl) rfl (ef_o rfl) (e_uq hw174 (Or.inl (by decide)) ((q172 275 0 no_82_29).trans ((q164 275 0 no_82_25).trans (e_uq hw155 (Or.inl (by decide)) ((q150 275 0 no_82_17).trans ((j85 275 0 (by first | exact no_82_9 | (unfold mVS; omega))).trans (e_Has.eq hT (mt_o rfl)))))))) ⟨by decide, by decide⟩ ?_
                    refine e_Ok.ps2 (x := (0, 9)) (y := (0, 36 * a + 16)) (q := 421) 2 rfl ?_
                    refine e_Ok.add (z := 36 * a + 25) rfl (e_adl (by decide)) (by omega) ?_
                    refine e_Ok.ps1 (x := (0, (-1))) (q := 423) 1 rfl ?_
                    refine e_Ok.ast rfl (el_o rfl) rfl rfl (by omega) ?_
                    generalize hw177 : e_up w174 276 (36 * a + 25) (-1) = w177
                    have hT179 : e_Has mTy w177 := e_Has.upr hT176 hw177 (nR_MOVER (a := a) (by omega)) (by omega)
                    refine e_Ok.ps2 (x := (0, a)) (y := (1, 275)) (q := 426) 2 rfl ?_
                    have e183 : w177 276 5 = w161 276 5 := (e_uq hw177 (Or.inr (by omega)) (e_uq hw174 (Or.inr (by omega)) ((q172 276 5 no_82_30).trans rfl)))
                    have hG : e_fr (mG1 a) w w177 := (e_fr.up (e_fr.up (e_fr.trans (e_fr.trans (e_fr.up (e_fr.trans (e_fr.mono j85 (fun c k q => by first | exact su_82_40 q | (unfold mVS at q; unfold mG1; omega))) (e_fr.mono q150 (fun c k q => by first | exact su_82_42 q | (unfold mSt at q; unfold mG1; omega)))) hw155 (by unfold mG1; omega)) (e_fr.mono q164 (fun c k q => by first | exact su_82_45 q | (unfold mE at q; unfold mG1; omega)))) (e_fr.mono q172 (fun c k q => by first | exact su_82_46 q | (unfold mTl at q; unfold mG1; omega)))) hw174 (by unfold mG1; omega)) hw177 (by unfold mG1; omega))
                    have eV : ∀ j, 0 ≤ j → j < w 286 a → w177 276 (36 * a + j + 32) = v1 276 (36 * a + j + 32) := fun j g1 g2 => (e_uq hw177 (Or.inr (by omega)) (e_uq hw174 (Or.inr (by omega)) ((q172 276 (36 * a + j + 32) no_82_30).trans ((q164 276 (36 * a + j + 32) (by first | exact no_82_31 (by omega) (by omega) | (unfold mE; omega))).trans (e_uq hw155 (Or.inr (by omega)) ((q150 276 (36 * a + j + 32) (by first | exact no_82_19 (by omega) (by omega) | (unfold mSt; omega))).trans rfl))))))
                    have eS : ∀ j, 0 ≤ j → j < w 286 a → w177 276 (36 * a + j + 38) = v1 276 (36 * a + j + 38) := fun j g1 g2 => (e_uq hw177 (Or.inr (by omega)) (e_uq hw174 (Or.inr (by omega)) ((q172 276 (36 * a + j + 38) no_82_30).trans ((q164 276 (36 * a + j + 38) (by first | exact no_82_32 (by omega) (by omega) | (unfold mE; omega))).trans (e_uq hw155 (Or.inr (by omega)) ((q150 276 (36 * a + j + 38) (by first | exact no_82_20 (by omega) (by omega) | (unfold mSt; omega))).trans rfl))))))
                    have eT : w177 276 (36 * a + 16) = 0 := (e_uq hw177 (Or.inr (e_neo (by decide))) (e_ue hw174))
                    have hwt : mMo w177 a := mMo.went hMo (Or.inr rfl) (e_Has.mo hT) ha (by omega) (fun c k q q2 => hG c k (moK_g1 ha q q2)) (fun b g1 g2 g3 => ⟨hG 276 _ (by unfold mG1; omega), hG 276 _ (by unfold mG1; omega)⟩) (hG 276 _ (by unfold mG1; omega)) (fun j g1 g2 => by unfold moJ; rw [eT, eV j g1 g2, eS j g1 g2, hG 276 (36 * a + j + 44) (by first | exact no_82_12 (by omega) (by omega) | (unfold mG1; omega)), hG 288 _ (by first | exact no_82_13 | (unfold mG1; omega)), hG 289 _ (by first | exact no_82_14 | (unfold mG1; omega)), hG 291 _ (by first | exact no_82_15 | (unfold mG1; omega))]; exact joOk.halt (j81 j g1 (by omega)) (j84 (by omega) j g1 (by omega)).1) (fun e => Or.inl ⟨rfl, fun j g1 g2 => Eq.trans (eV j g1 g2) ((j84 (by omega) j g1 (by omega)).2 e)⟩) (Or.inl (fun b g1 g2 => Eq.trans (e_uq hw177 (Or.inr (by omega)) (e_uq hw174 (Or.inr (by omega)) ((q172 276 (36 * b + 20) no_82_30).trans ((q164 276 (36 * b + 20) (by first | exact no_82_33 (by omega) | (unfold mE; omega))).trans (e_uq hw155 (Or.inr (by omega)) rfl))))) (q150a b g1 (by have q0 : v1 275 10 = w 275 10 := ((j85 275 10 (by first | exact no_82_9 | (unfold mVS; omega))).trans rfl); omega)))) (fun b g1 g2 => by have e := q150b b g1 g2; rw [show v1 276 (36 * b + 20) = w 276 (36 * b + 20) from ((j85 276 (36 * b + 20) (by first | exact no_82_16 (by omega) (by omega) | (unfold mVS; omega))).trans rfl)] at e; rw [show w177 276 (36 * b + 20) = w148 276 (36 * b + 20) from (e_uq hw177 (Or.inr (by omega)) (e_uq hw174 (Or.inr (by omega)) ((q172 276 (36 * b + 20) no_82_30).trans ((q164 276 (36 * b + 20) (by first | exact no_82_33 (by omega) | (unfold mE; omega))).trans (e_uq hw155 (Or.inr (by omega)) rfl)))))]; exact e)
                    refine e_Ok.callV rfl (e_dq hd rfl) rfl rfl rfl rfl (c_391 (e_dq hd rfl) hT179 (mCf.fr hCf (fun c k q => (e_uq hw177 (Or.inl (by omega)) (e_uq hw174 (Or.inl (by omega)) ((q172 c k (by unfold mTl; omega)).trans ((q164 c k (by unfold mE; omega)).trans (e_uq hw155 (Or.inl (by omega)) ((q150 c k (by unfold mSt; omega)).trans ((j85 c k (by unfold mVS; omega)).trans rfl))))))))) ha hwt eT (Eq.trans (hG 276 1 (by first | exact no_82_34 (by omega) | (unfold mG1; omega))) hPw)) (fun r180 w181 h182 => ?_)
                    obtain ⟨rfl, q184, q184T, q184m⟩ := h182
                    refine e_Ok.nrm (q := 429) (st' := []) rfl rfl ?_
                    refine e_Ok.rets rfl rfl ?_
                    have e186 : w181 276 5 = w161 276 5 := ((q184 276 5 (by first | exact no_82_35 (by omega) | (unfold mNw; omega))).trans (e_uq hw177 (Or.inr (by omega)) (e_uq hw174 (Or.inr (by omega)) ((q172 276 5 no_82_30).trans rfl))))
                    exact ⟨rfl, (show e_fr (mGn a) w w181 from e_fr.trans (show e_fr (mGn a) w w177 from e_fr.up (show e_fr (mGn a) w w174 from e_fr.up (show e_fr (mGn a) w w170 from e_fr.trans f165 (e_fr.mono q172 (fun c k q => by first | exact su_82_44 q | (unfold mTl at q; unfold mGn mG1 mNw; omega)))) hw174 (by first | exact Or.inl (Or.inr ⟨rfl, Or.inr (Or.inr (Or.inl (by omega)))⟩) | (unfold mGn mG1 mNw; omega))) hw177 (by first | exact Or.inl (Or.inr ⟨rfl, Or.inr (Or.inr (Or.inr (Or.inr (Or.inl (by omega)))))⟩) | (unfold mGn mG1 mNw; omega))) (e_fr.mono q184 (fun c k q => by exact Or.inr q))), q184T, by omega, q184m⟩
                  · replace h168 : (z154 : Int) ≠ z167 := (show ¬ ((z154 : Int) = z167) from h168)
                    refine e_Ok.ps1 (x := (0, 1)) (q := 402) 2 rfl ?_
                    refine e_Ok.callV rfl (e_dq hd rfl) rfl rfl rfl rfl (c_389 q164T (by omega)) (fun r187 w188 h189 => ?_)
                    obtain ⟨rfl, q190, q190T⟩ := h189
                    refine e_Ok.nrm (q := 405) (st' := []) rfl rfl ?_
                    refine e_Ok.ps1 (x := (1, 275)) (q := 406) 1 rfl ?_
                    refine e_Ok.getr (z := 276) rfl (el_o rfl) rfl (ef_o rfl) ((q190 275 0 no_82_29).trans ((q164 275 0 no_82_25).trans (e_uq hw155 (Or.inl (by decide)) ((q150 275 0 no_82_17).trans ((j85 275 0 (by first | exact no_82_9 | (unfold mVS; omega))).trans (e_Has.eq hT (mt_o rfl))))))) ⟨by decide, by decide⟩ ?_
                    refine e_Ok.ps2 (x := (0, 0)) (y := (0, 36 * a + 16)) (q := 411) 2 rfl ?_
                    refine e_Ok.add (z := 36 * a + 16) rfl (e_adl (by decide)) (by omega) ?_
                    refine e_Ok.ps1 (x := (0, 0)) (q := 413) 1 rfl ?_
                    refine e_Ok.ast rfl (el_o rfl) rfl rfl (by omega) ?_
                    generalize hw192 : e_up w188 276 (36 * a + 16) 0 = w192
                    have hT194 : e_Has mTy w192 := e_Has.upr q190T hw192 (nR_STATE (a := a) (by omega)) (by omega)
                    refine e_Ok.ps1 (x := (1, 275)) (q := 415) 1 rfl ?_
                    refine e_Ok.getr (z := 276) rfl (el_o rfl) rfl (ef_o rfl) (e_uq hw192 (Or.inl (by decide)) ((q190 275 0 no_82_29).trans ((q164 275 0 no_82_25).trans (e_uq hw155 (Or.inl (by decide)) ((q150 275 0 no_82_17).trans ((j85 275 0 (by first | exact no_82_9 | (unfold mVS; omega))).trans (e_Has.eq hT (mt_o rfl)))))))) ⟨by decide, by decide⟩ ?_
                    refine e_Ok.ps2 (x := (0, 9)) (y := (0, 36 * a + 16)) (q := 421) 2 rfl ?_
                    refine e_Ok.add (z := 36 * a + 25) rfl (e_adl (by decide)) (by omega) ?_
                    refine e_Ok.ps1 (x := (0, (-1))) (q := 423) 1 rfl ?_
                    refine e_Ok.ast rfl (el_o rfl) rfl rfl (by omega) ?_
                    generalize hw195 : e_up w192 276 (36 * a + 25) (-1) = w195
                    have hT197 : e_Has mTy w195 := e_Has.upr hT194 hw195 (nR_MOVER (a := a) (by omega)) (by omega)
                    refine e_Ok.ps2 (x := (0, a)) (y := (1, 275)) (q := 426) 2 rfl ?_
                    have e201 : w195 276 5 = w161 276 5 := (e_uq hw195 (Or.inr (by omega)) (e_uq hw192 (Or.inr (by omega)) ((q190 276 5 no_82_30).trans rfl)))
                    have hG : e_fr (mG1 a) w w195 := (e_fr.up (e_fr.up (e_fr.trans (e_fr.trans (e_fr.up (e_fr.trans (e_fr.mono j85 (fun c k q => by first | exact su_82_40 q | (unfold mVS at q; unfold mG1; omega))) (e_fr.mono q150 (fun c k q => by first | exact su_82_42 q | (unfold mSt at q; unfold mG1; omega)))) hw155 (by unfold mG1; omega)) (e_fr.mono q164 (fun c k q => by first | exact su_82_45 q | (unfold mE at q; unfold mG1; omega)))) (e_fr.mono q190 (fun c k q => by first | exact su_82_46 q | (unfold mTl at q; unfold mG1; omega)))) hw192 (by unfold mG1; omega)) hw195 (by unfold mG1; omega))
                    have eV : ∀ j, 0 ≤ j → j < w 286 a → w195 276 (36 * a + j + 32) = v1 276 (36 * a + j + 32) := fun j g1 g2 => (e_uq hw195 (Or.inr (by omega)) (e_uq hw192 (Or.inr (by omega)) ((q190 276 (36 * a + j + 32) no_82_30).trans ((q164 276 (36 * a + j + 32) (by first | exact no_82_31 (by omega) (by omega) | (unfold mE; omega))).trans (e_uq hw155 (Or.inr (by omega)) ((q150 276 (36 * a + j + 32) (by first | exact no_82_19 (by omega) (by omega) | (unfold mSt; omega))).trans rfl))))))
                    have eS : ∀ j, 0 ≤ j → j < w 286 a → w195 276 (36 * a + j + 38) = v1 276 (36 * a + j + 38) := fun j g1 g2 => (e_uq hw195 (Or.inr (by omega)) (e_uq hw192 (Or.inr (by omega)) ((q190 276 (36 * a + j + 38) no_82_30).trans ((q164 276 (36 * a + j + 38) (by first | exact no_82_32 (by omega) (by omega) | (unfold mE; omega))).trans (e_uq hw155 (Or.inr (by omega)) ((q150 276 (36 * a + j + 38) (by first | exact no_82_20 (by omega) (by omega) | (unfold mSt; omega))).trans rfl))))))
                    have eT : w195 276 (36 * a + 16) = 0 := (e_uq hw195 (Or.inr (e_neo (by decide))) (e_ue hw192))
                    have hwt : mMo w195 a := mMo.went hMo (Or.inr rfl) (e_Has.mo hT) ha (by omega) (fun c k q q2 => hG c k (moK_g1 ha q q2)) (fun b g1 g2 g3 => ⟨hG 276 _ (by unfold mG1; omega), hG 276 _ (by unfold mG1; omega)⟩) (hG 276 _ (by unfold mG1; omega)) (fun j g1 g2 => by unfold moJ; rw [eT, eV j g1 g2, eS j g1 g2, hG 276 (36 * a + j + 44) (by first | exact no_82_12 (by omega) (by omega) | (unfold mG1; omega)), hG 288 _ (by first | exact no_82_13 | (unfold mG1; omega)), hG 289 _ (by first | exact no_82_14 | (unfold mG1; omega)), hG 291 _ (by first | exact no_82_15 | (unfold mG1; omega))]; exact joOk.halt (j81 j g1 (by omega)) (j84 (by omega) j g1 (by omega)).1) (fun e => Or.inl ⟨rfl, fun j g1 g2 => Eq.trans (eV j g1 g2) ((j84 (by omega) j g1 (by omega)).2 e)⟩) (Or.inl (fun b g1 g2 => Eq.trans (e_uq hw195 (Or.inr (by omega)) (e_uq hw192 (Or.inr (by omega)) ((q190 276 (36 * b + 20) no_82_30).trans ((q164 276 (36 * b + 20) (by first | exact no_82_33 (by omega) | (unfold mE; omega))).trans (e_uq hw155 (Or.inr (by omega)) rfl))))) (q150a b g1 (by have q0 : v1 275 10 = w 275 10 := ((j85 275 10 (by first | exact no_82_9 | (unfold mVS; omega))).trans rfl); omega)))) (fun b g1 g2 => by have e := q150b b g1 g2; rw [show v1 276 (36 * b + 20) = w 276 (36 * b + 20) from ((j85 276 (36 * b + 20) (by first | exact no_82_16 (by omega) (by omega) | (unfold mVS; omega))).trans rfl)] at e; rw [show w195 276 (36 * b + 20) = w148 276 (36 * b + 20) from (e_uq hw195 (Or.inr (by omega)) (e_uq hw192 (Or.inr (by omega)) ((q190 276 (36 * b + 20) no_82_30).trans ((q164 276 (36 * b + 20) (by first | exact no_82_33 (by omega) | (unfold mE; omega))).trans (e_uq hw155 (Or.inr (by omega)) rfl)))))]; exact e)
                    refine e_Ok.callV rfl (e_dq hd rfl) rfl rfl rfl rfl (c_391 (e_dq hd rfl) hT197 (mCf.fr hCf (fun c k q => (e_uq hw195 (Or.inl (by omega)) (e_uq hw192 (Or.inl (by omega)) ((q190 c k (by unfold mTl; omega)).trans ((q164 c k (by unfold mE; omega)).trans (e_uq hw155 (Or.inl (by omega)) ((q150 c k (by unfold mSt; omega)).trans ((j85 c k (by unfold mVS; omega)).trans rfl))))))))) ha hwt eT (Eq.trans (hG 276 1 (by first | exact no_82_34 (by omega) | (unfold mG1; omega))) hPw)) (fun r198 w199 h200 => ?_)
                    obtain ⟨rfl, q202, q202T, q202m⟩ := h200
                    refine e_Ok.nrm (q := 429) (st' := []) rfl rfl ?_
                    refine e_Ok.rets rfl rfl ?_
                    have e204 : w199 276 5 = w161 276 5 := ((q202 276 5 (by first | exact no_82_35 (by omega) | (unfold mNw; omega))).trans (e_uq hw195 (Or.inr (by omega)) (e_uq hw192 (Or.inr (by omega)) ((q190 276 5 no_82_30).trans rfl))))
                    exact ⟨rfl, (show e_fr (mGn a) w w199 from e_fr.trans (show e_fr (mGn a) w w195 from e_fr.up (show e_fr (mGn a) w w192 from e_fr.up (show e_fr (mGn a) w w188 from e_fr.trans f165 (e_fr.mono q190 (fun c k q => by first | exact su_82_44 q | (unfold mTl at q; unfold mGn mG1 mNw; omega)))) hw192 (by first | exact Or.inl (Or.inr ⟨rfl, Or.inr (Or.inr (Or.inl (by omega)))⟩) | (unfold mGn mG1 mNw; omega))) hw195 (by first | exact Or.inl (Or.inr ⟨rfl, Or.inr (Or.inr (Or.inr (Or.inr (Or.inl (by omega)))))⟩) | (unfold mGn mG1 mNw; omega))) (e_fr.mono q202 (fun c k q => by exact Or.inr q))), q202T, by omega, q202m⟩
              · replace h152 : (1 : Int) = 0 := Classical.not_not.mp (show ¬ ((1 : Int) ≠ 0) from h152)
                exfalso; omega
          · replace h86 : (y6 : Int) < w 286 a := Int.not_le.mp (show ¬ ((y6 : Int) ≥ w 286 a) from h86)
            have h4 := j82 y6 (by omega) (by omega)
            have hjo := hMo.1 a y6 ha.1 ha.2 (by omega) (by omega)
            unfold moJ at hjo
            have hST : w 276 (36 * a + 16) = 1 := by omega
            rw [hST] at hjo
            have hcf := hCf a y6 ha.1 ha.2 (by omega) (by omega)
            have hnr := joOk.near hcf.2 hjo
            have hb288 := e_Has.get hT (c := 288) (k := 6 * a + y6) (lo := -100000) (hi := 0) (mt_o rfl) (by decide)
            have hb289 := e_Has.get hT (c := 289) (k := 6 * a + y6) (lo := 0) (hi := 100000) (mt_o rfl) (by decide)
            have hb290 := e_Has.get hT (c := 290) (k := 6 * a + y6) (lo := 0) (hi := 2000) (mt_o rfl) (by decide)
            have hb291 := e_Has.get hT (c := 291) (k := 6 * a + y6) (lo := 0) (hi := 2000) (mt_o rfl) (by decide)
            refine e_Ok.run (t' := (56, [(0, (1, 275)), (1, (0, a)), (2, (0, 36 * a + 16)), (3, (0, 1)), (4, (0, y4)), (5, (0, y5)), (6, (0, y6))], [(1, 275)], v1)) 1 rfl ?_
            refine e_Ok.getr (z := 276) rfl (el_o rfl) rfl (ef_o rfl) ((j85 275 0 (by first | exact no_82_9 | (unfold mVS; omega))).trans (e_Has.eq hT (mt_o rfl))) ⟨by decide, by decide⟩ ?_
            refine e_Ok.ps2 (x := (0, 22)) (y := (0, 36 * a + 16)) (q := 62) 2 rfl ?_
            refine e_Ok.add (z := 36 * a + 38) rfl (e_adl (by decide)) (by omega) ?_
            refine e_Ok.ps1 (x := (0, y6)) (q := 65) 1 rfl ?_
            refine e_Ok.add (z := 36 * a + y6 + 38) rfl (by omega) (by omega) ?_
            have h205 := (e_Has.get j79 (c := 276) (k := 36 * a + y6 + 38) (lo := (-2000)) (hi := 2000) (nR_STEP (a := a) (j := y6) (by omega) (by omega)) (by decide))
            refine e_Ok.ald (z := v1 276 (36 * a + y6 + 38)) rfl (el_o rfl) rfl (by omega) rfl (e_bq h205 (by decide) (by decide)) ?_
            refine e_Ok.run (t' := (70, [(7, (0, v1 276 (36 * a + y6 + 38))), (0, (1, 275)), (1, (0, a)), (2, (0, 36 * a + 16)), (3, (0, 1)), (4, (0, y4)), (5, (0, y5)), (6, (0, y6))], [(0, 1)], v1)) 2 rfl ?_
            refine e_Ok.if1 rfl (fun h206 => ?_) (fun h206 => ?_)
            · replace h206 : (1 : Int) = 0 := h206
              exfalso; omega
            · replace h206 : (1 : Int) ≠ 0 := (show ¬ ((1 : Int) = 0) from h206)
              refine e_Ok.ps1 (x := (1, 275)) (q := 74) 1 rfl ?_
              refine e_Ok.getr (z := 276) rfl (el_o rfl) rfl (ef_o rfl) ((j85 275 0 (by first | exact no_82_9 | (unfold mVS; omega))).trans (e_Has.eq hT (mt_o rfl))) ⟨by decide, by decide⟩ ?_
              refine e_Ok.ps2 (x := (0, 28)) (y := (0, 36 * a + 16)) (q := 80) 2 rfl ?_
              refine e_Ok.add (z := 36 * a + 44) rfl (e_adl (by decide)) (by omega) ?_
              refine e_Ok.ps1 (x := (0, y6)) (q := 83) 1 rfl ?_
              refine e_Ok.add (z := 36 * a + y6 + 44) rfl (by omega) (by omega) ?_
              have h207 := (e_Has.get hT (c := 276) (k := 36 * a + y6 + 44) (lo := (-100000)) (hi := 100000) (nR_GOAL (a := a) (j := y6) (by omega) (by omega)) (by decide))
              refine e_Ok.ald (z := w 276 (36 * a + y6 + 44)) rfl (el_o rfl) rfl (by omega) ((j85 276 (36 * a + y6 + 44) (by unfold mVS; omega)).trans rfl) (e_bq h207 (by decide) (by decide)) ?_
              refine e_Ok.ps1 (x := (1, 275)) (q := 86) 1 rfl ?_
              refine e_Ok.getr (z := 276) rfl (el_o rfl) rfl (ef_o rfl) ((j85 275 0 (by first | exact no_82_9 | (unfold mVS; omega))).trans (e_Has.eq hT (mt_o rfl))) ⟨by decide, by decide⟩ ?_
              refine e_Ok.ps2 (x := (0, 16)) (y := (0, 36 * a + 16)) (q := 92) 2 rfl ?_
              refine e_Ok.add (z := 36 * a + 32) rfl (e_adl (by decide)) (by omega) ?_
              refine e_Ok.ps1 (x := (0, y6)) (q := 95) 1 rfl ?_
              refine e_Ok.add (z := 36 * a + y6 + 32) rfl (by omega) (by omega) ?_
              have h208 := (e_Has.get j79 (c := 276) (k := 36 * a + y6 + 32) (lo := (-100000)) (hi := 100000) (nR_VALUE (a := a) (j := y6) (by omega) (by omega)) (by decide))
              refine e_Ok.ald (z := v1 276 (36 * a + y6 + 32)) rfl (el_o rfl) rfl (by omega) rfl (e_bq h208 (by decide) (by decide)) ?_
              refine e_Ok.sub' (z := w 276 (36 * a + y6 + 44) - v1 276 (36 * a + y6 + 32)) rfl rfl (by omega) ?_
              refine e_Ok.run (t' := (106, [(8, (0, w 276 (36 * a + y6 + 44) - v1 276 (36 * a + y6 + 32))), (7, (0, v1 276 (36 * a + y6 + 38))), (0, (1, 275)), (1, (0, a)), (2, (0, 36 * a + 16)), (3, (0, 1)), (4, (0, y4)), (5, (0, y5)), (6, (0, y6))], [(0, w 276 (36 * a + y6 + 44) - v1 276 (36 * a + y6 + 32))], v1)) 3 rfl ?_
              refine e_Ok.if1 rfl (fun h209 => ?_) (fun h209 => ?_)
              · replace h209 : (w 276 (36 * a + y6 + 44) - v1 276 (36 * a + y6 + 32) : Int) ≥ 0 := h209
                refine e_Ok.ps3 (x := (1, 275)) (y := (0, v1 276 (36 * a + y6 + 38))) (z := (0, w 276 (36 * a + y6 + 44) - v1 276 (36 * a + y6 + 32))) (q := 151) 3 rfl ?_
                refine e_Ok.getr (z := 290) rfl (el_o rfl) rfl (ef_o rfl) ((j85 275 19 (by first | exact no_82_9 | (unfold mVS; omega))).trans (e_Has.eq hT (mt_o rfl))) ⟨by decide, by decide⟩ ?_
                refine e_Ok.ps2 (x := (0, a)) (y := (0, 6)) (q := 157) 2 rfl ?_
                refine e_Ok.mul (z := 6 * a) rfl rfl (by omega) ?_
                refine e_Ok.ps1 (x := (0, y6)) (q := 160) 1 rfl ?_
                refine e_Ok.add (z := 6 * a + y6) rfl rfl (by omega) ?_
                refine e_Ok.ald (z := w 290 (6 * a + y6)) rfl (el_o rfl) rfl (by omega) ((j85 290 (6 * a + y6) (by first | exact no_82_21 | (unfold mVS; omega))).trans rfl) (by omega) ?_
                refine e_Ok.ps1 (x := (1, 275)) (q := 163) 1 rfl ?_
                refine e_Ok.getr (z := 291) rfl (el_o rfl) rfl (ef_o rfl) ((j85 275 20 (by first | exact no_82_9 | (unfold mVS; omega))).trans (e_Has.eq hT (mt_o rfl))) ⟨by decide, by decide⟩ ?_
                refine e_Ok.ps2 (x := (0, a)) (y := (0, 6)) (q := 169) 2 rfl ?_
                refine e_Ok.mul (z := 6 * a) rfl rfl (by omega) ?_
                refine e_Ok.ps1 (x := (0, y6)) (q := 172) 1 rfl ?_
                refine e_Ok.add (z := 6 * a + y6) rfl rfl (by omega) ?_
                refine e_Ok.ald (z := w 291 (6 * a + y6)) rfl (el_o rfl) rfl (by omega) ((j85 291 (6 * a + y6) (by first | exact no_82_22 | (unfold mVS; omega))).trans rfl) (by omega) ?_
                refine e_Ok.callS rfl (e_dq hd rfl) rfl rfl (c_386 (by omega) (by omega) (by omega) (by omega)) (fun r210 w211 h212 => ?_)
                obtain ⟨z213, rfl, rfl, q214⟩ := h212
                refine e_Ok.nrm (q := 177) (st' := [(0, z213)]) rfl rfl ?_
                refine e_Ok.run (t' := (180, [(9, (0, z213)), (8, (0, w 276 (36 * a + y6 + 44) - v1 276 (36 * a + y6 + 32))), (7, (0, v1 276 (36 * a + y6 + 38))), (0, (1, 275)), (1, (0, a)), (2, (0, 36 * a + 16)), (3, (0, 1)), (4, (0, y4)), (5, (0, y5)), (6, (0, y6))], [(0, 1)], v1)) 2 rfl ?_
                refine e_Ok.if1 rfl (fun h215 => ?_) (fun h215 => ?_)
                · replace h215 : (1 : Int) = 0 := h215
                  exfalso; omega
                · replace h215 : (1 : Int) ≠ 0 := (show ¬ ((1 : Int) = 0) from h215)
                  refine e_Ok.ps0 (q := 207) 3 rfl ?_
                  have hjn : joOk (w 276 (36 * a + 16)) (w 276 (36 * a + y6 + 32) + z213) z213 (w 276 (36 * a + y6 + 44)) (w 288 (6 * a + y6)) (w 289 (6 * a + y6)) (w 291 (6 * a + y6)) := by rw [hST]; exact joOk.go1 hcf.2 hjo (Or.inl ⟨by omega, by omega⟩)
                  have hjl := hjn.1
                  refine e_Ok.ps1 (x := (1, 275)) (q := 208) 1 rfl ?_
                  refine e_Ok.getr (z := 276) rfl (el_o rfl) rfl (ef_o rfl) ((j85 275 0 (by first | exact no_82_9 | (unfold mVS; omega))).trans (e_Has.eq hT (mt_o rfl))) ⟨by decide, by decide⟩ ?_
                  refine e_Ok.ps2 (x := (0, 22)) (y := (0, 36 * a + 16)) (q := 214) 2 rfl ?_
                  refine e_Ok.add (z := 36 * a + 38) rfl (e_adl (by decide)) (by omega) ?_
                  refine e_Ok.ps1 (x := (0, y6)) (q := 217) 1 rfl ?_
                  refine e_Ok.add (z := 36 * a + y6 + 38) rfl (by omega) (by omega) ?_
                  refine e_Ok.ps1 (x := (0, z213)) (q := 220) 1 rfl ?_
                  refine e_Ok.ast rfl (el_o rfl) rfl rfl (by omega) ?_
                  generalize hw216 : e_up v1 276 (36 * a + y6 + 38) z213 = w216
                  have hT218 : e_Has mTy w216 := e_Has.upr j79 hw216 (nR_STEP (a := a) (j := y6) (by omega) (by omega)) (by omega)
                  refine e_Ok.ps1 (x := (1, 275)) (q := 222) 1 rfl ?_
                  refine e_Ok.getr (z := 276) rfl (el_o rfl) rfl (ef_o rfl) (e_uq hw216 (Or.inl (by decide)) ((j85 275 0 (by first | exact no_82_9 | (unfold mVS; omega))).trans (e_Has.eq hT (mt_o rfl)))) ⟨by decide, by decide⟩ ?_
                  refine e_Ok.ps2 (x := (0, 16)) (y := (0, 36 * a + 16)) (q := 228) 2 rfl ?_
                  refine e_Ok.add (z := 36 * a + 32) rfl (e_adl (by decide)) (by omega) ?_
                  refine e_Ok.ps1 (x := (0, y6)) (q := 231) 1 rfl ?_
                  refine e_Ok.add (z := 36 * a + y6 + 32) rfl (by omega) (by omega) ?_
                  refine e_Ok.ps2 (x := (0, 36 * a + y6 + 32)) (y := (1, 276)) (q := 233) 1 rfl ?_
                  refine e_Ok.ald (z := v1 276 (36 * a + y6 + 32)) rfl (el_o rfl) rfl (by omega) (e_uq hw216 (Or.inr (e_neo (by decide))) rfl) (by omega) ?_
                  refine e_Ok.ps1 (x := (0, z213)) (q := 236) 1 rfl ?_
                  refine e_Ok.add (z := v1 276 (36 * a + y6 + 32) + z213) rfl rfl (by omega) ?_
                  refine e_Ok.ast rfl (el_o rfl) rfl rfl (by omega) ?_
                  generalize hw219 : e_up w216 276 (36 * a + y6 + 32) (v1 276 (36 * a + y6 + 32) + z213) = w219
                  have f220 : e_fr (mGn a) w w219 := e_fr.up (show e_fr (mGn a) w w216 from e_fr.up j78 hw216 (by unfold mGn mG1 mNw; omega)) hw219 (by unfold mGn mG1 mNw; omega)
                  have hT221 : e_Has mTy w219 := e_Has.upr hT218 hw219 (nR_VALUE (a := a) (j := y6) (by omega) (by omega)) (by omega)
                  refine e_Ok.ps2 (x := (0, z213)) (y := (0, y5)) (q := 242) 2 rfl ?_
                  refine e_Ok.if1 rfl (fun h222 => ?_) (fun h222 => ?_)
                  · replace h222 : (z213 : Int) = 0 := h222
                    refine e_Ok.ps1 (x := (0, 0)) (q := 250) 1 rfl ?_
                    refine e_Ok.or01 (by omega) (by omega) (fun z223 hz223 => ?_) rfl
                    replace hz223 : (0 ≤ z223 ∧ z223 ≤ 1) ∧ (z223 = 0 ↔ ((y5 : Int) = 0 ∧ (0 : Int) = 0)) := hz223
                    refine e_Ok.run (t' := (257, [(5, (0, z223)), (9, (0, z213)), (8, (0, w 276 (36 * a + y6 + 44) - v1 276 (36 * a + y6 + 32))), (7, (0, v1 276 (36 * a + y6 + 38))), (0, (1, 275)), (1, (0, a)), (2, (0, 36 * a + 16)), (3, (0, 1)), (4, (0, y4)), (6, (0, y6))], [(0, z213), (0, y4)], w219)) 3 rfl ?_
                    refine e_Ok.if1 rfl (fun h224 => ?_) (fun h224 => ?_)
                    · replace h224 : (z213 : Int) ≠ 0 := h224
                      exfalso; omega
                    · replace h224 : (z213 : Int) = 0 := Classical.not_not.mp (show ¬ ((z213 : Int) ≠ 0) from h224)
                      refine e_Ok.ps1 (x := (0, 1)) (q := 261) 1 rfl ?_
                      refine e_Ok.if1 rfl (fun h225 => ?_) (fun h225 => ?_)
                      · replace h225 : (1 : Int) = 0 := h225
                        exfalso; omega
                      · replace h225 : (1 : Int) ≠ 0 := (show ¬ ((1 : Int) = 0) from h225)
                        refine e_Ok.ps1 (x := (1, 275)) (q := 265) 1 rfl ?_
                        refine e_Ok.getr (z := 276) rfl (el_o rfl) rfl (ef_o rfl) (e_uq hw219 (Or.inl (by decide)) (e_uq hw216 (Or.inl (by decide)) ((j85 275 0 (by first | exact no_82_9 | (unfold mVS; omega))).trans (e_Has.eq hT (mt_o rfl))))) ⟨by decide, by decide⟩ ?_
                        refine e_Ok.ps2 (x := (0, 28)) (y := (0, 36 * a + 16)) (q := 271) 2 rfl ?_
                        refine e_Ok.add (z := 36 * a + 44) rfl (e_adl (by decide)) (by omega) ?_
                        refine e_Ok.ps1 (x := (0, y6)) (q := 274) 1 rfl ?_
                        refine e_Ok.add (z := 36 * a + y6 + 44) rfl (by omega) (by omega) ?_
                        refine e_Ok.ald (z := w 276 (36 * a + y6 + 44)) rfl (el_o rfl) rfl (by omega) (e_uq hw219 (Or.inr (e_neo (by decide))) (e_uq hw216 (Or.inr (e_neo (by decide))) ((j85 276 (36 * a + y6 + 44) (by unfold mVS; omega)).trans rfl))) (by omega) ?_
                        refine e_Ok.ps1 (x := (1, 275)) (q := 277) 1 rfl ?_
                        refine e_Ok.getr (z := 276) rfl (el_o rfl) rfl (ef_o rfl) (e_uq hw219 (Or.inl (by decide)) (e_uq hw216 (Or.inl (by decide)) ((j85 275 0 (by first | exact no_82_9 | (unfold mVS; omega))).trans (e_Has.eq hT (mt_o rfl))))) ⟨by decide, by decide⟩ ?_
                        refine e_Ok.ps2 (x := (0, 16)) (y := (0, 36 * a + 16)) (q := 283) 2 rfl ?_
                        refine e_Ok.add (z := 36 * a + 32) rfl (e_adl (by decide)) (by omega) ?_
                        refine e_Ok.ps1 (x := (0, y6)) (q := 286) 1 rfl ?_
                        refine e_Ok.add (z := 36 * a + y6 + 32) rfl (by omega) (by omega) ?_
                        refine e_Ok.ald (z := v1 276 (36 * a + y6 + 32) + z213) rfl (el_o rfl) rfl (by omega) (e_ue hw219) (by omega) ?_
                        refine e_Ok.if2 rfl (fun h226 => ?_) (fun h226 => ?_)
                        · replace h226 : (w 276 (36 * a + y6 + 44) : Int) ≠ v1 276 (36 * a + y6 + 32) + z213 := h226
                          refine e_Ok.ps1 (x := (0, 0)) (q := 296) 1 rfl ?_
                          refine e_Ok.and01 (by omega) (by omega) (fun z227 hz227 => ?_) rfl
                          replace hz227 : (0 ≤ z227 ∧ z227 ≤ 1) ∧ (z227 = 1 ↔ ((y4 : Int) = 1 ∧ (0 : Int) = 1)) := hz227
                          refine e_Ok.run (t' := (299, [(4, (0, z227)), (5, (0, z223)), (9, (0, z213)), (8, (0, w 276 (36 * a + y6 + 44) - v1 276 (36 * a + y6 + 32))), (7, (0, v1 276 (36 * a + y6 + 38))), (0, (1, 275)), (1, (0, a)), (2, (0, 36 * a + 16)), (3, (0, 1)), (6, (0, y6))], [], w219)) 1 rfl ?_
                          refine e_Ok.inc (z := y6 + 1) rfl rfl (by first | with_reducible rfl | omega) (by omega) ?_
                          show e_Ok 20 elay ecode eI (d + 1) 388 (302, [(6, (0, y6 + 1)), (4, (0, z227)), (5, (0, z223)), (9, (0, z213)), (8, (0, w 276 (36 * a + y6 + 44) - v1 276 (36 * a + y6 + 32))), (7, (0, v1 276 (36 * a + y6 + 38))), (0, (1, 275)), (1, (0, a)), (2, (0, 36 * a + 16)), (3, (0, 1))], [], w219) _
                          refine e_Ok.ps0 (q := 44) 1 rfl ?_
                          refine e_Ok.sub eAlk (e_sub_of rfl ?_) (ih77 z227 z223 (y6 + 1) w219 ⟨f220, hT221, by omega, (fun j g1 g2 => Decidable.byCases (p := j = y6) (fun e => by rw [e, show w219 276 (36 * a + y6 + 32) = w 276 (36 * a + y6 + 32) + z213 from Eq.trans (show w219 276 (36 * a + y6 + 32) = v1 276 (36 * a + y6 + 32) + z213 from (e_ue hw219)) (by omega), show w219 276 (36 * a + y6 + 38) = z213 from (e_uq hw219 (Or.inr (by omega)) (e_ue hw216))]; exact hjn) (fun e => by rw [show w219 276 (36 * a + j + 32) = v1 276 (36 * a + j + 32) from (e_uq hw219 (Or.inr (by omega)) (e_uq hw216 (Or.inr (by omega)) rfl)), show w219 276 (36 * a + j + 38) = v1 276 (36 * a + j + 38) from (e_uq hw219 (Or.inr (by omega)) (e_uq hw216 (Or.inr (by omega)) rfl))]; exact j81 j g1 (by omega))), (fun j g1 g2 => by rw [show w219 276 (36 * a + j + 32) = v1 276 (36 * a + j + 32) from (e_uq hw219 (Or.inr (by omega)) (e_uq hw216 (Or.inr (by omega)) rfl)), show w219 276 (36 * a + j + 38) = v1 276 (36 * a + j + 38) from (e_uq hw219 (Or.inr (by omega)) (e_uq hw216 (Or.inr (by omega)) rfl))]; exact j82 j (by omega) g2), (fun e j g1 g2 => Decidable.byCases (p := j = y6) (fun e1 => by rw [e1, show w219 276 (36 * a + y6 + 32) = w 276 (36 * a + y6 + 32) + z213 from Eq.trans (show w219 276 (36 * a + y6 + 32) = v1 276 (36 * a + y6 + 32) + z213 from (e_ue hw219)) (by omega), show w219 276 (36 * a + y6 + 38) = z213 from (e_uq hw219 (Or.inr (by omega)) (e_ue hw216))]; omega) (fun e1 => by rw [show w219 276 (36 * a + j + 32) = v1 276 (36 * a + j + 32) from (e_uq hw219 (Or.inr (by omega)) (e_uq hw216 (Or.inr (by omega)) rfl)), show w219 276 (36 * a + j + 38) = v1 276 (36 * a + j + 38) from (e_uq hw219 (Or.inr (by omega)) (e_uq hw216 (Or.inr (by omega)) rfl))]; exact j83 (by omega) j g1 (by omega))), (fun e j g1 g2 => Decidable.byCases (p := j = y6) (fun e1 => by rw [e1, show w219 276 (36 * a + y6 + 32) = w 276 (36 * a + y6 + 32) + z213 from Eq.trans (show w219 276 (36 * a + y6 + 32) = v1 276 (36 * a + y6 + 32) + z213 from (e_ue hw219)) (by omega), show w219 276 (36 * a + y6 + 38) = z213 from (e_uq hw219 (Or.inr (by omega)) (e_ue hw216))]; omega) (fun e1 => by rw [show w219 276 (36 * a + j + 32) = v1 276 (36 * a + j + 32) from (e_uq hw219 (Or.inr (by omega)) (e_uq hw216 (Or.inr (by omega)) rfl)), show w219 276 (36 * a + j + 38) = v1 276 (36 * a + j + 38) from (e_uq hw219 (Or.inr (by omega)) (e_uq hw216 (Or.inr (by omega)) rfl))]; exact j84 (by omega) j g1 (by omega))), (e_fr.up (e_fr.up j85 hw216 (by unfold mVS; omega)) hw219 (by unfold mVS; omega))⟩ (by omega))
                          exact ⟨rfl, rfl, rfl, rfl, rfl, rfl, rfl, trivial⟩
                        · replace h226 : (w 276 (36 * a + y6 + 44) : Int) = v1 276 (36 * a + y6 + 32) + z213 := Classical.not_not.mp (show ¬ ((w 276 (36 * a + y6 + 44) : Int) ≠ v1 276 (36 * a + y6 + 32) + z213) from h226)
                          refine e_Ok.ps1 (x := (0, 1)) (q := 296) 2 rfl ?_
                          refine e_Ok.and01 (by omega) (by omega) (fun z228 hz228 => ?_) rfl
                          replace hz228 : (0 ≤ z228 ∧ z228 ≤ 1) ∧ (z228 = 1 ↔ ((y4 : Int) = 1 ∧ (1 : Int) = 1)) := hz228
                          refine e_Ok.run (t' := (299, [(4, (0, z228)), (5, (0, z223)), (9, (0, z213)), (8, (0, w 276 (36 * a + y6 + 44) - v1 276 (36 * a + y6 + 32))), (7, (0, v1 276 (36 * a + y6 + 38))), (0, (1, 275)), (1, (0, a)), (2, (0, 36 * a + 16)), (3, (0, 1)), (6, (0, y6))], [], w219)) 1 rfl ?_
                          refine e_Ok.inc (z := y6 + 1) rfl rfl (by first | with_reducible rfl | omega) (by omega) ?_
                          show e_Ok 20 elay ecode eI (d + 1) 388 (302, [(6, (0, y6 + 1)), (4, (0, z228)), (5, (0, z223)), (9, (0, z213)), (8, (0, w 276 (36 * a + y6 + 44) - v1 276 (36 * a + y6 + 32))), (7, (0, v1 276 (36 * a + y6 + 38))), (0, (1, 275)), (1, (0, a)), (2, (0, 36 * a + 16)), (3, (0, 1))], [], w219) _
                          refine e_Ok.ps0 (q := 44) 1 rfl ?_
                          refine e_Ok.sub eAlk (e_sub_of rfl ?_) (ih77 z228 z223 (y6 + 1) w219 ⟨f220, hT221, by omega, (fun j g1 g2 => Decidable.byCases (p := j = y6) (fun e => by rw [e, show w219 276 (36 * a + y6 + 32) = w 276 (36 * a + y6 + 32) + z213 from Eq.trans (show w219 276 (36 * a + y6 + 32) = v1 276 (36 * a + y6 + 32) + z213 from (e_ue hw219)) (by omega), show w219 276 (36 * a + y6 + 38) = z213 from (e_uq hw219 (Or.inr (by omega)) (e_ue hw216))]; exact hjn) (fun e => by rw [show w219 276 (36 * a + j + 32) = v1 276 (36 * a + j + 32) from (e_uq hw219 (Or.inr (by omega)) (e_uq hw216 (Or.inr (by omega)) rfl)), show w219 276 (36 * a + j + 38) = v1 276 (36 * a + j + 38) from (e_uq hw219 (Or.inr (by omega)) (e_uq hw216 (Or.inr (by omega)) rfl))]; exact j81 j g1 (by omega))), (fun j g1 g2 => by rw [show w219 276 (36 * a + j + 32) = v1 276 (36 * a + j + 32) from (e_uq hw219 (Or.inr (by omega)) (e_uq hw216 (Or.inr (by omega)) rfl)), show w219 276 (36 * a + j + 38) = v1 276 (36 * a + j + 38) from (e_uq hw219 (Or.inr (by omega)) (e_uq hw216 (Or.inr (by omega)) rfl))]; exact j82 j (by omega) g2), (fun e j g1 g2 => Decidable.byCases (p := j = y6) (fun e1 => by rw [e1, show w219 276 (36 * a + y6 + 32) = w 276 (36 * a + y6 + 32) + z213 from Eq.trans (show w219 276 (36 * a + y6 + 32) = v1 276 (36 * a + y6 + 32) + z213 from (e_ue hw219)) (by omega), show w219 276 (36 * a + y6 + 38) = z213 from (e_uq hw219 (Or.inr (by omega)) (e_ue hw216))]; omega) (fun e1 => by rw [show w219 276 (36 * a + j + 32) = v1 276 (36 * a + j + 32) from (e_uq hw219 (Or.inr (by omega)) (e_uq hw216 (Or.inr (by omega)) rfl)), show w219 276 (36 * a + j + 38) = v1 276 (36 * a + j + 38) from (e_uq hw219 (Or.inr (by omega)) (e_uq hw216 (Or.inr (by omega)) rfl))]; exact j83 (by omega) j g1 (by omega))), (fun e j g1 g2 => Decidable.byCases (p := j = y6) (fun e1 => by rw [e1, show w219 276 (36 * a + y6 + 32) = w 276 (36 * a + y6 + 32) + z213 from Eq.trans (show w219 276 (36 * a + y6 + 32) = v1 276 (36 * a + y6 + 32) + z213 from (e_ue hw219)) (by omega), show w219 276 (36 * a + y6 + 38) = z213 from (e_uq hw219 (Or.inr (by omega)) (e_ue hw216))]; omega) (fun e1 => by rw [show w219 276 (36 * a + j + 32) = v1 276 (36 * a + j + 32) from (e_uq hw219 (Or.inr (by omega)) (e_uq hw216 (Or.inr (by omega)) rfl)), show w219 276 (36 * a + j + 38) = v1 276 (36 * a + j + 38) from (e_uq hw219 (Or.inr (by omega)) (e_uq hw216 (Or.inr (by omega)) rfl))]; exact j84 (by omega) j g1 (by omega))), (e_fr.up (e_fr.up j85 hw216 (by unfold mVS; omega)) hw219 (by unfold mVS; omega))⟩ (by omega))
                          exact ⟨rfl, rfl, rfl, rfl, rfl, rfl, rfl, trivial⟩
                  · replace h222 : (z213 : Int) ≠ 0 := (show ¬ ((z213 : Int) = 0) from h222)
                    refine e_Ok.ps1 (x := (0, 1)) (q := 250) 2 rfl ?_
                    refine e_Ok.or01 (by omega) (by omega) (fun z229 hz229 => ?_) rfl
                    replace hz229 : (0 ≤ z229 ∧ z229 ≤ 1) ∧ (z229 = 0 ↔ ((y5 : Int) = 0 ∧ (1 : Int) = 0)) := hz229
                    refine e_Ok.run (t' := (257, [(5, (0, z229)), (9, (0, z213)), (8, (0, w 276 (36 * a + y6 + 44) - v1 276 (36 * a + y6 + 32))), (7, (0, v1 276 (36 * a + y6 + 38))), (0, (1, 275)), (1, (0, a)), (2, (0, 36 * a + 16)), (3, (0, 1)), (4, (0, y4)), (6, (0, y6))], [(0, z213), (0, y4)], w219)) 3 rfl ?_
                    refine e_Ok.if1 rfl (fun h230 => ?_) (fun h230 => ?_)
                    · replace h230 : (z213 : Int) ≠ 0 := h230
                      refine e_Ok.ps1 (x := (0, 0)) (q := 296) 1 rfl ?_
                      refine e_Ok.and01 (by omega) (by omega) (fun z231 hz231 => ?_) rfl
                      replace hz231 : (0 ≤ z231 ∧ z231 ≤ 1) ∧ (z231 = 1 ↔ ((y4 : Int) = 1 ∧ (0 : Int) = 1)) := hz231
                      refine e_Ok.run (t' := (299, [(4, (0, z231)), (5, (0, z229)), (9, (0, z213)), (8, (0, w 276 (36 * a + y6 + 44) - v1 276 (36 * a + y6 + 32))), (7, (0, v1 276 (36 * a + y6 + 38))), (0, (1, 275)), (1, (0, a)), (2, (0, 36 * a + 16)), (3, (0, 1)), (6, (0, y6))], [], w219)) 1 rfl ?_
                      refine e_Ok.inc (z := y6 + 1) rfl rfl (by first | with_reducible rfl | omega) (by omega) ?_
                      show e_Ok 20 elay ecode eI (d + 1) 388 (302, [(6, (0, y6 + 1)), (4, (0, z231)), (5, (0, z229)), (9, (0, z213)), (8, (0, w 276 (36 * a + y6 + 44) - v1 276 (36 * a + y6 + 32))), (7, (0, v1 276 (36 * a + y6 + 38))), (0, (1, 275)), (1, (0, a)), (2, (0, 36 * a + 16)), (3, (0, 1))], [], w219) _
                      refine e_Ok.ps0 (q := 44) 1 rfl ?_
                      refine e_Ok.sub eAlk (e_sub_of rfl ?_) (ih77 z231 z229 (y6 + 1) w219 ⟨f220, hT221, by omega, (fun j g1 g2 => Decidable.byCases (p := j = y6) (fun e => by rw [e, show w219 276 (36 * a + y6 + 32) = w 276 (36 * a + y6 + 32) + z213 from Eq.trans (show w219 276 (36 * a + y6 + 32) = v1 276 (36 * a + y6 + 32) + z213 from (e_ue hw219)) (by omega), show w219 276 (36 * a + y6 + 38) = z213 from (e_uq hw219 (Or.inr (by omega)) (e_ue hw216))]; exact hjn) (fun e => by rw [show w219 276 (36 * a + j + 32) = v1 276 (36 * a + j + 32) from (e_uq hw219 (Or.inr (by omega)) (e_uq hw216 (Or.inr (by omega)) rfl)), show w219 276 (36 * a + j + 38) = v1 276 (36 * a + j + 38) from (e_uq hw219 (Or.inr (by omega)) (e_uq hw216 (Or.inr (by omega)) rfl))]; exact j81 j g1 (by omega))), (fun j g1 g2 => by rw [show w219 276 (36 * a + j + 32) = v1 276 (36 * a + j + 32) from (e_uq hw219 (Or.inr (by omega)) (e_uq hw216 (Or.inr (by omega)) rfl)), show w219 276 (36 * a + j + 38) = v1 276 (36 * a + j + 38) from (e_uq hw219 (Or.inr (by omega)) (e_uq hw216 (Or.inr (by omega)) rfl))]; exact j82 j (by omega) g2), (fun e j g1 g2 => Decidable.byCases (p := j = y6) (fun e1 => by rw [e1, show w219 276 (36 * a + y6 + 32) = w 276 (36 * a + y6 + 32) + z213 from Eq.trans (show w219 276 (36 * a + y6 + 32) = v1 276 (36 * a + y6 + 32) + z213 from (e_ue hw219)) (by omega), show w219 276 (36 * a + y6 + 38) = z213 from (e_uq hw219 (Or.inr (by omega)) (e_ue hw216))]; omega) (fun e1 => by rw [show w219 276 (36 * a + j + 32) = v1 276 (36 * a + j + 32) from (e_uq hw219 (Or.inr (by omega)) (e_uq hw216 (Or.inr (by omega)) rfl)), show w219 276 (36 * a + j + 38) = v1 276 (36 * a + j + 38) from (e_uq hw219 (Or.inr (by omega)) (e_uq hw216 (Or.inr (by omega)) rfl))]; exact j83 (by omega) j g1 (by omega))), (fun e j g1 g2 => Decidable.byCases (p := j = y6) (fun e1 => by rw [e1, show w219 276 (36 * a + y6 + 32) = w 276 (36 * a + y6 + 32) + z213 from Eq.trans (show w219 276 (36 * a + y6 + 32) = v1 276 (36 * a + y6 + 32) + z213 from (e_ue hw219)) (by omega), show w219 276 (36 * a + y6 + 38) = z213 from (e_uq hw219 (Or.inr (by omega)) (e_ue hw216))]; omega) (fun e1 => by rw [show w219 276 (36 * a + j + 32) = v1 276 (36 * a + j + 32) from (e_uq hw219 (Or.inr (by omega)) (e_uq hw216 (Or.inr (by omega)) rfl)), show w219 276 (36 * a + j + 38) = v1 276 (36 * a + j + 38) from (e_uq hw219 (Or.inr (by omega)) (e_uq hw216 (Or.inr (by omega)) rfl))]; exact j84 (by omega) j g1 (by omega))), (e_fr.up (e_fr.up j85 hw216 (by unfold mVS; omega)) hw219 (by unfold mVS; omega))⟩ (by omega))
                      exact ⟨rfl, rfl, rfl, rfl, rfl, rfl, rfl, trivial⟩
                    · replace h230 : (z213 : Int) = 0 := Classical.not_not.mp (show ¬ ((z213 : Int) ≠ 0) from h230)
                      exfalso; omega
              · replace h209 : (w 276 (36 * a + y6 + 44) - v1 276 (36 * a + y6 + 32) : Int) < 0 := Int.not_le.mp (show ¬ ((w 276 (36 * a + y6 + 44) - v1 276 (36 * a + y6 + 32) : Int) ≥ 0) from h209)
                refine e_Ok.ps1 (x := (0, w 276 (36 * a + y6 + 44) - v1 276 (36 * a + y6 + 32))) (q := 111) 1 rfl ?_
                refine e_Ok.neg (z := -w 276 (36 * a + y6 + 44) + v1 276 (36 * a + y6 + 32)) rfl (by omega) (by omega) ?_
                refine e_Ok.ps1 (x := (0, v1 276 (36 * a + y6 + 38))) (q := 114) 1 rfl ?_
                refine e_Ok.neg (z := -v1 276 (36 * a + y6 + 38)) rfl (by omega) (by omega) ?_
                refine e_Ok.ps1 (x := (1, 275)) (q := 116) 1 rfl ?_
                refine e_Ok.getr (z := 290) rfl (el_o rfl) rfl (ef_o rfl) ((j85 275 19 (by first | exact no_82_9 | (unfold mVS; omega))).trans (e_Has.eq hT (mt_o rfl))) ⟨by decide, by decide⟩ ?_
                refine e_Ok.ps2 (x := (0, a)) (y := (0, 6)) (q := 122) 2 rfl ?_
                refine e_Ok.mul (z := 6 * a) rfl rfl (by omega) ?_
                refine e_Ok.ps1 (x := (0, y6)) (q := 125) 1 rfl ?_
                refine e_Ok.add (z := 6 * a + y6) rfl rfl (by omega) ?_
                refine e_Ok.ald (z := w 290 (6 * a + y6)) rfl (el_o rfl) rfl (by omega) ((j85 290 (6 * a + y6) (by first | exact no_82_21 | (unfold mVS; omega))).trans rfl) (by omega) ?_
                refine e_Ok.ps1 (x := (1, 275)) (q := 128) 1 rfl ?_
                refine e_Ok.getr (z := 291) rfl (el_o rfl) rfl (ef_o rfl) ((j85 275 20 (by first | exact no_82_9 | (unfold mVS; omega))).trans (e_Has.eq hT (mt_o rfl))) ⟨by decide, by decide⟩ ?_
                refine e_Ok.ps2 (x := (0, a)) (y := (0, 6)) (q := 134) 2 rfl ?_
                refine e_Ok.mul (z := 6 * a) rfl rfl (by omega) ?_
                refine e_Ok.ps1 (x := (0, y6)) (q := 137) 1 rfl ?_
                refine e_Ok.add (z := 6 * a + y6) rfl rfl (by omega) ?_
                refine e_Ok.ald (z := w 291 (6 * a + y6)) rfl (el_o rfl) rfl (by omega) ((j85 291 (6 * a + y6) (by first | exact no_82_22 | (unfold mVS; omega))).trans rfl) (by omega) ?_
                refine e_Ok.callS rfl (e_dq hd rfl) rfl rfl (c_386 (by omega) (by omega) (by omega) (by omega)) (fun r232 w233 h234 => ?_)
                obtain ⟨z235, rfl, rfl, q236⟩ := h234
                refine e_Ok.nrm (q := 142) (st' := [(0, z235)]) rfl rfl ?_
                refine e_Ok.neg (z := -z235) rfl (by omega) (by omega) ?_
                refine e_Ok.run (t' := (180, [(9, (0, -z235)), (8, (0, w 276 (36 * a + y6 + 44) - v1 276 (36 * a + y6 + 32))), (7, (0, v1 276 (36 * a + y6 + 38))), (0, (1, 275)), (1, (0, a)), (2, (0, 36 * a + 16)), (3, (0, 1)), (4, (0, y4)), (5, (0, y5)), (6, (0, y6))], [(0, 1)], v1)) 3 rfl ?_
                refine e_Ok.if1 rfl (fun h237 => ?_) (fun h237 => ?_)
                · replace h237 : (1 : Int) = 0 := h237
                  exfalso; omega
                · replace h237 : (1 : Int) ≠ 0 := (show ¬ ((1 : Int) = 0) from h237)
                  refine e_Ok.ps0 (q := 207) 3 rfl ?_
                  have hjn : joOk (w 276 (36 * a + 16)) (w 276 (36 * a + y6 + 32) + (-z235)) (-z235) (w 276 (36 * a + y6 + 44)) (w 288 (6 * a + y6)) (w 289 (6 * a + y6)) (w 291 (6 * a + y6)) := by rw [hST]; exact joOk.go1 hcf.2 hjo (Or.inr ⟨by omega, by rw [Int.neg_neg]; omega⟩)
                  have hjl := hjn.1
                  refine e_Ok.ps1 (x := (1, 275)) (q := 208) 1 rfl ?_
                  refine e_Ok.getr (z := 276) rfl (el_o rfl) rfl (ef_o rfl) ((j85 275 0 (by first | exact no_82_9 | (unfold mVS; omega))).trans (e_Has.eq hT (mt_o rfl))) ⟨by decide, by decide⟩ ?_
                  refine e_Ok.ps2 (x := (0, 22)) (y := (0, 36 * a + 16)) (q := 214) 2 rfl ?_
                  refine e_Ok.add (z := 36 * a + 38) rfl (e_adl (by decide)) (by omega) ?_
                  refine e_Ok.ps1 (x := (0, y6)) (q := 217) 1 rfl ?_
                  refine e_Ok.add (z := 36 * a + y6 + 38) rfl (by omega) (by omega) ?_
                  refine e_Ok.ps1 (x := (0, -z235)) (q := 220) 1 rfl ?_
                  refine e_Ok.ast rfl (el_o rfl) rfl rfl (by omega) ?_
                  generalize hw238 : e_up v1 276 (36 * a + y6 + 38) (-z235) = w238
                  have hT240 : e_Has mTy w238 := e_Has.upr j79 hw238 (nR_STEP (a := a) (j := y6) (by omega) (by omega)) (by omega)
                  refine e_Ok.ps1 (x := (1, 275)) (q := 222) 1 rfl ?_
                  refine e_Ok.getr (z := 276) rfl (el_o rfl) rfl (ef_o rfl) (e_uq hw238 (Or.inl (by decide)) ((j85 275 0 (by first | exact no_82_9 | (unfold mVS; omega))).trans (e_Has.eq hT (mt_o rfl)))) ⟨by decide, by decide⟩ ?_
                  refine e_Ok.ps2 (x := (0, 16)) (y := (0, 36 * a + 16)) (q := 228) 2 rfl ?_
                  refine e_Ok.add (z := 36 * a + 32) rfl (e_adl (by decide)) (by omega) ?_
                  refine e_Ok.ps1 (x := (0, y6)) (q := 231) 1 rfl ?_
                  refine e_Ok.add (z := 36 * a + y6 + 32) rfl (by omega) (by omega) ?_
                  refine e_Ok.ps2 (x := (0, 36 * a + y6 + 32)) (y := (1, 276)) (q := 233) 1 rfl ?_
                  refine e_Ok.ald (z := v1 276 (36 * a + y6 + 32)) rfl (el_o rfl) rfl (by omega) (e_uq hw238 (Or.inr (e_neo (by decide))) rfl) (by omega) ?_
                  refine e_Ok.ps1 (x := (0, -z235)) (q := 236) 1 rfl ?_
                  refine e_Ok.add (z := v1 276 (36 * a + y6 + 32) - z235) rfl (by omega) (by omega) ?_
                  refine e_Ok.ast rfl (el_o rfl) rfl rfl (by omega) ?_
                  generalize hw241 : e_up w238 276 (36 * a + y6 + 32) (v1 276 (36 * a + y6 + 32) - z235) = w241
                  have f242 : e_fr (mGn a) w w241 := e_fr.up (show e_fr (mGn a) w w238 from e_fr.up j78 hw238 (by unfold mGn mG1 mNw; omega)) hw241 (by unfold mGn mG1 mNw; omega)
                  have hT243 : e_Has mTy w241 := e_Has.upr hT240 hw241 (nR_VALUE (a := a) (j := y6) (by omega) (by omega)) (by omega)
                  refine e_Ok.ps2 (x := (0, -z235)) (y := (0, y5)) (q := 242) 2 rfl ?_
                  refine e_Ok.if1 rfl (fun h244 => ?_) (fun h244 => ?_)
                  · replace h244 : (-z235 : Int) = 0 := h244
                    refine e_Ok.ps1 (x := (0, 0)) (q := 250) 1 rfl ?_
                    refine e_Ok.or01 (by omega) (by omega) (fun z245 hz245 => ?_) rfl
                    replace hz245 : (0 ≤ z245 ∧ z245 ≤ 1) ∧ (z245 = 0 ↔ ((y5 : Int) = 0 ∧ (0 : Int) = 0)) := hz245
                    refine e_Ok.run (t' := (257, [(5, (0, z245)), (9, (0, -z235)), (8, (0, w 276 (36 * a + y6 + 44) - v1 276 (36 * a + y6 + 32))), (7, (0, v1 276 (36 * a + y6 + 38))), (0, (1, 275)), (1, (0, a)), (2, (0, 36 * a + 16)), (3, (0, 1)), (4, (0, y4)), (6, (0, y6))], [(0, -z235), (0, y4)], w241)) 3 rfl ?_
                    refine e_Ok.if1 rfl (fun h246 => ?_) (fun h246 => ?_)
                    · replace h246 : (-z235 : Int) ≠ 0 := h246
                      exfalso; omega
                    · replace h246 : (-z235 : Int) = 0 := Classical.not_not.mp (show ¬ ((-z235 : Int) ≠ 0) from h246)
                      refine e_Ok.ps1 (x := (0, 1)) (q := 261) 1 rfl ?_
                      refine e_Ok.if1 rfl (fun h247 => ?_) (fun h247 => ?_)
                      · replace h247 : (1 : Int) = 0 := h247
                        exfalso; omega
                      · replace h247 : (1 : Int) ≠ 0 := (show ¬ ((1 : Int) = 0) from h247)
                        refine e_Ok.ps1 (x := (1, 275)) (q := 265) 1 rfl ?_
                        refine e_Ok.getr (z := 276) rfl (el_o rfl) rfl (ef_o rfl) (e_uq hw241 (Or.inl (by decide)) (e_uq hw238 (Or.inl (by decide)) ((j85 275 0 (by first | exact no_82_9 | (unfold mVS; omega))).trans (e_Has.eq hT (mt_o rfl))))) ⟨by decide, by decide⟩ ?_
                        refine e_Ok.ps2 (x := (0, 28)) (y := (0, 36 * a + 16)) (q := 271) 2 rfl ?_
                        refine e_Ok.add (z := 36 * a + 44) rfl (e_adl (by decide)) (by omega) ?_
                        refine e_Ok.ps1 (x := (0, y6)) (q := 274) 1 rfl ?_
                        refine e_Ok.add (z := 36 * a + y6 + 44) rfl (by omega) (by omega) ?_
                        refine e_Ok.ald (z := w 276 (36 * a + y6 + 44)) rfl (el_o rfl) rfl (by omega) (e_uq hw241 (Or.inr (e_neo (by decide))) (e_uq hw238 (Or.inr (e_neo (by decide))) ((j85 276 (36 * a + y6 + 44) (by unfold mVS; omega)).trans rfl))) (by omega) ?_
                        refine e_Ok.ps1 (x := (1, 275)) (q := 277) 1 rfl ?_
                        refine e_Ok.getr (z := 276) rfl (el_o rfl) rfl (ef_o rfl) (e_uq hw241 (Or.inl (by decide)) (e_uq hw238 (Or.inl (by decide)) ((j85 275 0 (by first | exact no_82_9 | (unfold mVS; omega))).trans (e_Has.eq hT (mt_o rfl))))) ⟨by decide, by decide⟩ ?_
                        refine e_Ok.ps2 (x := (0, 16)) (y := (0, 36 * a + 16)) (q := 283) 2 rfl ?_
                        refine e_Ok.add (z := 36 * a + 32) rfl (e_adl (by decide)) (by omega) ?_
                        refine e_Ok.ps1 (x := (0, y6)) (q := 286) 1 rfl ?_
                        refine e_Ok.add (z := 36 * a + y6 + 32) rfl (by omega) (by omega) ?_
                        refine e_Ok.ald (z := v1 276 (36 * a + y6 + 32) - z235) rfl (el_o rfl) rfl (by omega) (e_ue hw241) (by omega) ?_
                        refine e_Ok.if2 rfl (fun h248 => ?_) (fun h248 => ?_)
                        · replace h248 : (w 276 (36 * a + y6 + 44) : Int) ≠ v1 276 (36 * a + y6 + 32) - z235 := h248
                          refine e_Ok.ps1 (x := (0, 0)) (q := 296) 1 rfl ?_
                          refine e_Ok.and01 (by omega) (by omega) (fun z249 hz249 => ?_) rfl
                          replace hz249 : (0 ≤ z249 ∧ z249 ≤ 1) ∧ (z249 = 1 ↔ ((y4 : Int) = 1 ∧ (0 : Int) = 1)) := hz249
                          refine e_Ok.run (t' := (299, [(4, (0, z249)), (5, (0, z245)), (9, (0, -z235)), (8, (0, w 276 (36 * a + y6 + 44) - v1 276 (36 * a + y6 + 32))), (7, (0, v1 276 (36 * a + y6 + 38))), (0, (1, 275)), (1, (0, a)), (2, (0, 36 * a + 16)), (3, (0, 1)), (6, (0, y6))], [], w241)) 1 rfl ?_
                          refine e_Ok.inc (z := y6 + 1) rfl rfl (by first | with_reducible rfl | omega) (by omega) ?_
                          show e_Ok 20 elay ecode eI (d + 1) 388 (302, [(6, (0, y6 + 1)), (4, (0, z249)), (5, (0, z245)), (9, (0, -z235)), (8, (0, w 276 (36 * a + y6 + 44) - v1 276 (36 * a + y6 + 32))), (7, (0, v1 276 (36 * a + y6 + 38))), (0, (1, 275)), (1, (0, a)), (2, (0, 36 * a + 16)), (3, (0, 1))], [], w241) _
                          refine e_Ok.ps0 (q := 44) 1 rfl ?_
                          refine e_Ok.sub eAlk (e_sub_of rfl ?_) (ih77 z249 z245 (y6 + 1) w241 ⟨f242, hT243, by omega, (fun j g1 g2 => Decidable.byCases (p := j = y6) (fun e => by rw [e, show w241 276 (36 * a + y6 + 32) = w 276 (36 * a + y6 + 32) + (-z235) from Eq.trans (show w241 276 (36 * a + y6 + 32) = v1 276 (36 * a + y6 + 32) - z235 from (e_ue hw241)) (by omega), show w241 276 (36 * a + y6 + 38) = -z235 from (e_uq hw241 (Or.inr (by omega)) (e_ue hw238))]; exact hjn) (fun e => by rw [show w241 276 (36 * a + j + 32) = v1 276 (36 * a + j + 32) from (e_uq hw241 (Or.inr (by omega)) (e_uq hw238 (Or.inr (by omega)) rfl)), show w241 276 (36 * a + j + 38) = v1 276 (36 * a + j + 38) from (e_uq hw241 (Or.inr (by omega)) (e_uq hw238 (Or.inr (by omega)) rfl))]; exact j81 j g1 (by omega))), (fun j g1 g2 => by rw [show w241 276 (36 * a + j + 32) = v1 276 (36 * a + j + 32) from (e_uq hw241 (Or.inr (by omega)) (e_uq hw238 (Or.inr (by omega)) rfl)), show w241 276 (36 * a + j + 38) = v1 276 (36 * a + j + 38) from (e_uq hw241 (Or.inr (by omega)) (e_uq hw238 (Or.inr (by omega)) rfl))]; exact j82 j (by omega) g2), (fun e j g1 g2 => Decidable.byCases (p := j = y6) (fun e1 => by rw [e1, show w241 276 (36 * a + y6 + 32) = w 276 (36 * a + y6 + 32) + (-z235) from Eq.trans (show w241 276 (36 * a + y6 + 32) = v1 276 (36 * a + y6 + 32) - z235 from (e_ue hw241)) (by omega), show w241 276 (36 * a + y6 + 38) = -z235 from (e_uq hw241 (Or.inr (by omega)) (e_ue hw238))]; omega) (fun e1 => by rw [show w241 276 (36 * a + j + 32) = v1 276 (36 * a + j + 32) from (e_uq hw241 (Or.inr (by omega)) (e_uq hw238 (Or.inr (by omega)) rfl)), show w241 276 (36 * a + j + 38) = v1 276 (36 * a + j + 38) from (e_uq hw241 (Or.inr (by omega)) (e_uq hw238 (Or.inr (by omega)) rfl))]; exact j83 (by omega) j g1 (by omega))), (fun e j g1 g2 => Decidable.byCases (p := j = y6) (fun e1 => by rw [e1, show w241 276 (36 * a + y6 + 32) = w 276 (36 * a + y6 + 32) + (-z235) from Eq.trans (show w241 276 (36 * a + y6 + 32) = v1 276 (36 * a + y6 + 32) - z235 from (e_ue hw241)) (by omega), show w241 276 (36 * a + y6 + 38) = -z235 from (e_uq hw241 (Or.inr (by omega)) (e_ue hw238))]; omega) (fun e1 => by rw [show w241 276 (36 * a + j + 32) = v1 276 (36 * a + j + 32) from (e_uq hw241 (Or.inr (by omega)) (e_uq hw238 (Or.inr (by omega)) rfl)), show w241 276 (36 * a + j + 38) = v1 276 (36 * a + j + 38) from (e_uq hw241 (Or.inr (by omega)) (e_uq hw238 (Or.inr (by omega)) rfl))]; exact j84 (by omega) j g1 (by omega))), (e_fr.up (e_fr.up j85 hw238 (by unfold mVS; omega)) hw241 (by unfold mVS; omega))⟩ (by omega))
                          exact ⟨rfl, rfl, rfl, rfl, rfl, rfl, rfl, trivial⟩
                        · replace h248 : (w 276 (36 * a + y6 + 44) : Int) = v1 276 (36 * a + y6 + 32) - z235 := Classical.not_not.mp (show ¬ ((w 276 (36 * a + y6 + 44) : Int) ≠ v1 276 (36 * a + y6 + 32) - z235) from h248)
                          refine e_Ok.ps1 (x := (0, 1)) (q := 296) 2 rfl ?_
                          refine e_Ok.and01 (by omega) (by omega) (fun z250 hz250 => ?_) rfl
                          replace hz250 : (0 ≤ z250 ∧ z250 ≤ 1) ∧ (z250 = 1 ↔ ((y4 : Int) = 1 ∧ (1 : Int) = 1)) := hz250
                          refine e_Ok.run (t' := (299, [(4, (0, z250)), (5, (0, z245)), (9, (0, -z235)), (8, (0, w 276 (36 * a + y6 + 44) - v1 276 (36 * a + y6 + 32))), (7, (0, v1 276 (36 * a + y6 + 38))), (0, (1, 275)), (1, (0, a)), (2, (0, 36 * a + 16)), (3, (0, 1)), (6, (0, y6))], [], w241)) 1 rfl ?_
                          refine e_Ok.inc (z := y6 + 1) rfl rfl (by first | with_reducible rfl | omega) (by omega) ?_
                          show e_Ok 20 elay ecode eI (d + 1) 388 (302, [(6, (0, y6 + 1)), (4, (0, z250)), (5, (0, z245)), (9, (0, -z235)), (8, (0, w 276 (36 * a + y6 + 44) - v1 276 (36 * a + y6 + 32))), (7, (0, v1 276 (36 * a + y6 + 38))), (0, (1, 275)), (1, (0, a)), (2, (0, 36 * a + 16)), (3, (0, 1))], [], w241) _
                          refine e_Ok.ps0 (q := 44) 1 rfl ?_
                          refine e_Ok.sub eAlk (e_sub_of rfl ?_) (ih77 z250 z245 (y6 + 1) w241 ⟨f242, hT243, by omega, (fun j g1 g2 => Decidable.byCases (p := j = y6) (fun e => by rw [e, show w241 276 (36 * a + y6 + 32) = w 276 (36 * a + y6 + 32) + (-z235) from Eq.trans (show w241 276 (36 * a + y6 + 32) = v1 276 (36 * a + y6 + 32) - z235 from (e_ue hw241)) (by omega), show w241 276 (36 * a + y6 + 38) = -z235 from (e_uq hw241 (Or.inr (by omega)) (e_ue hw238))]; exact hjn) (fun e => by rw [show w241 276 (36 * a + j + 32) = v1 276 (36 * a + j + 32) from (e_uq hw241 (Or.inr (by omega)) (e_uq hw238 (Or.inr (by omega)) rfl)), show w241 276 (36 * a + j + 38) = v1 276 (36 * a + j + 38) from (e_uq hw241 (Or.inr (by omega)) (e_uq hw238 (Or.inr (by omega)) rfl))]; exact j81 j g1 (by omega))), (fun j g1 g2 => by rw [show w241 276 (36 * a + j + 32) = v1 276 (36 * a + j + 32) from (e_uq hw241 (Or.inr (by omega)) (e_uq hw238 (Or.inr (by omega)) rfl)), show w241 276 (36 * a + j + 38) = v1 276 (36 * a + j + 38) from (e_uq hw241 (Or.inr (by omega)) (e_uq hw238 (Or.inr (by omega)) rfl))]; exact j82 j (by omega) g2), (fun e j g1 g2 => Decidable.byCases (p := j = y6) (fun e1 => by rw [e1, show w241 276 (36 * a + y6 + 32) = w 276 (36 * a + y6 + 32) + (-z235) from Eq.trans (show w241 276 (36 * a + y6 + 32) = v1 276 (36 * a + y6 + 32) - z235 from (e_ue hw241)) (by omega), show w241 276 (36 * a + y6 + 38) = -z235 from (e_uq hw241 (Or.inr (by omega)) (e_ue hw238))]; omega) (fun e1 => by rw [show w241 276 (36 * a + j + 32) = v1 276 (36 * a + j + 32) from (e_uq hw241 (Or.inr (by omega)) (e_uq hw238 (Or.inr (by omega)) rfl)), show w241 276 (36 * a + j + 38) = v1 276 (36 * a + j + 38) from (e_uq hw241 (Or.inr (by omega)) (e_uq hw238 (Or.inr (by omega)) rfl))]; exact j83 (by omega) j g1 (by omega))), (fun e j g1 g2 => Decidable.byCases (p := j = y6) (fun e1 => by rw [e1, show w241 276 (36 * a + y6 + 32) = w 276 (36 * a + y6 + 32) + (-z235) from Eq.trans (show w241 276 (36 * a + y6 + 32) = v1 276 (36 * a + y6 + 32) - z235 from (e_ue hw241)) (by omega), show w241 276 (36 * a + y6 + 38) = -z235 from (e_uq hw241 (Or.inr (by omega)) (e_ue hw238))]; omega) (fun e1 => by rw [show w241 276 (36 * a + j + 32) = v1 276 (36 * a + j + 32) from (e_uq hw241 (Or.inr (by omega)) (e_uq hw238 (Or.inr (by omega)) rfl)), show w241 276 (36 * a + j + 38) = v1 276 (36 * a + j + 38) from (e_uq hw241 (Or.inr (by omega)) (e_uq hw238 (Or.inr (by omega)) rfl))]; exact j84 (by omega) j g1 (by omega))), (e_fr.up (e_fr.up j85 hw238 (by unfold mVS; omega)) hw241 (by unfold mVS; omega))⟩ (by omega))
                          exact ⟨rfl, rfl, rfl, rfl, rfl, rfl, rfl, trivial⟩
                  · replace h244 : (-z235 : Int) ≠ 0 := (show ¬ ((-z235 : Int) = 0) from h244)
                    refine e_Ok.ps1 (x := (0, 1)) (q := 250) 2 rfl ?_
                    refine e_Ok.or01 (by omega) (by omega) (fun z251 hz251 => ?_) rfl
                    replace hz251 : (0 ≤ z251 ∧ z251 ≤ 1) ∧ (z251 = 0 ↔ ((y5 : Int) = 0 ∧ (1 : Int) = 0)) := hz251
                    refine e_Ok.run (t' := (257, [(5, (0, z251)), (9, (0, -z235)), (8, (0, w 276 (36 * a + y6 + 44) - v1 276 (36 * a + y6 + 32))), (7, (0, v1 276 (36 * a + y6 + 38))), (0, (1, 275)), (1, (0, a)), (2, (0, 36 * a + 16)), (3, (0, 1)), (4, (0, y4)), (6, (0, y6))], [(0, -z235), (0, y4)], w241)) 3 rfl ?_
                    refine e_Ok.if1 rfl (fun h252 => ?_) (fun h252 => ?_)
                    · replace h252 : (-z235 : Int) ≠ 0 := h252
                      refine e_Ok.ps1 (x := (0, 0)) (q := 296) 1 rfl ?_
                      refine e_Ok.and01 (by omega) (by omega) (fun z253 hz253 => ?_) rfl
                      replace hz253 : (0 ≤ z253 ∧ z253 ≤ 1) ∧ (z253 = 1 ↔ ((y4 : Int) = 1 ∧ (0 : Int) = 1)) := hz253
                      refine e_Ok.run (t' := (299, [(4, (0, z253)), (5, (0, z251)), (9, (0, -z235)), (8, (0, w 276 (36 * a + y6 + 44) - v1 276 (36 * a + y6 + 32))), (7, (0, v1 276 (36 * a + y6 + 38))), (0, (1, 275)), (1, (0, a)), (2, (0, 36 * a + 16)), (3, (0, 1)), (6, (0, y6))], [], w241)) 1 rfl ?_
                      refine e_Ok.inc (z := y6 + 1) rfl rfl (by first | with_reducible rfl | omega) (by omega) ?_
                      show e_Ok 20 elay ecode eI (d + 1) 388 (302, [(6, (0, y6 + 1)), (4, (0, z253)), (5, (0, z251)), (9, (0, -z235)), (8, (0, w 276 (36 * a + y6 + 44) - v1 276 (36 * a + y6 + 32))), (7, (0, v1 276 (36 * a + y6 + 38))), (0, (1, 275)), (1, (0, a)), (2, (0, 36 * a + 16)), (3, (0, 1))], [], w241) _
                      refine e_Ok.ps0 (q := 44) 1 rfl ?_
                      refine e_Ok.sub eAlk (e_sub_of rfl ?_) (ih77 z253 z251 (y6 + 1) w241 ⟨f242, hT243, by omega, (fun j g1 g2 => Decidable.byCases (p := j = y6) (fun e => by rw [e, show w241 276 (36 * a + y6 + 32) = w 276 (36 * a + y6 + 32) + (-z235) from Eq.trans (show w241 276 (36 * a + y6 + 32) = v1 276 (36 * a + y6 + 32) - z235 from (e_ue hw241)) (by omega), show w241 276 (36 * a + y6 + 38) = -z235 from (e_uq hw241 (Or.inr (by omega)) (e_ue hw238))]; exact hjn) (fun e => by rw [show w241 276 (36 * a + j + 32) = v1 276 (36 * a + j + 32) from (e_uq hw241 (Or.inr (by omega)) (e_uq hw238 (Or.inr (by omega)) rfl)), show w241 276 (36 * a + j + 38) = v1 276 (36 * a + j + 38) from (e_uq hw241 (Or.inr (by omega)) (e_uq hw238 (Or.inr (by omega)) rfl))]; exact j81 j g1 (by omega))), (fun j g1 g2 => by rw [show w241 276 (36 * a + j + 32) = v1 276 (36 * a + j + 32) from (e_uq hw241 (Or.inr (by omega)) (e_uq hw238 (Or.inr (by omega)) rfl)), show w241 276 (36 * a + j + 38) = v1 276 (36 * a + j + 38) from (e_uq hw241 (Or.inr (by omega)) (e_uq hw238 (Or.inr (by omega)) rfl))]; exact j82 j (by omega) g2), (fun e j g1 g2 => Decidable.byCases (p := j = y6) (fun e1 => by rw [e1, show w241 276 (36 * a + y6 + 32) = w 276 (36 * a + y6 + 32) + (-z235) from Eq.trans (show w241 276 (36 * a + y6 + 32) = v1 276 (36 * a + y6 + 32) - z235 from (e_ue hw241)) (by omega), show w241 276 (36 * a + y6 + 38) = -z235 from (e_uq hw241 (Or.inr (by omega)) (e_ue hw238))]; omega) (fun e1 => by rw [show w241 276 (36 * a + j + 32) = v1 276 (36 * a + j + 32) from (e_uq hw241 (Or.inr (by omega)) (e_uq hw238 (Or.inr (by omega)) rfl)), show w241 276 (36 * a + j + 38) = v1 276 (36 * a + j + 38) from (e_uq hw241 (Or.inr (by omega)) (e_uq hw238 (Or.inr (by omega)) rfl))]; exact j83 (by omega) j g1 (by omega))), (fun e j g1 g2 => Decidable.byCases (p := j = y6) (fun e1 => by rw [e1, show w241 276 (36 * a + y6 + 32) = w 276 (36 * a + y6 + 32) + (-z235) from Eq.trans (show w241 276 (36 * a + y6 + 32) = v1 276 (36 * a + y6 + 32) - z235 from (e_ue hw241)) (by omega), show w241 276 (36 * a + y6 + 38) = -z235 from (e_uq hw241 (Or.inr (by omega)) (e_ue hw238))]; omega) (fun e1 => by rw [show w241 276 (36 * a + j + 32) = v1 276 (36 * a + j + 32) from (e_uq hw241 (Or.inr (by omega)) (e_uq hw238 (Or.inr (by omega)) rfl)), show w241 276 (36 * a + j + 38) = v1 276 (36 * a + j + 38) from (e_uq hw241 (Or.inr (by omega)) (e_uq hw238 (Or.inr (by omega)) rfl))]; exact j84 (by omega) j g1 (by omega))), (e_fr.up (e_fr.up j85 hw238 (by unfold mVS; omega)) hw241 (by unfold mVS; omega))⟩ (by omega))
                      exact ⟨rfl, rfl, rfl, rfl, rfl, rfl, rfl, trivial⟩
                    · replace h252 : (-z235 : Int) = 0 := Classical.not_not.mp (show ¬ ((-z235 : Int) ≠ 0) from h252)
                      exfalso; omega
      refine e_Ok.sub eAlk (e_sub_of rfl ?_) (hL76 (7 + 1 : Int).toNat 1 0 0 w ⟨(e_fr.refl w), hT, by omega, (fun j g1 g2 => by omega), (fun j g1 g2 => ⟨rfl, rfl⟩), (fun e j g1 g2 => by omega), (fun e j g1 g2 => by omega), (e_fr.refl w)⟩ (by omega))
      exact ⟨rfl, rfl, rfl, rfl, rfl, rfl, rfl, trivial⟩
  · replace h5 : (w 276 (36 * a + 16) : Int) = 0 := Classical.not_not.mp (show ¬ ((w 276 (36 * a + 16) : Int) ≠ 0) from h5)
    refine e_Ok.rets rfl rfl ?_
    exact ⟨rfl, (e_fr.refl w), hT, by omega, hMo⟩
end
end
-- part 83
section
noncomputable section
theorem mMo.same {w w' : eW} {x : Int} (h : mMo w x) (hty : moT w) (hf : ∀ c k, moK c k ∨ (c = 276 ∧ 16 ≤ k ∧ k < 160) → w' c k = w c k) : mMo w' x :=
  mMo.old h hty (fun b g1 g2 => ⟨hf 276 _ (by omega), hf 276 _ (by omega)⟩) (fun c k q _ => hf c k (Or.inl q)) (fun b g1 g2 => Or.inr (hf 276 _ (by omega)))
/-- power is gone: all arms stand -/
theorem mMo.trip {w w' : eW} (h : mMo w (-1)) (hty : moT w) (hj0 : ∀ b, w 275 10 ≤ b → b ≤ 3 → w 286 b = 0) (hf : ∀ c k, moK c k → ¬ (c = 276 ∧ (k = 1 ∨ (16 ≤ k ∧ k < 160 ∧ 22 ≤ (k - 16) % 36 ∧ (k - 16) % 36 ≤ 27))) → w' c k = w c k) (h0 : 0 ≤ w 275 10)
    (hs : ∀ b, 0 ≤ b → b < w 275 10 → w' 276 (36 * b + 16) = 0 ∧ ∀ j, 0 ≤ j → j ≤ 5 → w' 276 (36 * b + j + 38) = 0) (ht : ∀ b, 0 ≤ b → b < w 275 10 → (w 276 (36 * b + 16) = 1 ∨ w 276 (36 * b + 22) = 0) → w' 276 (36 * b + 22) = 0) (hu : ∀ b, w 275 10 ≤ b → b ≤ 3 → w' 276 (36 * b + 16) = w 276 (36 * b + 16) ∧ w' 276 (36 * b + 22) = w 276 (36 * b + 22)) (h01 : ∀ b, 0 ≤ b → b ≤ 3 → 0 ≤ w 276 (36 * b + 22) ∧ w 276 (36 * b + 22) ≤ 1) : mMo w' (-1) := by
  obtain ⟨h1, h2, h3⟩ := h
  have f5 : ∀ c k, c = 286 ∨ c = 288 ∨ c = 289 ∨ c = 291 → w' c k = w c k := fun c k q => hf c k (by unfold moK; omega) (by omega)
  refine ⟨fun a j g1 g2 g3 g4 => ?_, fun a g1 g2 => ?_, fun e a g1 g2 => ?_⟩
  · rw [f5 286 _ (by omega)] at g4
    have y := hty.2 a g1 g2
    have q := h1 a j g1 g2 g3 g4
    have ha : a < w 275 10 := by
      by_cases e : a < w 275 10
      · exact e
      · have := hj0 a (by omega) g2; omega
    unfold moJ at q ⊢
    have e1 := (hs a g1 ha).2 j g3 (by omega)
    rw [hf 276 _ (moK_j ⟨g1, g2⟩ (j := j) (f := 32) (by omega) (by omega)) (by omega), e1, f5 288 _ (by omega), f5 289 _ (by omega), f5 291 _ (by omega), (hs a g1 ha).1]
    exact ⟨q.1, fun _ => rfl, by omega, by omega⟩
  · obtain ⟨y1, y2, y3, y4⟩ := hty.2 a g1 g2
    have f1 := hf 276 _ (moK_a ⟨g1, g2⟩ (f := 19) (by omega)) (by omega)
    have f4 := hf 276 _ (moK_a ⟨g1, g2⟩ (f := 26) (by omega)) (by omega)
    have f3 := hf 276 _ (moK_a ⟨g1, g2⟩ (f := 23) (by omega)) (by omega)
    have f6 : ∀ k, 21060 ≤ k → k < 25060 → w' 276 k = w 276 k := fun k q1 q2 => hf 276 k (by unfold moK; omega) (by omega)
    obtain ⟨q1, q2⟩ := h2 a g1 g2
    refine ⟨fun e => ?_, fun e => ?_⟩
    · rw [hf 276 _ (moK_a ⟨g1, g2⟩ (f := 20) (by omega)) (by omega)] at e
      obtain ⟨z1, z2, P, z3, z4⟩ := q1 e
      refine ⟨by rw [hf 275 10 (by unfold moK; omega) (by omega)]; exact z1, by rw [f1]; exact z2, P, z3.fr ⟨g1, g2⟩ (by omega) y1 f1 f4 (fun c k q => f5 c k (by omega)) f6, fun j g3 g4 => ?_⟩
      rw [f5 286 _ (by omega)] at g4
      rw [hf 276 _ (moK_j ⟨g1, g2⟩ (j := j) (f := 32) (by omega) (by omega)) (by omega)]
      exact z4 j g3 g4
    · by_cases ha : a < w 275 10
      · have t := ht a g1 ha
        by_cases e9 : w 276 (36 * a + 22) = 1
        · have q := (q2 e9).1
          have := t (Or.inl (q.resolve_left (by omega)))
          omega
        · have := h01 a g1 g2
          have := t (Or.inr (by omega))
          omega
      · have u := hu a (by omega) g2
        rw [u.2] at e
        obtain ⟨z1, z2, P, z3, z4⟩ := q2 e
        rw [f3, f1, u.1]
        refine ⟨z1, z2, P, z3.fr ⟨g1, g2⟩ y2 y1 f1 f4 (fun c k q => f5 c k (by omega)) f6, fun j g3 g4 => ?_⟩
        rw [f5 286 _ (by omega)] at g4
        rw [hf 276 _ (moK_j ⟨g1, g2⟩ (j := j) (f := 32) (by omega) (by omega)) (by omega), hf 276 _ (moK_j ⟨g1, g2⟩ (j := j) (f := 44) (by omega) (by omega)) (by omega)]
        exact z4 j g3 g4
  · rw [hf 275 10 (by unfold moK; omega) (by omega)] at g2
    exact (hs a g1 g2).1
end
end
