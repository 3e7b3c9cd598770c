noncomputable section
/-! the model: names, exactly -/
def snM (w : eW) (m n : Int) : Prop := w 343 m = w 343 n ∧ ∀ j, 0 ≤ j → j < w 343 m → w 281 (w 342 m + j) = w 281 (w 342 n + j)
def snH (w : eW) (m n i s : Int) : Prop := (s = 1 ∧ w 343 m = w 343 n ∧ ∀ j, 0 ≤ j → j < i → w 281 (w 342 m + j) = w 281 (w 342 n + j)) ∨ (s = 0 ∧ ¬ snM w m n)
theorem snH.r {w : eW} {m n i s : Int} (h : snH w m n i s) : s = 0 ∨ s = 1 := by rcases h with ⟨h, -⟩ | ⟨h, -⟩ <;> omega
theorem snH.up {w : eW} {m n i : Int} (h : snH w m n i 1) (hi : 0 ≤ i) (e : w 281 (w 342 m + i) = w 281 (w 342 n + i)) : snH w m n (i + 1) 1 := by
  rcases h with ⟨-, h1, h2⟩ | ⟨h, -⟩
  · exact Or.inl ⟨rfl, h1, fun j g1 g2 => by by_cases q : j = i; (rw [q]; exact e); exact h2 j g1 (by omega)⟩
  · exact absurd h (by decide)
theorem snH.no {w : eW} {m n i j : Int} (hi : 0 ≤ i) (hm : i < w 343 m) (e : w 281 (w 342 m + i) ≠ w 281 (w 342 n + i)) : snH w m n j 0 := Or.inr ⟨rfl, fun s => e (s.2 i hi hm)⟩
theorem snH.fin {w : eW} {m n i s : Int} (h : snH w m n i s) (hi : w 343 m ≤ i ∨ s = 0) : (s = 1 ∧ snM w m n) ∨ (s = 0 ∧ ¬ snM w m n) := by
  rcases h with ⟨h, h1, h2⟩ | h
  · exact Or.inl ⟨h, h1, fun j g1 g2 => h2 j g1 (by omega)⟩
  · exact Or.inr h
def tldQ (w : eW) (f n q z : Int) : Prop := (z = -1 ∧ ∀ k, 0 ≤ k → k < q → w 341 k = f → ¬ snM w k n) ∨ (0 ≤ z ∧ ∃ k, (0 ≤ k ∧ k < q) ∧ w 341 k = f ∧ snM w k n ∧ z = cntK w f k ∧ ∀ j, 0 ≤ j → j < k → w 341 j = f → ¬ snM w j n)
theorem tldQ.no {w : eW} {f n q z : Int} (h : tldQ w f n q z) (hz : z < 0) : ∀ k, 0 ≤ k → k < q → w 341 k = f → ¬ snM w k n := by
  rcases h with ⟨-, h⟩ | ⟨h, -⟩
  · exact h
  · omega
theorem tldQ.yes {w : eW} {f n q z : Int} (h : tldQ w f n q z) (hz : 0 ≤ z) : ∃ k, (0 ≤ k ∧ k < q) ∧ w 341 k = f ∧ snM w k n := by
  rcases h with ⟨h, -⟩ | ⟨-, k, h1, h2, h3, -⟩
  · omega
  · exact ⟨k, h1, h2, h3⟩
/-- the name n is a fault -/
def bdM (w : eW) (nm n : Int) : Prop := w 341 n = 4 ∨ ((w 341 n = 0 ∨ w 341 n = 1) ∧ ((∃ k, (0 ≤ k ∧ k < n) ∧ (w 341 k = 0 ∨ w 341 k = 1) ∧ snM w k n) ∨ 32 ≤ cntK w (w 341 n) n)) ∨ ((w 341 n = 2 ∨ w 341 n = 3) ∧ ∀ k, 0 ≤ k → k < nm → w 341 k = w 341 n - 2 → ¬ snM w k n)
/-- the first fault of names lies at x -/
def bdF (w : eW) (nm x : Int) : Prop := ∃ b, (0 ≤ b ∧ b < nm) ∧ bdM w nm b ∧ (∀ n, 0 ≤ n → n < b → ¬ bdM w nm n) ∧ x = w 342 b
theorem bdM.a {w : eW} {nm n f z : Int} (h : w 341 n < 2) (h0 : 0 ≤ w 341 n) (hf : f = 0 ∨ f = 1) (t : tldQ w f n n z) (hz : 0 ≤ z) : bdM w nm n := by
  obtain ⟨k, h1, h2, h3⟩ := t.yes hz
  exact Or.inr (Or.inl ⟨by omega, Or.inl ⟨k, h1, by omega, h3⟩⟩)
theorem bdM.c {w : eW} {nm n : Int} (h : w 341 n < 2) (h0 : 0 ≤ w 341 n) (hc : 32 ≤ cntK w (w 341 n) n) : bdM w nm n := Or.inr (Or.inl ⟨by omega, Or.inr hc⟩)
theorem bdM.d {w : eW} {nm n z : Int} (h : w 341 n = 2 ∨ w 341 n = 3) (t : tldQ w (w 341 n - 2) n nm z) (hz : z < 0) : bdM w nm n := Or.inr (Or.inr ⟨h, t.no hz⟩)
theorem bdM.n1 {w : eW} {nm n z z' : Int} (h : w 341 n = 0 ∨ w 341 n = 1) (t : tldQ w 0 n n z) (hz : z < 0) (t' : tldQ w 1 n n z') (hz' : z' < 0) (hc : cntK w (w 341 n) n < 32) : ¬ bdM w nm n := fun b => by
  rcases b with b | ⟨-, ⟨k, k1, k2, k3⟩ | b⟩ | ⟨b, -⟩
  · omega
  · rcases k2 with k2 | k2
    · exact t.no hz k k1.1 k1.2 k2 k3
    · exact t'.no hz' k k1.1 k1.2 k2 k3
  · omega
  · omega
theorem bdM.n2 {w : eW} {nm n z : Int} (h : w 341 n = 2 ∨ w 341 n = 3) (t : tldQ w (w 341 n - 2) n nm z) (hz : 0 ≤ z) : ¬ bdM w nm n := fun b => by
  rcases b with b | ⟨b, -⟩ | ⟨-, b⟩
  · omega
  · omega
  · obtain ⟨k, h1, h2, h3⟩ := t.yes hz
    exact b k h1.1 h1.2 h2 h3
/-- what resolve may write -/
def mRsQ (c k : Int) : Prop := c = 329 ∨ c = 337 ∨ c = 338 ∨ c = 339 ∨ (c = 275 ∧ (k = 88 ∨ k = 89))
def rsJ (w v : eW) (nm y : Int) : Prop := (v 275 88 = 0 ∧ (∀ n, 0 ≤ n → n < y → ¬ bdM w nm n) ∧ (v 339 4 = cntK w 0 y ∧ v 338 4 = cntK w 1 y ∧ v 339 4 ≤ 32 ∧ v 338 4 ≤ 32)) ∨ (v 275 88 ≠ 0 ∧ bdF w nm (v 275 89))
theorem rsJ.ok {w v : eW} {nm y : Int} (h : rsJ w v nm y) (h0 : v 275 88 = 0) : (∀ n, 0 ≤ n → n < y → ¬ bdM w nm n) ∧ (v 339 4 = cntK w 0 y ∧ v 338 4 = cntK w 1 y ∧ v 339 4 ≤ 32 ∧ v 338 4 ≤ 32) := by
  rcases h with h | h
  · exact h.2
  · exact absurd h0 h.1
theorem rsJ.bad {w v : eW} {nm y : Int} (hy : 0 ≤ y ∧ y < nm) (h : ∀ n, 0 ≤ n → n < y → ¬ bdM w nm n) (hb : bdM w nm y) (h1 : v 275 88 ≠ 0) (h2 : v 275 89 = w 342 y) : rsJ w v nm (y + 1) := Or.inr ⟨h1, y, hy, hb, h, h2⟩
theorem rsJ.go {w v : eW} {nm y : Int} (h0 : 0 ≤ y) (h : ∀ n, 0 ≤ n → n < y → ¬ bdM w nm n) (hb : ¬ bdM w nm y) (h1 : v 275 88 = 0) (h2 : v 339 4 = cntK w 0 (y + 1) ∧ v 338 4 = cntK w 1 (y + 1) ∧ v 339 4 ≤ 32 ∧ v 338 4 ≤ 32) : rsJ w v nm (y + 1) := Or.inl ⟨h1, fun n g1 g2 => by by_cases e : n = y; (rw [e]; exact hb); exact h n g1 (by omega), h2⟩
theorem l_354 {n d : Nat} {w : eW} (hR : mRw w) {m x : Int} (g_m : 0 ≤ w 342 m ∧ w 342 m ≤ 4000 ∧ w 343 m ≤ 4000) (g_x : 0 ≤ w 342 x ∧ w 342 x ≤ 4000) : e_Pn 20 elay ecode eI n d 354 (0, [(0, (1, 275)), (1, (0, m)), (2, (0, x))], [], w) (fun r w' => ∃ z : Int, r = [(0, z)] ∧ w = w' ∧ ((z = 1 ∧ snM w m x) ∨ (z = 0 ∧ ¬ snM w m x))) := by
  refine e_Pn.run (t' := (1, [(0, (1, 275)), (1, (0, m)), (2, (0, x))], [(1, 275)], w)) eAlk 1 rfl ?_
  refine e_Pn.getr (z := 343) eAlk rfl rfl (hR (92, 343) (by decide)) (by omega) ?_
  refine e_Pn.run (t' := (5, [(0, (1, 275)), (1, (0, m)), (2, (0, x))], [(0, m), (1, 343)], w)) eAlk 1 rfl ?_
  refine e_Pn.ald (z := w 343 m) eAlk rfl rfl (fun b1 b2 => ?_)
  refine e_Pn.run (t' := (7, [(0, (1, 275)), (1, (0, m)), (2, (0, x))], [(1, 275), (0, w 343 m)], w)) eAlk 1 rfl ?_
  refine e_Pn.getr (z := 343) eAlk rfl rfl (hR (92, 343) (by decide)) (by omega) ?_
  refine e_Pn.run (t' := (11, [(0, (1, 275)), (1, (0, m)), (2, (0, x))], [(0, x), (1, 343), (0, w 343 m)], w)) eAlk 1 rfl ?_
  refine e_Pn.ald (z := w 343 x) eAlk rfl rfl (fun b3 b4 => ?_)
  refine e_Pn.if2 eAlk rfl (fun h5 => ?_) (fun h5 => ?_)
  · replace h5 : (w 343 m : Int) ≠ w 343 x := h5
    show e_Pn 20 elay ecode eI n d 354 (19, [(0, (1, 275)), (1, (0, m)), (2, (0, x))], [], w) _
    refine e_Pn.run (t' := (24, [(4, (0, 0)), (3, (0, 0)), (0, (1, 275)), (1, (0, m)), (2, (0, x))], [], w)) eAlk 4 rfl ?_
    have hL6 : ∀ nn8 : Nat, nn8 ≤ n → ∀ (tl9 : eL) (y3 : Int) (y4 : Int), (0 ≤ y4) ∧ (snH w m x y4 y3) → e_Pn 20 elay ecode eI nn8 d 354 (24, (0, (1, 275)) :: (1, (0, m)) :: (2, (0, x)) :: (3, (0, y3)) :: (4, (0, y4)) :: tl9, [], w) (fun r w' => ∃ z : Int, r = [(0, z)] ∧ w = w' ∧ ((z = 1 ∧ snM w m x) ∨ (z = 0 ∧ ¬ snM w m x))) := by
      intro nn8
      induction nn8 with
      | zero => intro _ tl9 y3 y4 _; exact e_Pn.zero
      | succ nn8 ih7 =>
        intro hnnn8 tl9 y3 y4 hj
        obtain ⟨j10, j11⟩ := hj
        refine e_Pn.runS (t' := (27, (0, (1, 275)) :: (1, (0, m)) :: (2, (0, x)) :: (3, (0, y3)) :: (4, (0, y4)) :: tl9, [(1, 275), (0, y4)], w)) eAlk 1 rfl ?_
        refine e_Pn.getr (z := 343) eAlk rfl rfl (hR (92, 343) (by decide)) (by omega) ?_
        refine e_Pn.run (t' := (31, (0, (1, 275)) :: (1, (0, m)) :: (2, (0, x)) :: (3, (0, y3)) :: (4, (0, y4)) :: tl9, [(0, m), (1, 343), (0, y4)], w)) eAlk 1 rfl ?_
        refine e_Pn.ald (z := w 343 m) eAlk rfl rfl (fun b12 b13 => ?_)
        refine e_Pn.if2 eAlk rfl (fun h14 => ?_) (fun h14 => ?_)
        · replace h14 : (y4 : Int) ≥ w 343 m := h14
          show e_Pn 20 elay ecode eI nn8 d 354 (82, (0, (1, 275)) :: (1, (0, m)) :: (2, (0, x)) :: (3, (0, y3)) :: (4, (0, y4)) :: tl9, [], w) _
          have e9 := snH.r j11
          refine e_Pn.run (t' := (83, (0, (1, 275)) :: (1, (0, m)) :: (2, (0, x)) :: (3, (0, y3)) :: (4, (0, y4)) :: tl9, [(0, y3)], w)) eAlk 1 rfl ?_
          refine e_Pn.ret4 rfl ?_
          exact ⟨_, rfl, rfl, snH.fin j11 (by omega)⟩
        · replace h14 : (y4 : Int) < w 343 m := by have q : ¬ ((y4 : Int) ≥ w 343 m) := h14; omega
          show e_Pn 20 elay ecode eI nn8 d 354 (35, (0, (1, 275)) :: (1, (0, m)) :: (2, (0, x)) :: (3, (0, y3)) :: (4, (0, y4)) :: tl9, [], w) _
          refine e_Pn.run (t' := (36, (0, (1, 275)) :: (1, (0, m)) :: (2, (0, x)) :: (3, (0, y3)) :: (4, (0, y4)) :: tl9, [(0, y3)], w)) eAlk 1 rfl ?_
          refine e_Pn.if1 eAlk rfl (fun h15 => ?_) (fun h15 => ?_)
          · replace h15 : (y3 : Int) = 0 := h15
            show e_Pn 20 elay ecode eI nn8 d 354 (82, (0, (1, 275)) :: (1, (0, m)) :: (2, (0, x)) :: (3, (0, y3)) :: (4, (0, y4)) :: tl9, [], w) _
            have e9 := snH.r j11
            refine e_Pn.run (t' := (83, (0, (1, 275)) :: (1, (0, m)) :: (2, (0, x)) :: (3, (0, y3)) :: (4, (0, y4)) :: tl9, [(0, y3)], w)) eAlk 1 rfl ?_
            refine e_Pn.ret4 rfl ?_
            exact ⟨_, rfl, rfl, snH.fin j11 (by omega)⟩
          · replace h15 : (y3 : Int) ≠ 0 := by have q : ¬ ((y3 : Int) = 0) := h15; omega
            show e_Pn 20 elay ecode eI nn8 d 354 (39, (0, (1, 275)) :: (1, (0, m)) :: (2, (0, x)) :: (3, (0, y3)) :: (4, (0, y4)) :: tl9, [], w) _
            refine e_Pn.run (t' := (40, (0, (1, 275)) :: (1, (0, m)) :: (2, (0, x)) :: (3, (0, y3)) :: (4, (0, y4)) :: tl9, [(1, 275)], w)) eAlk 1 rfl ?_
            refine e_Pn.getr (z := 281) eAlk rfl rfl (hR (8, 281) (by decide)) (by omega) ?_
            refine e_Pn.run (t' := (44, (0, (1, 275)) :: (1, (0, m)) :: (2, (0, x)) :: (3, (0, y3)) :: (4, (0, y4)) :: tl9, [(1, 275), (1, 281)], w)) eAlk 1 rfl ?_
            refine e_Pn.getr (z := 342) eAlk rfl rfl (hR (91, 342) (by decide)) (by omega) ?_
            refine e_Pn.run (t' := (48, (0, (1, 275)) :: (1, (0, m)) :: (2, (0, x)) :: (3, (0, y3)) :: (4, (0, y4)) :: tl9, [(0, m), (1, 342), (1, 281)], w)) eAlk 1 rfl ?_
            refine e_Pn.ald (z := w 342 m) eAlk rfl rfl (fun b16 b17 => ?_)
            refine e_Pn.run (t' := (51, (0, (1, 275)) :: (1, (0, m)) :: (2, (0, x)) :: (3, (0, y3)) :: (4, (0, y4)) :: tl9, [(0, y4), (0, w 342 m), (1, 281)], w)) eAlk 1 rfl ?_
            refine e_Pn.add (z := w 342 m + y4) eAlk rfl (by omega) (by omega) ?_
            refine e_Pn.ald (z := w 281 (w 342 m + y4)) eAlk rfl rfl (fun b18 b19 => ?_)
            refine e_Pn.run (t' := (54, (0, (1, 275)) :: (1, (0, m)) :: (2, (0, x)) :: (3, (0, y3)) :: (4, (0, y4)) :: tl9, [(1, 275), (0, w 281 (w 342 m + y4))], w)) eAlk 1 rfl ?_
            refine e_Pn.getr (z := 281) eAlk rfl rfl (hR (8, 281) (by decide)) (by omega) ?_
            refine e_Pn.run (t' := (58, (0, (1, 275)) :: (1, (0, m)) :: (2, (0, x)) :: (3, (0, y3)) :: (4, (0, y4)) :: tl9, [(1, 275), (1, 281), (0, w 281 (w 342 m + y4))], w)) eAlk 1 rfl ?_
            refine e_Pn.getr (z := 342) eAlk rfl rfl (hR (91, 342) (by decide)) (by omega) ?_
            refine e_Pn.run (t' := (62, (0, (1, 275)) :: (1, (0, m)) :: (2, (0, x)) :: (3, (0, y3)) :: (4, (0, y4)) :: tl9, [(0, x), (1, 342), (1, 281), (0, w 281 (w 342 m + y4))], w)) eAlk 1 rfl ?_
            refine e_Pn.ald (z := w 342 x) eAlk rfl rfl (fun b20 b21 => ?_)
            refine e_Pn.run (t' := (65, (0, (1, 275)) :: (1, (0, m)) :: (2, (0, x)) :: (3, (0, y3)) :: (4, (0, y4)) :: tl9, [(0, y4), (0, w 342 x), (1, 281), (0, w 281 (w 342 m + y4))], w)) eAlk 1 rfl ?_
            refine e_Pn.add (z := w 342 x + y4) eAlk rfl (by omega) (by omega) ?_
            refine e_Pn.ald (z := w 281 (w 342 x + y4)) eAlk rfl rfl (fun b22 b23 => ?_)
            refine e_Pn.if2 eAlk rfl (fun h24 => ?_) (fun h24 => ?_)
            · replace h24 : (w 281 (w 342 m + y4) : Int) ≠ w 281 (w 342 x + y4) := h24
              show e_Pn 20 elay ecode eI nn8 d 354 (74, (0, (1, 275)) :: (1, (0, m)) :: (2, (0, x)) :: (3, (0, y3)) :: (4, (0, y4)) :: tl9, [], w) _
              refine e_Pn.run (t' := (76, (3, (0, 0)) :: (0, (1, 275)) :: (1, (0, m)) :: (2, (0, x)) :: (4, (0, y4)) :: List.filter (e_flt 0 3) tl9, [], w)) eAlk 2 rfl ?_
              refine e_Pn.inc (z := y4 + 1) eAlk rfl rfl (by omega) (by omega) ?_
              show e_Pn 20 elay ecode eI nn8 d 354 (79, (4, (0, y4 + 1)) :: (3, (0, 0)) :: (0, (1, 275)) :: (1, (0, m)) :: (2, (0, x)) :: List.filter (e_flt 0 4) (List.filter (e_flt 0 3) tl9), [], w) _
              refine e_Pn.run (t' := (24, (4, (0, y4 + 1)) :: (3, (0, 0)) :: (0, (1, 275)) :: (1, (0, m)) :: (2, (0, x)) :: List.filter (e_flt 0 4) (List.filter (e_flt 0 3) tl9), [], w)) eAlk 1 rfl ?_
              exact e_Pn.ord eAlk [0, 1, 2, 3, 4] rfl rfl ((ih7 (by omega) _ 0 (y4 + 1) ⟨(by omega), (by have e : y3 = 1 := (by have := snH.r j11; omega); subst e; first | exact snH.up j11 (by omega) (by omega) | exact snH.no (i := y4) (by omega) (by omega) (by omega))⟩))
            · replace h24 : (w 281 (w 342 m + y4) : Int) = w 281 (w 342 x + y4) := by have q : ¬ ((w 281 (w 342 m + y4) : Int) ≠ w 281 (w 342 x + y4)) := h24; omega
              show e_Pn 20 elay ecode eI nn8 d 354 (70, (0, (1, 275)) :: (1, (0, m)) :: (2, (0, x)) :: (3, (0, y3)) :: (4, (0, y4)) :: tl9, [], w) _
              refine e_Pn.run (t' := (76, (3, (0, 1)) :: (0, (1, 275)) :: (1, (0, m)) :: (2, (0, x)) :: (4, (0, y4)) :: List.filter (e_flt 0 3) tl9, [], w)) eAlk 3 rfl ?_
              refine e_Pn.inc (z := y4 + 1) eAlk rfl rfl (by omega) (by omega) ?_
              show e_Pn 20 elay ecode eI nn8 d 354 (79, (4, (0, y4 + 1)) :: (3, (0, 1)) :: (0, (1, 275)) :: (1, (0, m)) :: (2, (0, x)) :: List.filter (e_flt 0 4) (List.filter (e_flt 0 3) tl9), [], w) _
              refine e_Pn.run (t' := (24, (4, (0, y4 + 1)) :: (3, (0, 1)) :: (0, (1, 275)) :: (1, (0, m)) :: (2, (0, x)) :: List.filter (e_flt 0 4) (List.filter (e_flt 0 3) tl9), [], w)) eAlk 1 rfl ?_
              exact e_Pn.ord eAlk [0, 1, 2, 3, 4] rfl rfl ((ih7 (by omega) _ 1 (y4 + 1) ⟨(by omega), (by have e : y3 = 1 := (by have := snH.r j11; omega); subst e; first | exact snH.up j11 (by omega) (by omega) | exact snH.no (i := y4) (by omega) (by omega) (by omega))⟩))
    exact e_Pn.ord eAlk [0, 1, 2, 3, 4] rfl rfl (hL6 n (Nat.le_refl _) _ 0 0 ⟨(by omega), (by first | exact Or.inl ⟨rfl, by omega, fun j g1 g2 => by omega⟩ | exact Or.inr ⟨rfl, fun q => absurd q.1 (by omega)⟩)⟩)
  · replace h5 : (w 343 m : Int) = w 343 x := by have q : ¬ ((w 343 m : Int) ≠ w 343 x) := h5; omega
    show e_Pn 20 elay ecode eI n d 354 (15, [(0, (1, 275)), (1, (0, m)), (2, (0, x))], [], w) _
    refine e_Pn.run (t' := (24, [(4, (0, 0)), (3, (0, 1)), (0, (1, 275)), (1, (0, m)), (2, (0, x))], [], w)) eAlk 5 rfl ?_
    have hL25 : ∀ nn27 : Nat, nn27 ≤ n → ∀ (tl28 : eL) (y3 : Int) (y4 : Int), (0 ≤ y4) ∧ (snH w m x y4 y3) → e_Pn 20 elay ecode eI nn27 d 354 (24, (0, (1, 275)) :: (1, (0, m)) :: (2, (0, x)) :: (3, (0, y3)) :: (4, (0, y4)) :: tl28, [], w) (fun r w' => ∃ z : Int, r = [(0, z)] ∧ w = w' ∧ ((z = 1 ∧ snM w m x) ∨ (z = 0 ∧ ¬ snM w m x))) := by
      intro nn27
      induction nn27 with
      | zero => intro _ tl28 y3 y4 _; exact e_Pn.zero
      | succ nn27 ih26 =>
        intro hnnn27 tl28 y3 y4 hj
        obtain ⟨j29, j30⟩ := hj
        refine e_Pn.runS (t' := (27, (0, (1, 275)) :: (1, (0, m)) :: (2, (0, x)) :: (3, (0, y3)) :: (4, (0, y4)) :: tl28, [(1, 275), (0, y4)], w)) eAlk 1 rfl ?_
        refine e_Pn.getr (z := 343) eAlk rfl rfl (hR (92, 343) (by decide)) (by omega) ?_
        refine e_Pn.run (t' := (31, (0, (1, 275)) :: (1, (0, m)) :: (2, (0, x)) :: (3, (0, y3)) :: (4, (0, y4)) :: tl28, [(0, m), (1, 343), (0, y4)], w)) eAlk 1 rfl ?_
        refine e_Pn.ald (z := w 343 m) eAlk rfl rfl (fun b31 b32 => ?_)
        refine e_Pn.if2 eAlk rfl (fun h33 => ?_) (fun h33 => ?_)
        · replace h33 : (y4 : Int) ≥ w 343 m := h33
          show e_Pn 20 elay ecode eI nn27 d 354 (82, (0, (1, 275)) :: (1, (0, m)) :: (2, (0, x)) :: (3, (0, y3)) :: (4, (0, y4)) :: tl28, [], w) _
          have e9 := snH.r j30
          refine e_Pn.run (t' := (83, (0, (1, 275)) :: (1, (0, m)) :: (2, (0, x)) :: (3, (0, y3)) :: (4, (0, y4)) :: tl28, [(0, y3)], w)) eAlk 1 rfl ?_
          refine e_Pn.ret4 rfl ?_
          exact ⟨_, rfl, rfl, snH.fin j30 (by omega)⟩
        · replace h33 : (y4 : Int) < w 343 m := by have q : ¬ ((y4 : Int) ≥ w 343 m) := h33; omega
          show e_Pn 20 elay ecode eI nn27 d 354 (35, (0, (1, 275)) :: (1, (0, m)) :: (2, (0, x)) :: (3, (0, y3)) :: (4, (0, y4)) :: tl28, [], w) _
          refine e_Pn.run (t' := (36, (0, (1, 275)) :: (1, (0, m)) :: (2, (0, x)) :: (3, (0, y3)) :: (4, (0, y4)) :: tl28, [(0, y3)], w)) eAlk 1 rfl ?_
          refine e_Pn.if1 eAlk rfl (fun h34 => ?_) (fun h34 => ?_)
          · replace h34 : (y3 : Int) = 0 := h34
            show e_Pn 20 elay ecode eI nn27 d 354 (82, (0, (1, 275)) :: (1, (0, m)) :: (2, (0, x)) :: (3, (0, y3)) :: (4, (0, y4)) :: tl28, [], w) _
            have e9 := snH.r j30
            refine e_Pn.run (t' := (83, (0, (1, 275)) :: (1, (0, m)) :: (2, (0, x)) :: (3, (0, y3)) :: (4, (0, y4)) :: tl28, [(0, y3)], w)) eAlk 1 rfl ?_
            refine e_Pn.ret4 rfl ?_
            exact ⟨_, rfl, rfl, snH.fin j30 (by omega)⟩
          · replace h34 : (y3 : Int) ≠ 0 := by have q : ¬ ((y3 : Int) = 0) := h34; omega
            show e_Pn 20 elay ecode eI nn27 d 354 (39, (0, (1, 275)) :: (1, (0, m)) :: (2, (0, x)) :: (3, (0, y3)) :: (4, (0, y4)) :: tl28, [], w) _
            refine e_Pn.run (t' := (40, (0, (1, 275)) :: (1, (0, m)) :: (2, (0, x)) :: (3, (0, y3)) :: (4, (0, y4)) :: tl28, [(1, 275)], w)) eAlk 1 rfl ?_
            refine e_Pn.getr (z := 281) eAlk rfl rfl (hR (8, 281) (by decide)) (by omega) ?_
            refine e_Pn.run (t' := (44, (0, (1, 275)) :: (1, (0, m)) :: (2, (0, x)) :: (3, (0, y3)) :: (4, (0, y4)) :: tl28, [(1, 275), (1, 281)], w)) eAlk 1 rfl ?_
            refine e_Pn.getr (z := 342) eAlk rfl rfl (hR (91, 342) (by decide)) (by omega) ?_
            refine e_Pn.run (t' := (48, (0, (1, 275)) :: (1, (0, m)) :: (2, (0, x)) :: (3, (0, y3)) :: (4, (0, y4)) :: tl28, [(0, m), (1, 342), (1, 281)], w)) eAlk 1 rfl ?_
            refine e_Pn.ald (z := w 342 m) eAlk rfl rfl (fun b35 b36 => ?_)
            refine e_Pn.run (t' := (51, (0, (1, 275)) :: (1, (0, m)) :: (2, (0, x)) :: (3, (0, y3)) :: (4, (0, y4)) :: tl28, [(0, y4), (0, w 342 m), (1, 281)], w)) eAlk 1 rfl ?_
            refine e_Pn.add (z := w 342 m + y4) eAlk rfl (by omega) (by omega) ?_
            refine e_Pn.ald (z := w 281 (w 342 m + y4)) eAlk rfl rfl (fun b37 b38 => ?_)
            refine e_Pn.run (t' := (54, (0, (1, 275)) :: (1, (0, m)) :: (2, (0, x)) :: (3, (0, y3)) :: (4, (0, y4)) :: tl28, [(1, 275), (0, w 281 (w 342 m + y4))], w)) eAlk 1 rfl ?_
            refine e_Pn.getr (z := 281) eAlk rfl rfl (hR (8, 281) (by decide)) (by omega) ?_
            refine e_Pn.run (t' := (58, (0, (1, 275)) :: (1, (0, m)) :: (2, (0, x)) :: (3, (0, y3)) :: (4, (0, y4)) :: tl28, [(1, 275), (1, 281), (0, w 281 (w 342 m + y4))], w)) eAlk 1 rfl ?_
            refine e_Pn.getr (z := 342) eAlk rfl rfl (hR (91, 342) (by decide)) (by omega) ?_
            refine e_Pn.run (t' := (62, (0, (1, 275)) :: (1, (0, m)) :: (2, (0, x)) :: (3, (0, y3)) :: (4, (0, y4)) :: tl28, [(0, x), (1, 342), (1, 281), (0, w 281 (w 342 m + y4))], w)) eAlk 1 rfl ?_
            refine e_Pn.ald (z := w 342 x) eAlk rfl rfl (fun b39 b40 => ?_)
            refine e_Pn.run (t' := (65, (0, (1, 275)) :: (1, (0, m)) :: (2, (0, x)) :: (3, (0, y3)) :: (4, (0, y4)) :: tl28, [(0, y4), (0, w 342 x), (1, 281), (0, w 281 (w 342 m + y4))], w)) eAlk 1 rfl ?_
            refine e_Pn.add (z := w 342 x + y4) eAlk rfl (by omega) (by omega) ?_
            refine e_Pn.ald (z := w 281 (w 342 x + y4)) eAlk rfl rfl (fun b41 b42 => ?_)
            refine e_Pn.if2 eAlk rfl (fun h43 => ?_) (fun h43 => ?_)
            · replace h43 : (w 281 (w 342 m + y4) : Int) ≠ w 281 (w 342 x + y4) := h43
              show e_Pn 20 elay ecode eI nn27 d 354 (74, (0, (1, 275)) :: (1, (0, m)) :: (2, (0, x)) :: (3, (0, y3)) :: (4, (0, y4)) :: tl28, [], w) _
              refine e_Pn.run (t' := (76, (3, (0, 0)) :: (0, (1, 275)) :: (1, (0, m)) :: (2, (0, x)) :: (4, (0, y4)) :: List.filter (e_flt 0 3) tl28, [], w)) eAlk 2 rfl ?_
              refine e_Pn.inc (z := y4 + 1) eAlk rfl rfl (by omega) (by omega) ?_
              show e_Pn 20 elay ecode eI nn27 d 354 (79, (4, (0, y4 + 1)) :: (3, (0, 0)) :: (0, (1, 275)) :: (1, (0, m)) :: (2, (0, x)) :: List.filter (e_flt 0 4) (List.filter (e_flt 0 3) tl28), [], w) _
              refine e_Pn.run (t' := (24, (4, (0, y4 + 1)) :: (3, (0, 0)) :: (0, (1, 275)) :: (1, (0, m)) :: (2, (0, x)) :: List.filter (e_flt 0 4) (List.filter (e_flt 0 3) tl28), [], w)) eAlk 1 rfl ?_
              exact e_Pn.ord eAlk [0, 1, 2, 3, 4] rfl rfl ((ih26 (by omega) _ 0 (y4 + 1) ⟨(by omega), (by have e : y3 = 1 := (by have := snH.r j30; omega); subst e; first | exact snH.up j30 (by omega) (by omega) | exact snH.no (i := y4) (by omega) (by omega) (by omega))⟩))
            · replace h43 : (w 281 (w 342 m + y4) : Int) = w 281 (w 342 x + y4) := by have q : ¬ ((w 281 (w 342 m + y4) : Int) ≠ w 281 (w 342 x + y4)) := h43; omega
              show e_Pn 20 elay ecode eI nn27 d 354 (70, (0, (1, 275)) :: (1, (0, m)) :: (2, (0, x)) :: (3, (0, y3)) :: (4, (0, y4)) :: tl28, [], w) _
              refine e_Pn.run (t' := (76, (3, (0, 1)) :: (0, (1, 275)) :: (1, (0, m)) :: (2, (0, x)) :: (4, (0, y4)) :: List.filter (e_flt 0 3) tl28, [], w)) eAlk 3 rfl ?_
              refine e_Pn.inc (z := y4 + 1) eAlk rfl rfl (by omega) (by omega) ?_
              show e_Pn 20 elay ecode eI nn27 d 354 (79, (4, (0, y4 + 1)) :: (3, (0, 1)) :: (0, (1, 275)) :: (1, (0, m)) :: (2, (0, x)) :: List.filter (e_flt 0 4) (List.filter (e_flt 0 3) tl28), [], w) _
              refine e_Pn.run (t' := (24, (4, (0, y4 + 1)) :: (3, (0, 1)) :: (0, (1, 275)) :: (1, (0, m)) :: (2, (0, x)) :: List.filter (e_flt 0 4) (List.filter (e_flt 0 3) tl28), [], w)) eAlk 1 rfl ?_
              exact e_Pn.ord eAlk [0, 1, 2, 3, 4] rfl rfl ((ih26 (by omega) _ 1 (y4 + 1) ⟨(by omega), (by have e : y3 = 1 := (by have := snH.r j30; omega); subst e; first | exact snH.up j30 (by omega) (by omega) | exact snH.no (i := y4) (by omega) (by omega) (by omega))⟩))
    exact e_Pn.ord eAlk [0, 1, 2, 3, 4] rfl rfl (hL25 n (Nat.le_refl _) _ 1 0 ⟨(by omega), (by first | exact Or.inl ⟨rfl, by omega, fun j g1 g2 => by omega⟩ | exact Or.inr ⟨rfl, fun q => absurd q.1 (by omega)⟩)⟩)
theorem l_355 {n d : Nat} {w : eW} (hR : mRw w) {mm f x q : Int} (hmm : mm ≤ 4099) (g_x : 0 ≤ x ∧ x < mm) (g_q : 0 ≤ q ∧ q ≤ mm) (hB : ∀ m, 0 ≤ m → m < mm → (0 ≤ w 342 m ∧ w 342 m ≤ 4000) ∧ (w 341 m ≠ 4 → w 343 m ≤ 4000)) (hf : f ≠ 4) : e_Pn 20 elay ecode eI n d 355 (0, [(0, (1, 275)), (1, (0, f)), (2, (0, x)), (3, (0, q))], [], w) (fun r w' => ∃ z : Int, r = [(0, z)] ∧ w = w' ∧ tldQ w f x q z) := by
  refine e_Pn.run (t' := (6, [(5, (0, 0)), (4, (0, 0)), (0, (1, 275)), (1, (0, f)), (2, (0, x)), (3, (0, q))], [], w)) eAlk 4 rfl ?_
  have hL1 : ∀ nn3 : Nat, nn3 ≤ n → ∀ (tl4 : eL) (y4 : Int) (y5 : Int), (0 ≤ y5 ∧ y5 ≤ q) ∧ (y4 = cntK w f y5 ∧ 0 ≤ y4 ∧ y4 ≤ y5) ∧ (∀ k, 0 ≤ k → k < y5 → w 341 k = f → ¬ snM w k x) → e_Pn 20 elay ecode eI nn3 d 355 (6, (0, (1, 275)) :: (1, (0, f)) :: (2, (0, x)) :: (3, (0, q)) :: (4, (0, y4)) :: (5, (0, y5)) :: tl4, [], w) (fun r w' => ∃ z : Int, r = [(0, z)] ∧ w = w' ∧ tldQ w f x q z) := by
    intro nn3
    induction nn3 with
    | zero => intro _ tl4 y4 y5 _; exact e_Pn.zero
    | succ nn3 ih2 =>
      intro hnnn3 tl4 y4 y5 hj
      obtain ⟨j5, j6, j7⟩ := hj
      refine e_Pn.runS (t' := (9, (0, (1, 275)) :: (1, (0, f)) :: (2, (0, x)) :: (3, (0, q)) :: (4, (0, y4)) :: (5, (0, y5)) :: tl4, [(0, q), (0, y5)], w)) eAlk 1 rfl ?_
      refine e_Pn.if2 eAlk rfl (fun h8 => ?_) (fun h8 => ?_)
      · replace h8 : (y5 : Int) ≥ q := h8
        show e_Pn 20 elay ecode eI nn3 d 355 (45, (0, (1, 275)) :: (1, (0, f)) :: (2, (0, x)) :: (3, (0, q)) :: (4, (0, y4)) :: (5, (0, y5)) :: tl4, [], w) _
        refine e_Pn.run (t' := (46, (0, (1, 275)) :: (1, (0, f)) :: (2, (0, x)) :: (3, (0, q)) :: (4, (0, y4)) :: (5, (0, y5)) :: tl4, [(0, (-1))], w)) eAlk 1 rfl ?_
        refine e_Pn.ret1 rfl ?_
        exact ⟨_, rfl, rfl, Or.inl ⟨rfl, fun k g1 g2 => j7 k g1 (by omega)⟩⟩
      · replace h8 : (y5 : Int) < q := by have q : ¬ ((y5 : Int) ≥ q) := h8; omega
        show e_Pn 20 elay ecode eI nn3 d 355 (12, (0, (1, 275)) :: (1, (0, f)) :: (2, (0, x)) :: (3, (0, q)) :: (4, (0, y4)) :: (5, (0, y5)) :: tl4, [], w) _
        refine e_Pn.run (t' := (13, (0, (1, 275)) :: (1, (0, f)) :: (2, (0, x)) :: (3, (0, q)) :: (4, (0, y4)) :: (5, (0, y5)) :: tl4, [(1, 275)], w)) eAlk 1 rfl ?_
        refine e_Pn.getr (z := 341) eAlk rfl rfl (hR (90, 341) (by decide)) (by omega) ?_
        refine e_Pn.run (t' := (18, (0, (1, 275)) :: (1, (0, f)) :: (2, (0, x)) :: (3, (0, q)) :: (4, (0, y4)) :: (5, (0, y5)) :: tl4, [(0, y5), (1, 341)], w)) eAlk 1 rfl ?_
        refine e_Pn.ald (z := w 341 y5) eAlk rfl rfl (fun b9 b10 => ?_)
        refine e_Pn.run (t' := (20, (0, (1, 275)) :: (1, (0, f)) :: (2, (0, x)) :: (3, (0, q)) :: (4, (0, y4)) :: (5, (0, y5)) :: tl4, [(0, f), (0, w 341 y5)], w)) eAlk 1 rfl ?_
        refine e_Pn.if2 eAlk rfl (fun h11 => ?_) (fun h11 => ?_)
        · replace h11 : (w 341 y5 : Int) ≠ f := h11
          show e_Pn 20 elay ecode eI nn3 d 355 (39, (0, (1, 275)) :: (1, (0, f)) :: (2, (0, x)) :: (3, (0, q)) :: (4, (0, y4)) :: (5, (0, y5)) :: tl4, [], w) _
          refine e_Pn.inc (z := y5 + 1) eAlk rfl rfl (by omega) (by omega) ?_
          show e_Pn 20 elay ecode eI nn3 d 355 (42, (5, (0, y5 + 1)) :: (0, (1, 275)) :: (1, (0, f)) :: (2, (0, x)) :: (3, (0, q)) :: (4, (0, y4)) :: List.filter (e_flt 0 5) tl4, [], w) _
          refine e_Pn.run (t' := (6, (5, (0, y5 + 1)) :: (0, (1, 275)) :: (1, (0, f)) :: (2, (0, x)) :: (3, (0, q)) :: (4, (0, y4)) :: List.filter (e_flt 0 5) tl4, [], w)) eAlk 1 rfl ?_
          exact e_Pn.ord eAlk [0, 1, 2, 3, 4, 5] rfl rfl ((ih2 (by omega) _ y4 (y5 + 1) ⟨(by omega), ⟨(by rw [cntK_no (w := w) (k := f) (m := y5) (by omega) (by omega)]; omega), by omega, by omega⟩, (fun k g1 g2 g3 => by by_cases e : k = y5; (exfalso; subst e; omega); exact j7 k g1 (by omega) g3)⟩))
        · replace h11 : (w 341 y5 : Int) = f := by have q : ¬ ((w 341 y5 : Int) ≠ f) := h11; omega
          show e_Pn 20 elay ecode eI nn3 d 355 (23, (0, (1, 275)) :: (1, (0, f)) :: (2, (0, x)) :: (3, (0, q)) :: (4, (0, y4)) :: (5, (0, y5)) :: tl4, [], w) _
          refine e_Pn.run (t' := (27, (0, (1, 275)) :: (1, (0, f)) :: (2, (0, x)) :: (3, (0, q)) :: (4, (0, y4)) :: (5, (0, y5)) :: tl4, [(0, x), (0, y5), (1, 275)], w)) eAlk 3 rfl ?_
          refine e_Pn.callA rfl (fun nq dq => l_354 hR (by have h9 := hB y5 (by omega) (by omega); have k9 := h9.2 (by omega); omega) (by have h9 := (hB x g_x.1 g_x.2).1; omega)) (fun r12 w13 h14 => ?_)
          obtain ⟨z15, rfl, rfl, z15q⟩ := h14
          have z15r : (z15 = 0 ∨ z15 = 1) := by rcases z15q with ⟨g, -⟩ | ⟨g, -⟩ <;> omega
          replace z15q := (show Hid _ from z15q)
          show e_Pn 20 elay ecode eI nn3 d 355 (30, (0, (1, 275)) :: (1, (0, f)) :: (2, (0, x)) :: (3, (0, q)) :: (4, (0, y4)) :: (5, (0, y5)) :: tl4, [(0, z15)], w) _
          refine e_Pn.if1 eAlk rfl (fun h16 => ?_) (fun h16 => ?_)
          · replace h16 : (z15 : Int) = 0 := h16
            show e_Pn 20 elay ecode eI nn3 d 355 (36, (0, (1, 275)) :: (1, (0, f)) :: (2, (0, x)) :: (3, (0, q)) :: (4, (0, y4)) :: (5, (0, y5)) :: tl4, [], w) _
            refine e_Pn.inc (z := y4 + 1) eAlk rfl rfl (by omega) (by omega) ?_
            show e_Pn 20 elay ecode eI nn3 d 355 (39, (4, (0, y4 + 1)) :: (0, (1, 275)) :: (1, (0, f)) :: (2, (0, x)) :: (3, (0, q)) :: (5, (0, y5)) :: List.filter (e_flt 0 4) tl4, [], w) _
            refine e_Pn.inc (z := y5 + 1) eAlk rfl rfl (by omega) (by omega) ?_
            show e_Pn 20 elay ecode eI nn3 d 355 (42, (5, (0, y5 + 1)) :: (4, (0, y4 + 1)) :: (0, (1, 275)) :: (1, (0, f)) :: (2, (0, x)) :: (3, (0, q)) :: List.filter (e_flt 0 5) (List.filter (e_flt 0 4) tl4), [], w) _
            refine e_Pn.run (t' := (6, (5, (0, y5 + 1)) :: (4, (0, y4 + 1)) :: (0, (1, 275)) :: (1, (0, f)) :: (2, (0, x)) :: (3, (0, q)) :: List.filter (e_flt 0 5) (List.filter (e_flt 0 4) tl4), [], w)) eAlk 1 rfl ?_
            exact e_Pn.ord eAlk [0, 1, 2, 3, 4, 5] rfl rfl ((ih2 (by omega) _ (y4 + 1) (y5 + 1) ⟨(by omega), ⟨(by rw [cntK_yes (w := w) (k := f) (m := y5) (by omega) (by omega)]; omega), by omega, by omega⟩, (fun k g1 g2 g3 => by by_cases e : k = y5; (rw [e]; rcases (z15q : (z15 = 1 ∧ _) ∨ (z15 = 0 ∧ _)) with ⟨g, -⟩ | ⟨-, g⟩; omega; exact g); exact j7 k g1 (by omega) g3)⟩))
          · replace h16 : (z15 : Int) ≠ 0 := by have q : ¬ ((z15 : Int) = 0) := h16; omega
            show e_Pn 20 elay ecode eI nn3 d 355 (33, (0, (1, 275)) :: (1, (0, f)) :: (2, (0, x)) :: (3, (0, q)) :: (4, (0, y4)) :: (5, (0, y5)) :: tl4, [], w) _
            refine e_Pn.run (t' := (35, (0, (1, 275)) :: (1, (0, f)) :: (2, (0, x)) :: (3, (0, q)) :: (4, (0, y4)) :: (5, (0, y5)) :: tl4, [(0, y4)], w)) eAlk 1 rfl ?_
            refine e_Pn.ret1 rfl ?_
            exact ⟨_, rfl, rfl, Or.inr ⟨by have := cntK_nn w f y5; omega, y5, ⟨by omega, by omega⟩, by omega, by rcases (z15q : (z15 = 1 ∧ _) ∨ (z15 = 0 ∧ _)) with ⟨-, g⟩ | ⟨g, -⟩; exact g; omega, by omega, j7⟩⟩
  exact e_Pn.ord eAlk [0, 1, 2, 3, 4, 5] rfl rfl (hL1 n (Nat.le_refl _) _ 0 0 ⟨(by omega), ⟨rfl, by omega, by omega⟩, (fun k g1 g2 => by omega)⟩)
theorem cntK_fr {w v : eW} (f : e_fr mRsQ w v) (k m : Int) : cntK v k m = cntK w k m := cntK_eq (fun m => f 341 m (by unfold mRsQ; omega)) k m
theorem snM_fr {w v : eW} (f : e_fr mRsQ w v) (m n : Int) : snM v m n ↔ snM w m n := by
  have e1 : ∀ i, v 343 i = w 343 i := fun i => f 343 i (by unfold mRsQ; omega)
  have e2 : ∀ i, v 342 i = w 342 i := fun i => f 342 i (by unfold mRsQ; omega)
  have e3 : ∀ i, v 281 i = w 281 i := fun i => f 281 i (by unfold mRsQ; omega)
  unfold snM
  rw [e1, e1, e2, e2]
  constructor
  · intro h
    exact ⟨h.1, fun j g1 g2 => by rw [← e3, ← e3]; exact h.2 j g1 g2⟩
  · intro h
    exact ⟨h.1, fun j g1 g2 => by rw [e3, e3]; exact h.2 j g1 g2⟩
theorem rsT {w v : eW} (f : e_fr mRsQ w v) {g n q z : Int} (h : tldQ v g n q z) : tldQ w g n q z := by
  have e : ∀ i, v 341 i = w 341 i := fun i => f 341 i (by unfold mRsQ; omega)
  rcases h with ⟨h1, h2⟩ | ⟨h1, k, k1, k2, k3, k4, k5⟩
  · exact Or.inl ⟨h1, fun k g1 g2 g3 s => h2 k g1 g2 (by rw [e]; exact g3) ((snM_fr f k n).mpr s)⟩
  · exact Or.inr ⟨h1, k, k1, by rw [← e]; exact k2, (snM_fr f k n).mp k3, by rw [k4, cntK_fr f], fun j g1 g2 g3 s => k5 j g1 g2 (by rw [e]; exact g3) ((snM_fr f j n).mpr s)⟩
theorem mRw_fr {w v : eW} (f : e_fr mRsQ w v) (h : mRw w) : mRw v := fun q hq => by
  have d : mRL.all (fun q => decide (q.1 ≠ 88 ∧ q.1 ≠ 89)) = true := by decide +kernel
  have d2 := of_decide_eq_true (List.all_eq_true.mp d q hq)
  rw [f 275 q.1 (by unfold mRsQ; omega)]
  exact h q hq
set_option maxHeartbeats 4000000 in
theorem l_356 {n d : Nat} {w : eW} (hR : mRw w) (hV : w 275 76 = 339 ∧ w 275 75 = 338 ∧ w 275 74 = 337) {nm : Int} (hm : w 275 94 = nm) (hmr : 0 ≤ nm ∧ nm ≤ 4099) (h0 : w 275 88 = 0 ∧ w 339 4 = 0 ∧ w 338 4 = 0) (hK : ∀ m, 0 ≤ m → m < nm → 0 ≤ w 341 m ∧ w 341 m ≤ 4) (hB : ∀ m, 0 ≤ m → m < nm → (0 ≤ w 342 m ∧ w 342 m ≤ 4000) ∧ (w 341 m ≠ 4 → w 343 m ≤ 4000)) : e_Pn 20 elay ecode eI n d 356 (0, [(0, (1, 275))], [], w) (fun r w' => r = [] ∧ e_fr mRsQ w w' ∧ rsJ w w' nm nm) := by
  refine e_Pn.run (t' := (2, [(1, (0, 0)), (0, (1, 275))], [], w)) eAlk 2 rfl ?_
  have hL1 : ∀ nn3 : Nat, nn3 ≤ n → ∀ (tl4 : eL) (y1 : Int) (w9 : eW), (0 ≤ y1 ∧ y1 ≤ nm) ∧ (e_fr mRsQ w w9) ∧ (rsJ w w9 nm y1) → e_Pn 20 elay ecode eI nn3 d 356 (2, (0, (1, 275)) :: (1, (0, y1)) :: tl4, [], w9) (fun r w' => r = [] ∧ e_fr mRsQ w w' ∧ rsJ w w' nm nm) := by
    intro nn3
    induction nn3 with
    | zero => intro _ tl4 y1 w9 _; exact e_Pn.zero
    | succ nn3 ih2 =>
      intro hnnn3 tl4 y1 w9 hj
      obtain ⟨j5, j6, j7⟩ := hj
      refine e_Pn.runS (t' := (4, (0, (1, 275)) :: (1, (0, y1)) :: tl4, [(1, 275), (0, y1)], w9)) eAlk 1 rfl ?_
      refine e_Pn.getf (z := nm) eAlk rfl rfl ((j6 275 94 (by unfold mRsQ; omega)).trans hm) (fun b8 => ?_)
      refine e_Pn.if2 eAlk rfl (fun h9 => ?_) (fun h9 => ?_)
      · replace h9 : (y1 : Int) ≥ nm := h9
        show e_Pn 20 elay ecode eI nn3 d 356 (223, (0, (1, 275)) :: (1, (0, y1)) :: tl4, [], w9) _
        refine e_Pn.ret0 rfl ?_
        exact ⟨rfl, j6, by rcases j7 with g | g; (first | (have e : y1 = nm := (by omega); rw [e] at g; exact Or.inl g) | exact absurd g.1 (by omega)); exact Or.inr g⟩
      · replace h9 : (y1 : Int) < nm := by have q : ¬ ((y1 : Int) ≥ nm) := h9; omega
        show e_Pn 20 elay ecode eI nn3 d 356 (10, (0, (1, 275)) :: (1, (0, y1)) :: tl4, [], w9) _
        refine e_Pn.run (t' := (11, (0, (1, 275)) :: (1, (0, y1)) :: tl4, [(1, 275)], w9)) eAlk 1 rfl ?_
        refine e_Pn.getf (z := w9 275 88) eAlk rfl rfl rfl (fun b10 => ?_)
        refine e_Pn.if1 eAlk rfl (fun h11 => ?_) (fun h11 => ?_)
        · replace h11 : (w9 275 88 : Int) ≠ 0 := h11
          show e_Pn 20 elay ecode eI nn3 d 356 (223, (0, (1, 275)) :: (1, (0, y1)) :: tl4, [], w9) _
          refine e_Pn.ret0 rfl ?_
          exact ⟨rfl, j6, by rcases j7 with g | g; (first | (have e : y1 = nm := (by omega); rw [e] at g; exact Or.inl g) | exact absurd g.1 (by omega)); exact Or.inr g⟩
        · replace h11 : (w9 275 88 : Int) = 0 := by have q : ¬ ((w9 275 88 : Int) ≠ 0) := h11; omega
          show e_Pn 20 elay ecode eI nn3 d 356 (17, (0, (1, 275)) :: (1, (0, y1)) :: tl4, [], w9) _
          obtain ⟨jo, jv, jr, jv2, jr2⟩ := rsJ.ok j7 (by omega)
          have kk := hK y1 (by omega) (by omega)
          refine e_Pn.run (t' := (18, (0, (1, 275)) :: (1, (0, y1)) :: tl4, [(1, 275)], w9)) eAlk 1 rfl ?_
          refine e_Pn.getr (z := 341) eAlk rfl rfl ((j6 275 90 (by unfold mRsQ; omega)).trans (hR (90, 341) (by decide))) (by omega) ?_
          refine e_Pn.run (t' := (22, (0, (1, 275)) :: (1, (0, y1)) :: tl4, [(0, y1), (1, 341)], w9)) eAlk 1 rfl ?_
          refine e_Pn.ald (z := w 341 y1) eAlk rfl (j6 341 y1 (by unfold mRsQ; omega)) (fun b12 b13 => ?_)
          refine e_Pn.run (t' := (28, (3, (0, 0)) :: (2, (0, w 341 y1)) :: (0, (1, 275)) :: (1, (0, y1)) :: List.filter (e_flt 0 3) (List.filter (e_flt 0 2) tl4), [(0, 2), (0, w 341 y1)], w9)) eAlk 5 rfl ?_
          refine e_Pn.if2 eAlk rfl (fun h14 => ?_) (fun h14 => ?_)
          · replace h14 : (w 341 y1 : Int) ≥ 2 := h14
            show e_Pn 20 elay ecode eI nn3 d 356 (145, (3, (0, 0)) :: (2, (0, w 341 y1)) :: (0, (1, 275)) :: (1, (0, y1)) :: List.filter (e_flt 0 3) (List.filter (e_flt 0 2) tl4), [], w9) _
            refine e_Pn.run (t' := (147, (3, (0, 0)) :: (2, (0, w 341 y1)) :: (0, (1, 275)) :: (1, (0, y1)) :: List.filter (e_flt 0 3) (List.filter (e_flt 0 2) tl4), [(0, 4), (0, w 341 y1)], w9)) eAlk 2 rfl ?_
            refine e_Pn.if2 eAlk rfl (fun h15 => ?_) (fun h15 => ?_)
            · replace h15 : (w 341 y1 : Int) ≠ 4 := h15
              show e_Pn 20 elay ecode eI nn3 d 356 (156, (3, (0, 0)) :: (2, (0, w 341 y1)) :: (0, (1, 275)) :: (1, (0, y1)) :: List.filter (e_flt 0 3) (List.filter (e_flt 0 2) tl4), [], w9) _
              refine e_Pn.run (t' := (159, (3, (0, 0)) :: (2, (0, w 341 y1)) :: (0, (1, 275)) :: (1, (0, y1)) :: List.filter (e_flt 0 3) (List.filter (e_flt 0 2) tl4), [(0, 2), (0, w 341 y1), (1, 275)], w9)) eAlk 3 rfl ?_
              refine e_Pn.sub' (z := w 341 y1 - 2) eAlk rfl (by omega) (by omega) ?_
              refine e_Pn.run (t' := (162, (3, (0, 0)) :: (2, (0, w 341 y1)) :: (0, (1, 275)) :: (1, (0, y1)) :: List.filter (e_flt 0 3) (List.filter (e_flt 0 2) tl4), [(1, 275), (0, y1), (0, w 341 y1 - 2), (1, 275)], w9)) eAlk 2 rfl ?_
              refine e_Pn.getf (z := nm) eAlk rfl rfl ((j6 275 94 (by unfold mRsQ; omega)).trans hm) (fun b16 => ?_)
              refine e_Pn.callA rfl (fun nq dq => l_355 (w := w9) (mRw_fr j6 hR) (mm := nm) (by omega) (by omega) (by omega) (fun m g1 g2 => by rw [j6 342 m (by unfold mRsQ; omega), j6 343 m (by unfold mRsQ; omega), j6 341 m (by unfold mRsQ; omega)]; exact hB m g1 g2) (by omega)) (fun r17 w18 h19 => ?_)
              obtain ⟨z20, rfl, rfl, z20q⟩ := h19
              replace z20q := rsT j6 z20q
              have z20r : -1 ≤ z20 := by rcases z20q with ⟨g, -⟩ | ⟨g, -⟩ <;> omega
              replace z20q := (show Hid _ from z20q)
              show e_Pn 20 elay ecode eI nn3 d 356 (168, (3, (0, 0)) :: (2, (0, w 341 y1)) :: (0, (1, 275)) :: (1, (0, y1)) :: List.filter (e_flt 0 3) (List.filter (e_flt 0 2) tl4), [(0, z20)], w9) _
              refine e_Pn.run (t' := (172, (4, (0, z20)) :: (3, (0, 0)) :: (2, (0, w 341 y1)) :: (0, (1, 275)) :: (1, (0, y1)) :: List.filter (e_flt 0 4) (List.filter (e_flt 0 3) (List.filter (e_flt 0 2) tl4)), [(0, z20)], w9)) eAlk 2 rfl ?_
              refine e_Pn.if1 eAlk rfl (fun h21 => ?_) (fun h21 => ?_)
              · replace h21 : (z20 : Int) ≥ 0 := h21
                show e_Pn 20 elay ecode eI nn3 d 356 (179, (4, (0, z20)) :: (3, (0, 0)) :: (2, (0, w 341 y1)) :: (0, (1, 275)) :: (1, (0, y1)) :: List.filter (e_flt 0 4) (List.filter (e_flt 0 3) (List.filter (e_flt 0 2) tl4)), [], w9) _
                refine e_Pn.run (t' := (182, (3, (0, 0)) :: (4, (0, z20)) :: (2, (0, w 341 y1)) :: (0, (1, 275)) :: (1, (0, y1)) :: List.filter (e_flt 0 3) (List.filter (e_flt 0 4) (List.filter (e_flt 0 3) (List.filter (e_flt 0 2) tl4))), [(1, 275)], w9)) eAlk 3 rfl ?_
                refine e_Pn.getr (z := 329) eAlk rfl rfl ((j6 275 66 (by unfold mRsQ; omega)).trans (hR (66, 329) (by decide))) (by omega) ?_
                refine e_Pn.run (t' := (189, (3, (0, 0)) :: (4, (0, z20)) :: (2, (0, w 341 y1)) :: (0, (1, 275)) :: (1, (0, y1)) :: List.filter (e_flt 0 3) (List.filter (e_flt 0 4) (List.filter (e_flt 0 3) (List.filter (e_flt 0 2) tl4))), [(1, 275), (0, 40000), (1, 329)], w9)) eAlk 2 rfl ?_
                refine e_Pn.getr (z := 344) eAlk rfl rfl ((j6 275 93 (by unfold mRsQ; omega)).trans (hR (93, 344) (by decide))) (by omega) ?_
                refine e_Pn.run (t' := (193, (3, (0, 0)) :: (4, (0, z20)) :: (2, (0, w 341 y1)) :: (0, (1, 275)) :: (1, (0, y1)) :: List.filter (e_flt 0 3) (List.filter (e_flt 0 4) (List.filter (e_flt 0 3) (List.filter (e_flt 0 2) tl4))), [(0, y1), (1, 344), (0, 40000), (1, 329)], w9)) eAlk 1 rfl ?_
                refine e_Pn.ald (z := w 344 y1) eAlk rfl (j6 344 y1 (by unfold mRsQ; omega)) (fun b22 b23 => ?_)
                refine e_Pn.bin0 eAlk rfl (fun z24 hz24 => ?_)
                refine e_Pn.run (t' := (197, (3, (0, 0)) :: (4, (0, z20)) :: (2, (0, w 341 y1)) :: (0, (1, 275)) :: (1, (0, y1)) :: List.filter (e_flt 0 3) (List.filter (e_flt 0 4) (List.filter (e_flt 0 3) (List.filter (e_flt 0 2) tl4))), [(0, z20), (0, z24), (1, 329)], w9)) eAlk 1 rfl ?_
                refine e_Pn.ast eAlk rfl rfl rfl (fun b25 b26 => ?_)
                generalize hw27 : e_up w9 329 z24 z20 = w27
                have hb : ¬ bdM w nm y1 := bdM.n2 (by omega) (show tldQ _ _ _ _ _ from z20q) (by omega)
                refine e_Pn.run (t' := (199, (3, (0, 0)) :: (4, (0, z20)) :: (2, (0, w 341 y1)) :: (0, (1, 275)) :: (1, (0, y1)) :: List.filter (e_flt 0 3) (List.filter (e_flt 0 4) (List.filter (e_flt 0 3) (List.filter (e_flt 0 2) tl4))), [(0, 0)], w27)) eAlk 1 rfl ?_
                refine e_Pn.if1 eAlk rfl (fun h28 => ?_) (fun h28 => ?_)
                · replace h28 : (0 : Int) = 0 := h28
                  show e_Pn 20 elay ecode eI nn3 d 356 (217, (3, (0, 0)) :: (4, (0, z20)) :: (2, (0, w 341 y1)) :: (0, (1, 275)) :: (1, (0, y1)) :: List.filter (e_flt 0 3) (List.filter (e_flt 0 4) (List.filter (e_flt 0 3) (List.filter (e_flt 0 2) tl4))), [], w27) _
                  refine e_Pn.inc (z := y1 + 1) eAlk rfl rfl (by omega) (by omega) ?_
                  show e_Pn 20 elay ecode eI nn3 d 356 (220, (1, (0, y1 + 1)) :: (3, (0, 0)) :: (4, (0, z20)) :: (2, (0, w 341 y1)) :: (0, (1, 275)) :: List.filter (e_flt 0 1) (List.filter (e_flt 0 3) (List.filter (e_flt 0 4) (List.filter (e_flt 0 3) (List.filter (e_flt 0 2) tl4)))), [], w27) _
                  refine e_Pn.run (t' := (2, (1, (0, y1 + 1)) :: (3, (0, 0)) :: (4, (0, z20)) :: (2, (0, w 341 y1)) :: (0, (1, 275)) :: List.filter (e_flt 0 1) (List.filter (e_flt 0 3) (List.filter (e_flt 0 4) (List.filter (e_flt 0 3) (List.filter (e_flt 0 2) tl4)))), [], w27)) eAlk 1 rfl ?_
                  exact e_Pn.ord eAlk [0, 1] rfl rfl ((ih2 (by omega) _ (y1 + 1) w27 ⟨(by omega), (e_fr.up j6 hw27 (by unfold mRsQ; omega)), (rsJ.go (by omega) jo hb (by rw [(show w27 275 88 = w9 275 88 from (by rw [← hw27]; exact (e_up_ne _ _ (Or.inl (by omega))).trans rfl))]; omega) ⟨(by rw [(show w27 339 4 = w9 339 4 from (by rw [← hw27]; exact (e_up_ne _ _ (Or.inl (by omega))).trans rfl)), cntK_next w 0 (by omega)]; first | (rw [if_pos (by omega)]; omega) | (rw [if_neg (by omega)]; omega)), (by rw [(show w27 338 4 = w9 338 4 from (by rw [← hw27]; exact (e_up_ne _ _ (Or.inl (by omega))).trans rfl)), cntK_next w 1 (by omega)]; first | (rw [if_pos (by omega)]; omega) | (rw [if_neg (by omega)]; omega)), (by rw [(show w27 339 4 = w9 339 4 from (by rw [← hw27]; exact (e_up_ne _ _ (Or.inl (by omega))).trans rfl))]; omega), (by rw [(show w27 338 4 = w9 338 4 from (by rw [← hw27]; exact (e_up_ne _ _ (Or.inl (by omega))).trans rfl))]; omega)⟩)⟩))
                · replace h28 : (0 : Int) ≠ 0 := by have q : ¬ ((0 : Int) = 0) := h28; omega
                  exfalso; omega
              · replace h21 : (z20 : Int) < 0 := by have q : ¬ ((z20 : Int) ≥ 0) := h21; omega
                show e_Pn 20 elay ecode eI nn3 d 356 (175, (4, (0, z20)) :: (3, (0, 0)) :: (2, (0, w 341 y1)) :: (0, (1, 275)) :: (1, (0, y1)) :: List.filter (e_flt 0 4) (List.filter (e_flt 0 3) (List.filter (e_flt 0 2) tl4)), [], w9) _
                refine e_Pn.run (t' := (182, (3, (0, 5)) :: (4, (0, z20)) :: (2, (0, w 341 y1)) :: (0, (1, 275)) :: (1, (0, y1)) :: List.filter (e_flt 0 3) (List.filter (e_flt 0 4) (List.filter (e_flt 0 3) (List.filter (e_flt 0 2) tl4))), [(1, 275)], w9)) eAlk 4 rfl ?_
                refine e_Pn.getr (z := 329) eAlk rfl rfl ((j6 275 66 (by unfold mRsQ; omega)).trans (hR (66, 329) (by decide))) (by omega) ?_
                refine e_Pn.run (t' := (189, (3, (0, 5)) :: (4, (0, z20)) :: (2, (0, w 341 y1)) :: (0, (1, 275)) :: (1, (0, y1)) :: List.filter (e_flt 0 3) (List.filter (e_flt 0 4) (List.filter (e_flt 0 3) (List.filter (e_flt 0 2) tl4))), [(1, 275), (0, 40000), (1, 329)], w9)) eAlk 2 rfl ?_
                refine e_Pn.getr (z := 344) eAlk rfl rfl ((j6 275 93 (by unfold mRsQ; omega)).trans (hR (93, 344) (by decide))) (by omega) ?_
                refine e_Pn.run (t' := (193, (3, (0, 5)) :: (4, (0, z20)) :: (2, (0, w 341 y1)) :: (0, (1, 275)) :: (1, (0, y1)) :: List.filter (e_flt 0 3) (List.filter (e_flt 0 4) (List.filter (e_flt 0 3) (List.filter (e_flt 0 2) tl4))), [(0, y1), (1, 344), (0, 40000), (1, 329)], w9)) eAlk 1 rfl ?_
                refine e_Pn.ald (z := w 344 y1) eAlk rfl (j6 344 y1 (by unfold mRsQ; omega)) (fun b29 b30 => ?_)
                refine e_Pn.bin0 eAlk rfl (fun z31 hz31 => ?_)
                refine e_Pn.run (t' := (197, (3, (0, 5)) :: (4, (0, z20)) :: (2, (0, w 341 y1)) :: (0, (1, 275)) :: (1, (0, y1)) :: List.filter (e_flt 0 3) (List.filter (e_flt 0 4) (List.filter (e_flt 0 3) (List.filter (e_flt 0 2) tl4))), [(0, z20), (0, z31), (1, 329)], w9)) eAlk 1 rfl ?_
                refine e_Pn.ast eAlk rfl rfl rfl (fun b32 b33 => ?_)
                generalize hw34 : e_up w9 329 z31 z20 = w34
                have hb : bdM w nm y1 := bdM.d (by omega) (show tldQ _ _ _ _ _ from z20q) (by omega)
                refine e_Pn.run (t' := (199, (3, (0, 5)) :: (4, (0, z20)) :: (2, (0, w 341 y1)) :: (0, (1, 275)) :: (1, (0, y1)) :: List.filter (e_flt 0 3) (List.filter (e_flt 0 4) (List.filter (e_flt 0 3) (List.filter (e_flt 0 2) tl4))), [(0, 5)], w34)) eAlk 1 rfl ?_
                refine e_Pn.if1 eAlk rfl (fun h35 => ?_) (fun h35 => ?_)
                · replace h35 : (5 : Int) = 0 := h35
                  exfalso; omega
                · replace h35 : (5 : Int) ≠ 0 := by have q : ¬ ((5 : Int) = 0) := h35; omega
                  show e_Pn 20 elay ecode eI nn3 d 356 (202, (3, (0, 5)) :: (4, (0, z20)) :: (2, (0, w 341 y1)) :: (0, (1, 275)) :: (1, (0, y1)) :: List.filter (e_flt 0 3) (List.filter (e_flt 0 4) (List.filter (e_flt 0 3) (List.filter (e_flt 0 2) tl4))), [], w34) _
                  refine e_Pn.run (t' := (204, (3, (0, 5)) :: (4, (0, z20)) :: (2, (0, w 341 y1)) :: (0, (1, 275)) :: (1, (0, y1)) :: List.filter (e_flt 0 3) (List.filter (e_flt 0 4) (List.filter (e_flt 0 3) (List.filter (e_flt 0 2) tl4))), [(0, 5), (1, 275)], w34)) eAlk 2 rfl ?_
                  refine e_Pn.putf eAlk rfl rfl ?_
                  generalize hw36 : e_up w34 275 88 5 = w36
                  refine e_Pn.run (t' := (209, (3, (0, 5)) :: (4, (0, z20)) :: (2, (0, w 341 y1)) :: (0, (1, 275)) :: (1, (0, y1)) :: List.filter (e_flt 0 3) (List.filter (e_flt 0 4) (List.filter (e_flt 0 3) (List.filter (e_flt 0 2) tl4))), [(1, 275), (1, 275)], w36)) eAlk 2 rfl ?_
                  refine e_Pn.getr (z := 342) eAlk rfl rfl (((e_fr.up (e_fr.up j6 hw34 (by unfold mRsQ; omega)) hw36 (by unfold mRsQ; omega)) 275 91 (by unfold mRsQ; omega)).trans (hR (91, 342) (by decide))) (by omega) ?_
                  refine e_Pn.run (t' := (213, (3, (0, 5)) :: (4, (0, z20)) :: (2, (0, w 341 y1)) :: (0, (1, 275)) :: (1, (0, y1)) :: List.filter (e_flt 0 3) (List.filter (e_flt 0 4) (List.filter (e_flt 0 3) (List.filter (e_flt 0 2) tl4))), [(0, y1), (1, 342), (1, 275)], w36)) eAlk 1 rfl ?_
                  refine e_Pn.ald (z := w 342 y1) eAlk rfl (by rw [← hw36]; exact (e_up_ne _ _ (Or.inl (by omega))).trans (by rw [← hw34]; exact (e_up_ne _ _ (Or.inl (by omega))).trans (j6 342 y1 (by unfold mRsQ; omega)))) (fun b37 b38 => ?_)
                  refine e_Pn.putf eAlk rfl rfl ?_
                  generalize hw39 : e_up w36 275 89 (w 342 y1) = w39
                  refine e_Pn.inc (z := y1 + 1) eAlk rfl rfl (by omega) (by omega) ?_
                  show e_Pn 20 elay ecode eI nn3 d 356 (220, (1, (0, y1 + 1)) :: (3, (0, 5)) :: (4, (0, z20)) :: (2, (0, w 341 y1)) :: (0, (1, 275)) :: List.filter (e_flt 0 1) (List.filter (e_flt 0 3) (List.filter (e_flt 0 4) (List.filter (e_flt 0 3) (List.filter (e_flt 0 2) tl4)))), [], w39) _
                  refine e_Pn.run (t' := (2, (1, (0, y1 + 1)) :: (3, (0, 5)) :: (4, (0, z20)) :: (2, (0, w 341 y1)) :: (0, (1, 275)) :: List.filter (e_flt 0 1) (List.filter (e_flt 0 3) (List.filter (e_flt 0 4) (List.filter (e_flt 0 3) (List.filter (e_flt 0 2) tl4)))), [], w39)) eAlk 1 rfl ?_
                  exact e_Pn.ord eAlk [0, 1] rfl rfl ((ih2 (by omega) _ (y1 + 1) w39 ⟨(by omega), (e_fr.up (e_fr.up (e_fr.up j6 hw34 (by unfold mRsQ; omega)) hw36 (by unfold mRsQ; omega)) hw39 (by unfold mRsQ; omega)), (rsJ.bad (by omega) jo hb (by rw [(show w39 275 88 = 5 from (by rw [← hw39]; exact (e_up_ne _ _ (Or.inr (by omega))).trans (by rw [← hw36]; exact e_up_eq _ _ _ _)))]; decide) (show w39 275 89 = w 342 y1 from (by rw [← hw39]; exact e_up_eq _ _ _ _)))⟩))
            · replace h15 : (w 341 y1 : Int) = 4 := by have q : ¬ ((w 341 y1 : Int) ≠ 4) := h15; omega
              show e_Pn 20 elay ecode eI nn3 d 356 (150, (3, (0, 0)) :: (2, (0, w 341 y1)) :: (0, (1, 275)) :: (1, (0, y1)) :: List.filter (e_flt 0 3) (List.filter (e_flt 0 2) tl4), [], w9) _
              refine e_Pn.run (t' := (198, (3, (0, 6)) :: (2, (0, w 341 y1)) :: (0, (1, 275)) :: (1, (0, y1)) :: List.filter (e_flt 0 3) (List.filter (e_flt 0 3) (List.filter (e_flt 0 2) tl4)), [], w9)) eAlk 3 rfl ?_
              have hb : bdM w nm y1 := Or.inl (by omega)
              refine e_Pn.run (t' := (199, (3, (0, 6)) :: (2, (0, w 341 y1)) :: (0, (1, 275)) :: (1, (0, y1)) :: List.filter (e_flt 0 3) (List.filter (e_flt 0 3) (List.filter (e_flt 0 2) tl4)), [(0, 6)], w9)) eAlk 1 rfl ?_
              refine e_Pn.if1 eAlk rfl (fun h40 => ?_) (fun h40 => ?_)
              · replace h40 : (6 : Int) = 0 := h40
                exfalso; omega
              · replace h40 : (6 : Int) ≠ 0 := by have q : ¬ ((6 : Int) = 0) := h40; omega
                show e_Pn 20 elay ecode eI nn3 d 356 (202, (3, (0, 6)) :: (2, (0, w 341 y1)) :: (0, (1, 275)) :: (1, (0, y1)) :: List.filter (e_flt 0 3) (List.filter (e_flt 0 3) (List.filter (e_flt 0 2) tl4)), [], w9) _
                refine e_Pn.run (t' := (204, (3, (0, 6)) :: (2, (0, w 341 y1)) :: (0, (1, 275)) :: (1, (0, y1)) :: List.filter (e_flt 0 3) (List.filter (e_flt 0 3) (List.filter (e_flt 0 2) tl4)), [(0, 6), (1, 275)], w9)) eAlk 2 rfl ?_
                refine e_Pn.putf eAlk rfl rfl ?_
                generalize hw41 : e_up w9 275 88 6 = w41
                refine e_Pn.run (t' := (209, (3, (0, 6)) :: (2, (0, w 341 y1)) :: (0, (1, 275)) :: (1, (0, y1)) :: List.filter (e_flt 0 3) (List.filter (e_flt 0 3) (List.filter (e_flt 0 2) tl4)), [(1, 275), (1, 275)], w41)) eAlk 2 rfl ?_
                refine e_Pn.getr (z := 342) eAlk rfl rfl (((e_fr.up j6 hw41 (by unfold mRsQ; omega)) 275 91 (by unfold mRsQ; omega)).trans (hR (91, 342) (by decide))) (by omega) ?_
                refine e_Pn.run (t' := (213, (3, (0, 6)) :: (2, (0, w 341 y1)) :: (0, (1, 275)) :: (1, (0, y1)) :: List.filter (e_flt 0 3) (List.filter (e_flt 0 3) (List.filter (e_flt 0 2) tl4)), [(0, y1), (1, 342), (1, 275)], w41)) eAlk 1 rfl ?_
                refine e_Pn.ald (z := w 342 y1) eAlk rfl (by rw [← hw41]; exact (e_up_ne _ _ (Or.inl (by omega))).trans (j6 342 y1 (by unfold mRsQ; omega))) (fun b42 b43 => ?_)
                refine e_Pn.putf eAlk rfl rfl ?_
                generalize hw44 : e_up w41 275 89 (w 342 y1) = w44
                refine e_Pn.inc (z := y1 + 1) eAlk rfl rfl (by omega) (by omega) ?_
                show e_Pn 20 elay ecode eI nn3 d 356 (220, (1, (0, y1 + 1)) :: (3, (0, 6)) :: (2, (0, w 341 y1)) :: (0, (1, 275)) :: List.filter (e_flt 0 1) (List.filter (e_flt 0 3) (List.filter (e_flt 0 3) (List.filter (e_flt 0 2) tl4))), [], w44) _
                refine e_Pn.run (t' := (2, (1, (0, y1 + 1)) :: (3, (0, 6)) :: (2, (0, w 341 y1)) :: (0, (1, 275)) :: List.filter (e_flt 0 1) (List.filter (e_flt 0 3) (List.filter (e_flt 0 3) (List.filter (e_flt 0 2) tl4))), [], w44)) eAlk 1 rfl ?_
                exact e_Pn.ord eAlk [0, 1] rfl rfl ((ih2 (by omega) _ (y1 + 1) w44 ⟨(by omega), (e_fr.up (e_fr.up j6 hw41 (by unfold mRsQ; omega)) hw44 (by unfold mRsQ; omega)), (rsJ.bad (by omega) jo hb (by rw [(show w44 275 88 = 6 from (by rw [← hw44]; exact (e_up_ne _ _ (Or.inr (by omega))).trans (by rw [← hw41]; exact e_up_eq _ _ _ _)))]; decide) (show w44 275 89 = w 342 y1 from (by rw [← hw44]; exact e_up_eq _ _ _ _)))⟩))
          · replace h14 : (w 341 y1 : Int) < 2 := by have q : ¬ ((w 341 y1 : Int) ≥ 2) := h14; omega
            show e_Pn 20 elay ecode eI nn3 d 356 (31, (3, (0, 0)) :: (2, (0, w 341 y1)) :: (0, (1, 275)) :: (1, (0, y1)) :: List.filter (e_flt 0 3) (List.filter (e_flt 0 2) tl4), [], w9) _
            refine e_Pn.run (t' := (35, (3, (0, 0)) :: (2, (0, w 341 y1)) :: (0, (1, 275)) :: (1, (0, y1)) :: List.filter (e_flt 0 3) (List.filter (e_flt 0 2) tl4), [(0, y1), (0, y1), (0, 0), (1, 275)], w9)) eAlk 4 rfl ?_
            refine e_Pn.callA rfl (fun nq dq => l_355 (w := w9) (mRw_fr j6 hR) (mm := nm) (by omega) (by omega) (by omega) (fun m g1 g2 => by rw [j6 342 m (by unfold mRsQ; omega), j6 343 m (by unfold mRsQ; omega), j6 341 m (by unfold mRsQ; omega)]; exact hB m g1 g2) (by omega)) (fun r45 w46 h47 => ?_)
            obtain ⟨z48, rfl, rfl, z48q⟩ := h47
            replace z48q := rsT j6 z48q
            have z48r : -1 ≤ z48 := by rcases z48q with ⟨g, -⟩ | ⟨g, -⟩ <;> omega
            replace z48q := (show Hid _ from z48q)
            show e_Pn 20 elay ecode eI nn3 d 356 (38, (3, (0, 0)) :: (2, (0, w 341 y1)) :: (0, (1, 275)) :: (1, (0, y1)) :: List.filter (e_flt 0 3) (List.filter (e_flt 0 2) tl4), [(0, z48)], w9) _
            refine e_Pn.if1 eAlk rfl (fun h49 => ?_) (fun h49 => ?_)
            · replace h49 : (z48 : Int) ≥ 0 := h49
              show e_Pn 20 elay ecode eI nn3 d 356 (51, (3, (0, 0)) :: (2, (0, w 341 y1)) :: (0, (1, 275)) :: (1, (0, y1)) :: List.filter (e_flt 0 3) (List.filter (e_flt 0 2) tl4), [], w9) _
              refine e_Pn.run (t' := (87, (3, (0, 4)) :: (2, (0, w 341 y1)) :: (0, (1, 275)) :: (1, (0, y1)) :: List.filter (e_flt 0 3) (List.filter (e_flt 0 3) (List.filter (e_flt 0 2) tl4)), [(0, 4)], w9)) eAlk 4 rfl ?_
              refine e_Pn.if1 eAlk rfl (fun h50 => ?_) (fun h50 => ?_)
              · replace h50 : (4 : Int) ≠ 0 := h50
                show e_Pn 20 elay ecode eI nn3 d 356 (107, (3, (0, 4)) :: (2, (0, w 341 y1)) :: (0, (1, 275)) :: (1, (0, y1)) :: List.filter (e_flt 0 3) (List.filter (e_flt 0 3) (List.filter (e_flt 0 2) tl4)), [], w9) _
                refine e_Pn.run (t' := (108, (3, (0, 4)) :: (2, (0, w 341 y1)) :: (0, (1, 275)) :: (1, (0, y1)) :: List.filter (e_flt 0 3) (List.filter (e_flt 0 3) (List.filter (e_flt 0 2) tl4)), [(0, 4)], w9)) eAlk 1 rfl ?_
                refine e_Pn.if1 eAlk rfl (fun h51 => ?_) (fun h51 => ?_)
                · replace h51 : (4 : Int) ≠ 0 := h51
                  show e_Pn 20 elay ecode eI nn3 d 356 (198, (3, (0, 4)) :: (2, (0, w 341 y1)) :: (0, (1, 275)) :: (1, (0, y1)) :: List.filter (e_flt 0 3) (List.filter (e_flt 0 3) (List.filter (e_flt 0 2) tl4)), [], w9) _
                  have hb : bdM w nm y1 := bdM.a (by omega) (by omega) (by decide) (show tldQ _ _ _ _ _ from z48q) (by omega)
                  refine e_Pn.run (t' := (199, (3, (0, 4)) :: (2, (0, w 341 y1)) :: (0, (1, 275)) :: (1, (0, y1)) :: List.filter (e_flt 0 3) (List.filter (e_flt 0 3) (List.filter (e_flt 0 2) tl4)), [(0, 4)], w9)) eAlk 1 rfl ?_
                  refine e_Pn.if1 eAlk rfl (fun h52 => ?_) (fun h52 => ?_)
                  · replace h52 : (4 : Int) = 0 := h52
                    exfalso; omega
                  · replace h52 : (4 : Int) ≠ 0 := by have q : ¬ ((4 : Int) = 0) := h52; omega
                    show e_Pn 20 elay ecode eI nn3 d 356 (202, (3, (0, 4)) :: (2, (0, w 341 y1)) :: (0, (1, 275)) :: (1, (0, y1)) :: List.filter (e_flt 0 3) (List.filter (e_flt 0 3) (List.filter (e_flt 0 2) tl4)), [], w9) _
                    refine e_Pn.run (t' := (204, (3, (0, 4)) :: (2, (0, w 341 y1)) :: (0, (1, 275)) :: (1, (0, y1)) :: List.filter (e_flt 0 3) (List.filter (e_flt 0 3) (List.filter (e_flt 0 2) tl4)), [(0, 4), (1, 275)], w9)) eAlk 2 rfl ?_
                    refine e_Pn.putf eAlk rfl rfl ?_
                    generalize hw53 : e_up w9 275 88 4 = w53
                    refine e_Pn.run (t' := (209, (3, (0, 4)) :: (2, (0, w 341 y1)) :: (0, (1, 275)) :: (1, (0, y1)) :: List.filter (e_flt 0 3) (List.filter (e_flt 0 3) (List.filter (e_flt 0 2) tl4)), [(1, 275), (1, 275)], w53)) eAlk 2 rfl ?_
                    refine e_Pn.getr (z := 342) eAlk rfl rfl (((e_fr.up j6 hw53 (by unfold mRsQ; omega)) 275 91 (by unfold mRsQ; omega)).trans (hR (91, 342) (by decide))) (by omega) ?_
                    refine e_Pn.run (t' := (213, (3, (0, 4)) :: (2, (0, w 341 y1)) :: (0, (1, 275)) :: (1, (0, y1)) :: List.filter (e_flt 0 3) (List.filter (e_flt 0 3) (List.filter (e_flt 0 2) tl4)), [(0, y1), (1, 342), (1, 275)], w53)) eAlk 1 rfl ?_
                    refine e_Pn.ald (z := w 342 y1) eAlk rfl (by rw [← hw53]; exact (e_up_ne _ _ (Or.inl (by omega))).trans (j6 342 y1 (by unfold mRsQ; omega))) (fun b54 b55 => ?_)
                    refine e_Pn.putf eAlk rfl rfl ?_
                    generalize hw56 : e_up w53 275 89 (w 342 y1) = w56
                    refine e_Pn.inc (z := y1 + 1) eAlk rfl rfl (by omega) (by omega) ?_
                    show e_Pn 20 elay ecode eI nn3 d 356 (220, (1, (0, y1 + 1)) :: (3, (0, 4)) :: (2, (0, w 341 y1)) :: (0, (1, 275)) :: List.filter (e_flt 0 1) (List.filter (e_flt 0 3) (List.filter (e_flt 0 3) (List.filter (e_flt 0 2) tl4))), [], w56) _
                    refine e_Pn.run (t' := (2, (1, (0, y1 + 1)) :: (3, (0, 4)) :: (2, (0, w 341 y1)) :: (0, (1, 275)) :: List.filter (e_flt 0 1) (List.filter (e_flt 0 3) (List.filter (e_flt 0 3) (List.filter (e_flt 0 2) tl4))), [], w56)) eAlk 1 rfl ?_
                    exact e_Pn.ord eAlk [0, 1] rfl rfl ((ih2 (by omega) _ (y1 + 1) w56 ⟨(by omega), (e_fr.up (e_fr.up j6 hw53 (by unfold mRsQ; omega)) hw56 (by unfold mRsQ; omega)), (rsJ.bad (by omega) jo hb (by rw [(show w56 275 88 = 4 from (by rw [← hw56]; exact (e_up_ne _ _ (Or.inr (by omega))).trans (by rw [← hw53]; exact e_up_eq _ _ _ _)))]; decide) (show w56 275 89 = w 342 y1 from (by rw [← hw56]; exact e_up_eq _ _ _ _)))⟩))
                · replace h51 : (4 : Int) = 0 := by have q : ¬ ((4 : Int) ≠ 0) := h51; omega
                  exfalso; omega
              · replace h50 : (4 : Int) = 0 := by have q : ¬ ((4 : Int) ≠ 0) := h50; omega
                exfalso; omega
            · replace h49 : (z48 : Int) < 0 := by have q : ¬ ((z48 : Int) ≥ 0) := h49; omega
              show e_Pn 20 elay ecode eI nn3 d 356 (41, (3, (0, 0)) :: (2, (0, w 341 y1)) :: (0, (1, 275)) :: (1, (0, y1)) :: List.filter (e_flt 0 3) (List.filter (e_flt 0 2) tl4), [], w9) _
              refine e_Pn.run (t' := (45, (3, (0, 0)) :: (2, (0, w 341 y1)) :: (0, (1, 275)) :: (1, (0, y1)) :: List.filter (e_flt 0 3) (List.filter (e_flt 0 2) tl4), [(0, y1), (0, y1), (0, 1), (1, 275)], w9)) eAlk 4 rfl ?_
              refine e_Pn.callA rfl (fun nq dq => l_355 (w := w9) (mRw_fr j6 hR) (mm := nm) (by omega) (by omega) (by omega) (fun m g1 g2 => by rw [j6 342 m (by unfold mRsQ; omega), j6 343 m (by unfold mRsQ; omega), j6 341 m (by unfold mRsQ; omega)]; exact hB m g1 g2) (by omega)) (fun r57 w58 h59 => ?_)
              obtain ⟨z60, rfl, rfl, z60q⟩ := h59
              replace z60q := rsT j6 z60q
              have z60r : -1 ≤ z60 := by rcases z60q with ⟨g, -⟩ | ⟨g, -⟩ <;> omega
              replace z60q := (show Hid _ from z60q)
              show e_Pn 20 elay ecode eI nn3 d 356 (48, (3, (0, 0)) :: (2, (0, w 341 y1)) :: (0, (1, 275)) :: (1, (0, y1)) :: List.filter (e_flt 0 3) (List.filter (e_flt 0 2) tl4), [(0, z60)], w9) _
              refine e_Pn.if1 eAlk rfl (fun h61 => ?_) (fun h61 => ?_)
              · replace h61 : (z60 : Int) < 0 := h61
                show e_Pn 20 elay ecode eI nn3 d 356 (55, (3, (0, 0)) :: (2, (0, w 341 y1)) :: (0, (1, 275)) :: (1, (0, y1)) :: List.filter (e_flt 0 3) (List.filter (e_flt 0 2) tl4), [], w9) _
                refine e_Pn.run (t' := (56, (3, (0, 0)) :: (2, (0, w 341 y1)) :: (0, (1, 275)) :: (1, (0, y1)) :: List.filter (e_flt 0 3) (List.filter (e_flt 0 2) tl4), [(0, w 341 y1)], w9)) eAlk 1 rfl ?_
                refine e_Pn.if1 eAlk rfl (fun h62 => ?_) (fun h62 => ?_)
                · replace h62 : (w 341 y1 : Int) ≠ 0 := h62
                  show e_Pn 20 elay ecode eI nn3 d 356 (68, (3, (0, 0)) :: (2, (0, w 341 y1)) :: (0, (1, 275)) :: (1, (0, y1)) :: List.filter (e_flt 0 3) (List.filter (e_flt 0 2) tl4), [], w9) _
                  refine e_Pn.run (t' := (69, (3, (0, 0)) :: (2, (0, w 341 y1)) :: (0, (1, 275)) :: (1, (0, y1)) :: List.filter (e_flt 0 3) (List.filter (e_flt 0 2) tl4), [(1, 275)], w9)) eAlk 1 rfl ?_
                  refine e_Pn.getr (z := 338) eAlk rfl rfl ((j6 275 75 (by unfold mRsQ; omega)).trans hV.2.1) (by omega) ?_
                  refine e_Pn.run (t' := (73, (3, (0, 0)) :: (2, (0, w 341 y1)) :: (0, (1, 275)) :: (1, (0, y1)) :: List.filter (e_flt 0 3) (List.filter (e_flt 0 2) tl4), [(0, 4), (1, 338)], w9)) eAlk 1 rfl ?_
                  refine e_Pn.ald (z := w9 338 4) eAlk rfl rfl (fun b63 b64 => ?_)
                  refine e_Pn.run (t' := (76, (3, (0, 0)) :: (2, (0, w 341 y1)) :: (0, (1, 275)) :: (1, (0, y1)) :: List.filter (e_flt 0 3) (List.filter (e_flt 0 2) tl4), [(0, 32), (0, w9 338 4)], w9)) eAlk 1 rfl ?_
                  refine e_Pn.if2 eAlk rfl (fun h65 => ?_) (fun h65 => ?_)
                  · replace h65 : (w9 338 4 : Int) ≠ 32 := h65
                    show e_Pn 20 elay ecode eI nn3 d 356 (84, (3, (0, 0)) :: (2, (0, w 341 y1)) :: (0, (1, 275)) :: (1, (0, y1)) :: List.filter (e_flt 0 3) (List.filter (e_flt 0 2) tl4), [], w9) _
                    refine e_Pn.run (t' := (87, (3, (0, 0)) :: (2, (0, w 341 y1)) :: (0, (1, 275)) :: (1, (0, y1)) :: List.filter (e_flt 0 3) (List.filter (e_flt 0 3) (List.filter (e_flt 0 2) tl4)), [(0, 0)], w9)) eAlk 3 rfl ?_
                    refine e_Pn.if1 eAlk rfl (fun h66 => ?_) (fun h66 => ?_)
                    · replace h66 : (0 : Int) ≠ 0 := h66
                      exfalso; omega
                    · replace h66 : (0 : Int) = 0 := by have q : ¬ ((0 : Int) ≠ 0) := h66; omega
                      show e_Pn 20 elay ecode eI nn3 d 356 (90, (3, (0, 0)) :: (2, (0, w 341 y1)) :: (0, (1, 275)) :: (1, (0, y1)) :: List.filter (e_flt 0 3) (List.filter (e_flt 0 3) (List.filter (e_flt 0 2) tl4)), [], w9) _
                      refine e_Pn.run (t' := (91, (3, (0, 0)) :: (2, (0, w 341 y1)) :: (0, (1, 275)) :: (1, (0, y1)) :: List.filter (e_flt 0 3) (List.filter (e_flt 0 3) (List.filter (e_flt 0 2) tl4)), [(0, w 341 y1)], w9)) eAlk 1 rfl ?_
                      refine e_Pn.if1 eAlk rfl (fun h67 => ?_) (fun h67 => ?_)
                      · replace h67 : (w 341 y1 : Int) ≠ 0 := h67
                        show e_Pn 20 elay ecode eI nn3 d 356 (107, (3, (0, 0)) :: (2, (0, w 341 y1)) :: (0, (1, 275)) :: (1, (0, y1)) :: List.filter (e_flt 0 3) (List.filter (e_flt 0 3) (List.filter (e_flt 0 2) tl4)), [], w9) _
                        refine e_Pn.run (t' := (108, (3, (0, 0)) :: (2, (0, w 341 y1)) :: (0, (1, 275)) :: (1, (0, y1)) :: List.filter (e_flt 0 3) (List.filter (e_flt 0 3) (List.filter (e_flt 0 2) tl4)), [(0, 0)], w9)) eAlk 1 rfl ?_
                        refine e_Pn.if1 eAlk rfl (fun h68 => ?_) (fun h68 => ?_)
                        · replace h68 : (0 : Int) ≠ 0 := h68
                          exfalso; omega
                        · replace h68 : (0 : Int) = 0 := by have q : ¬ ((0 : Int) ≠ 0) := h68; omega
                          show e_Pn 20 elay ecode eI nn3 d 356 (111, (3, (0, 0)) :: (2, (0, w 341 y1)) :: (0, (1, 275)) :: (1, (0, y1)) :: List.filter (e_flt 0 3) (List.filter (e_flt 0 3) (List.filter (e_flt 0 2) tl4)), [], w9) _
                          refine e_Pn.run (t' := (112, (3, (0, 0)) :: (2, (0, w 341 y1)) :: (0, (1, 275)) :: (1, (0, y1)) :: List.filter (e_flt 0 3) (List.filter (e_flt 0 3) (List.filter (e_flt 0 2) tl4)), [(1, 275)], w9)) eAlk 1 rfl ?_
                          refine e_Pn.getr (z := 337) eAlk rfl rfl ((j6 275 74 (by unfold mRsQ; omega)).trans hV.2.2) (by omega) ?_
                          refine e_Pn.run (t' := (119, (3, (0, 0)) :: (2, (0, w 341 y1)) :: (0, (1, 275)) :: (1, (0, y1)) :: List.filter (e_flt 0 3) (List.filter (e_flt 0 3) (List.filter (e_flt 0 2) tl4)), [(1, 275), (0, 128), (1, 337)], w9)) eAlk 2 rfl ?_
                          refine e_Pn.getr (z := 338) eAlk rfl rfl ((j6 275 75 (by unfold mRsQ; omega)).trans hV.2.1) (by omega) ?_
                          refine e_Pn.run (t' := (123, (3, (0, 0)) :: (2, (0, w 341 y1)) :: (0, (1, 275)) :: (1, (0, y1)) :: List.filter (e_flt 0 3) (List.filter (e_flt 0 3) (List.filter (e_flt 0 2) tl4)), [(0, 4), (1, 338), (0, 128), (1, 337)], w9)) eAlk 1 rfl ?_
                          refine e_Pn.ald (z := w9 338 4) eAlk rfl rfl (fun b69 b70 => ?_)
                          refine e_Pn.add (z := w9 338 4 + 128) eAlk rfl (by omega) (by omega) ?_
                          refine e_Pn.run (t' := (126, (3, (0, 0)) :: (2, (0, w 341 y1)) :: (0, (1, 275)) :: (1, (0, y1)) :: List.filter (e_flt 0 3) (List.filter (e_flt 0 3) (List.filter (e_flt 0 2) tl4)), [(1, 275), (0, w9 338 4 + 128), (1, 337)], w9)) eAlk 1 rfl ?_
                          refine e_Pn.getr (z := 344) eAlk rfl rfl ((j6 275 93 (by unfold mRsQ; omega)).trans (hR (93, 344) (by decide))) (by omega) ?_
                          refine e_Pn.run (t' := (130, (3, (0, 0)) :: (2, (0, w 341 y1)) :: (0, (1, 275)) :: (1, (0, y1)) :: List.filter (e_flt 0 3) (List.filter (e_flt 0 3) (List.filter (e_flt 0 2) tl4)), [(0, y1), (1, 344), (0, w9 338 4 + 128), (1, 337)], w9)) eAlk 1 rfl ?_
                          refine e_Pn.ald (z := w 344 y1) eAlk rfl (j6 344 y1 (by unfold mRsQ; omega)) (fun b71 b72 => ?_)
                          refine e_Pn.ast eAlk rfl rfl rfl (fun b73 b74 => ?_)
                          generalize hw75 : e_up w9 337 (w9 338 4 + 128) (w 344 y1) = w75
                          refine e_Pn.run (t' := (133, (3, (0, 0)) :: (2, (0, w 341 y1)) :: (0, (1, 275)) :: (1, (0, y1)) :: List.filter (e_flt 0 3) (List.filter (e_flt 0 3) (List.filter (e_flt 0 2) tl4)), [(1, 275)], w75)) eAlk 1 rfl ?_
                          refine e_Pn.getr (z := 338) eAlk rfl rfl (((e_fr.up j6 hw75 (by unfold mRsQ; omega)) 275 75 (by unfold mRsQ; omega)).trans hV.2.1) (by omega) ?_
                          refine e_Pn.run (t' := (138, (3, (0, 0)) :: (2, (0, w 341 y1)) :: (0, (1, 275)) :: (1, (0, y1)) :: List.filter (e_flt 0 3) (List.filter (e_flt 0 3) (List.filter (e_flt 0 2) tl4)), [(0, 4), (1, 338), (0, 4), (1, 338)], w75)) eAlk 2 rfl ?_
                          refine e_Pn.ald (z := w9 338 4) eAlk rfl (by rw [← hw75]; exact (e_up_ne _ _ (Or.inl (by omega))).trans rfl) (fun b76 b77 => ?_)
                          refine e_Pn.run (t' := (140, (3, (0, 0)) :: (2, (0, w 341 y1)) :: (0, (1, 275)) :: (1, (0, y1)) :: List.filter (e_flt 0 3) (List.filter (e_flt 0 3) (List.filter (e_flt 0 2) tl4)), [(0, 1), (0, w9 338 4), (0, 4), (1, 338)], w75)) eAlk 1 rfl ?_
                          refine e_Pn.add (z := w9 338 4 + 1) eAlk rfl (by omega) (by omega) ?_
                          refine e_Pn.ast eAlk rfl rfl rfl (fun b78 b79 => ?_)
                          generalize hw80 : e_up w75 338 4 (w9 338 4 + 1) = w80
                          refine e_Pn.run (t' := (198, (3, (0, 0)) :: (2, (0, w 341 y1)) :: (0, (1, 275)) :: (1, (0, y1)) :: List.filter (e_flt 0 3) (List.filter (e_flt 0 3) (List.filter (e_flt 0 2) tl4)), [], w80)) eAlk 1 rfl ?_
                          have hb : ¬ bdM w nm y1 := bdM.n1 (by omega) (show tldQ _ _ _ _ _ from z48q) (by omega) (show tldQ _ _ _ _ _ from z60q) (by omega) (by rcases (by omega : w 341 y1 = 0 ∨ w 341 y1 = 1) with e | e <;> rw [e] <;> omega)
                          refine e_Pn.run (t' := (199, (3, (0, 0)) :: (2, (0, w 341 y1)) :: (0, (1, 275)) :: (1, (0, y1)) :: List.filter (e_flt 0 3) (List.filter (e_flt 0 3) (List.filter (e_flt 0 2) tl4)), [(0, 0)], w80)) eAlk 1 rfl ?_
                          refine e_Pn.if1 eAlk rfl (fun h81 => ?_) (fun h81 => ?_)
                          · replace h81 : (0 : Int) = 0 := h81
                            show e_Pn 20 elay ecode eI nn3 d 356 (217, (3, (0, 0)) :: (2, (0, w 341 y1)) :: (0, (1, 275)) :: (1, (0, y1)) :: List.filter (e_flt 0 3) (List.filter (e_flt 0 3) (List.filter (e_flt 0 2) tl4)), [], w80) _
                            refine e_Pn.inc (z := y1 + 1) eAlk rfl rfl (by omega) (by omega) ?_
                            show e_Pn 20 elay ecode eI nn3 d 356 (220, (1, (0, y1 + 1)) :: (3, (0, 0)) :: (2, (0, w 341 y1)) :: (0, (1, 275)) :: List.filter (e_flt 0 1) (List.filter (e_flt 0 3) (List.filter (e_flt 0 3) (List.filter (e_flt 0 2) tl4))), [], w80) _
                            refine e_Pn.run (t' := (2, (1, (0, y1 + 1)) :: (3, (0, 0)) :: (2, (0, w 341 y1)) :: (0, (1, 275)) :: List.filter (e_flt 0 1) (List.filter (e_flt 0 3) (List.filter (e_flt 0 3) (List.filter (e_flt 0 2) tl4))), [], w80)) eAlk 1 rfl ?_
                            exact e_Pn.ord eAlk [0, 1] rfl rfl ((ih2 (by omega) _ (y1 + 1) w80 ⟨(by omega), (e_fr.up (e_fr.up j6 hw75 (by unfold mRsQ; omega)) hw80 (by unfold mRsQ; omega)), (rsJ.go (by omega) jo hb (by rw [(show w80 275 88 = w9 275 88 from (by rw [← hw80]; exact (e_up_ne _ _ (Or.inl (by omega))).trans (by rw [← hw75]; exact (e_up_ne _ _ (Or.inl (by omega))).trans rfl)))]; omega) ⟨(by rw [(show w80 339 4 = w9 339 4 from (by rw [← hw80]; exact (e_up_ne _ _ (Or.inl (by omega))).trans (by rw [← hw75]; exact (e_up_ne _ _ (Or.inl (by omega))).trans rfl))), cntK_next w 0 (by omega)]; first | (rw [if_pos (by omega)]; omega) | (rw [if_neg (by omega)]; omega)), (by rw [(show w80 338 4 = w9 338 4 + 1 from (by rw [← hw80]; exact e_up_eq _ _ _ _)), cntK_next w 1 (by omega)]; first | (rw [if_pos (by omega)]; omega) | (rw [if_neg (by omega)]; omega)), (by rw [(show w80 339 4 = w9 339 4 from (by rw [← hw80]; exact (e_up_ne _ _ (Or.inl (by omega))).trans (by rw [← hw75]; exact (e_up_ne _ _ (Or.inl (by omega))).trans rfl)))]; omega), (by rw [(show w80 338 4 = w9 338 4 + 1 from (by rw [← hw80]; exact e_up_eq _ _ _ _))]; omega)⟩)⟩))
                          · replace h81 : (0 : Int) ≠ 0 := by have q : ¬ ((0 : Int) = 0) := h81; omega
                            exfalso; omega
                      · replace h67 : (w 341 y1 : Int) = 0 := by have q : ¬ ((w 341 y1 : Int) ≠ 0) := h67; omega
                        exfalso; omega
                  · replace h65 : (w9 338 4 : Int) = 32 := by have q : ¬ ((w9 338 4 : Int) ≠ 32) := h65; omega
                    show e_Pn 20 elay ecode eI nn3 d 356 (79, (3, (0, 0)) :: (2, (0, w 341 y1)) :: (0, (1, 275)) :: (1, (0, y1)) :: List.filter (e_flt 0 3) (List.filter (e_flt 0 2) tl4), [], w9) _
                    refine e_Pn.run (t' := (87, (3, (0, 7)) :: (2, (0, w 341 y1)) :: (0, (1, 275)) :: (1, (0, y1)) :: List.filter (e_flt 0 3) (List.filter (e_flt 0 3) (List.filter (e_flt 0 2) tl4)), [(0, 7)], w9)) eAlk 4 rfl ?_
                    refine e_Pn.if1 eAlk rfl (fun h82 => ?_) (fun h82 => ?_)
                    · replace h82 : (7 : Int) ≠ 0 := h82
                      show e_Pn 20 elay ecode eI nn3 d 356 (107, (3, (0, 7)) :: (2, (0, w 341 y1)) :: (0, (1, 275)) :: (1, (0, y1)) :: List.filter (e_flt 0 3) (List.filter (e_flt 0 3) (List.filter (e_flt 0 2) tl4)), [], w9) _
                      refine e_Pn.run (t' := (108, (3, (0, 7)) :: (2, (0, w 341 y1)) :: (0, (1, 275)) :: (1, (0, y1)) :: List.filter (e_flt 0 3) (List.filter (e_flt 0 3) (List.filter (e_flt 0 2) tl4)), [(0, 7)], w9)) eAlk 1 rfl ?_
                      refine e_Pn.if1 eAlk rfl (fun h83 => ?_) (fun h83 => ?_)
                      · replace h83 : (7 : Int) ≠ 0 := h83
                        show e_Pn 20 elay ecode eI nn3 d 356 (198, (3, (0, 7)) :: (2, (0, w 341 y1)) :: (0, (1, 275)) :: (1, (0, y1)) :: List.filter (e_flt 0 3) (List.filter (e_flt 0 3) (List.filter (e_flt 0 2) tl4)), [], w9) _
                        have hb : bdM w nm y1 := bdM.c (by omega) (by omega) (by rcases (by omega : w 341 y1 = 0 ∨ w 341 y1 = 1) with e | e <;> rw [e] <;> omega)
                        refine e_Pn.run (t' := (199, (3, (0, 7)) :: (2, (0, w 341 y1)) :: (0, (1, 275)) :: (1, (0, y1)) :: List.filter (e_flt 0 3) (List.filter (e_flt 0 3) (List.filter (e_flt 0 2) tl4)), [(0, 7)], w9)) eAlk 1 rfl ?_
                        refine e_Pn.if1 eAlk rfl (fun h84 => ?_) (fun h84 => ?_)
                        · replace h84 : (7 : Int) = 0 := h84
                          exfalso; omega
                        · replace h84 : (7 : Int) ≠ 0 := by have q : ¬ ((7 : Int) = 0) := h84; omega
                          show e_Pn 20 elay ecode eI nn3 d 356 (202, (3, (0, 7)) :: (2, (0, w 341 y1)) :: (0, (1, 275)) :: (1, (0, y1)) :: List.filter (e_flt 0 3) (List.filter (e_flt 0 3) (List.filter (e_flt 0 2) tl4)), [], w9) _
                          refine e_Pn.run (t' := (204, (3, (0, 7)) :: (2, (0, w 341 y1)) :: (0, (1, 275)) :: (1, (0, y1)) :: List.filter (e_flt 0 3) (List.filter (e_flt 0 3) (List.filter (e_flt 0 2) tl4)), [(0, 7), (1, 275)], w9)) eAlk 2 rfl ?_
                          refine e_Pn.putf eAlk rfl rfl ?_
                          generalize hw85 : e_up w9 275 88 7 = w85
                          refine e_Pn.run (t' := (209, (3, (0, 7)) :: (2, (0, w 341 y1)) :: (0, (1, 275)) :: (1, (0, y1)) :: List.filter (e_flt 0 3) (List.filter (e_flt 0 3) (List.filter (e_flt 0 2) tl4)), [(1, 275), (1, 275)], w85)) eAlk 2 rfl ?_
                          refine e_Pn.getr (z := 342) eAlk rfl rfl (((e_fr.up j6 hw85 (by unfold mRsQ; omega)) 275 91 (by unfold mRsQ; omega)).trans (hR (91, 342) (by decide))) (by omega) ?_
                          refine e_Pn.run (t' := (213, (3, (0, 7)) :: (2, (0, w 341 y1)) :: (0, (1, 275)) :: (1, (0, y1)) :: List.filter (e_flt 0 3) (List.filter (e_flt 0 3) (List.filter (e_flt 0 2) tl4)), [(0, y1), (1, 342), (1, 275)], w85)) eAlk 1 rfl ?_
                          refine e_Pn.ald (z := w 342 y1) eAlk rfl (by rw [← hw85]; exact (e_up_ne _ _ (Or.inl (by omega))).trans (j6 342 y1 (by unfold mRsQ; omega))) (fun b86 b87 => ?_)
                          refine e_Pn.putf eAlk rfl rfl ?_
                          generalize hw88 : e_up w85 275 89 (w 342 y1) = w88
                          refine e_Pn.inc (z := y1 + 1) eAlk rfl rfl (by omega) (by omega) ?_
                          show e_Pn 20 elay ecode eI nn3 d 356 (220, (1, (0, y1 + 1)) :: (3, (0, 7)) :: (2, (0, w 341 y1)) :: (0, (1, 275)) :: List.filter (e_flt 0 1) (List.filter (e_flt 0 3) (List.filter (e_flt 0 3) (List.filter (e_flt 0 2) tl4))), [], w88) _
                          refine e_Pn.run (t' := (2, (1, (0, y1 + 1)) :: (3, (0, 7)) :: (2, (0, w 341 y1)) :: (0, (1, 275)) :: List.filter (e_flt 0 1) (List.filter (e_flt 0 3) (List.filter (e_flt 0 3) (List.filter (e_flt 0 2) tl4))), [], w88)) eAlk 1 rfl ?_
                          exact e_Pn.ord eAlk [0, 1] rfl rfl ((ih2 (by omega) _ (y1 + 1) w88 ⟨(by omega), (e_fr.up (e_fr.up j6 hw85 (by unfold mRsQ; omega)) hw88 (by unfold mRsQ; omega)), (rsJ.bad (by omega) jo hb (by rw [(show w88 275 88 = 7 from (by rw [← hw88]; exact (e_up_ne _ _ (Or.inr (by omega))).trans (by rw [← hw85]; exact e_up_eq _ _ _ _)))]; decide) (show w88 275 89 = w 342 y1 from (by rw [← hw88]; exact e_up_eq _ _ _ _)))⟩))
                      · replace h83 : (7 : Int) = 0 := by have q : ¬ ((7 : Int) ≠ 0) := h83; omega
                        exfalso; omega
                    · replace h82 : (7 : Int) = 0 := by have q : ¬ ((7 : Int) ≠ 0) := h82; omega
                      exfalso; omega
                · replace h62 : (w 341 y1 : Int) = 0 := by have q : ¬ ((w 341 y1 : Int) ≠ 0) := h62; omega
                  show e_Pn 20 elay ecode eI nn3 d 356 (59, (3, (0, 0)) :: (2, (0, w 341 y1)) :: (0, (1, 275)) :: (1, (0, y1)) :: List.filter (e_flt 0 3) (List.filter (e_flt 0 2) tl4), [], w9) _
                  refine e_Pn.run (t' := (60, (3, (0, 0)) :: (2, (0, w 341 y1)) :: (0, (1, 275)) :: (1, (0, y1)) :: List.filter (e_flt 0 3) (List.filter (e_flt 0 2) tl4), [(1, 275)], w9)) eAlk 1 rfl ?_
                  refine e_Pn.getr (z := 339) eAlk rfl rfl ((j6 275 76 (by unfold mRsQ; omega)).trans hV.1) (by omega) ?_
                  refine e_Pn.run (t' := (64, (3, (0, 0)) :: (2, (0, w 341 y1)) :: (0, (1, 275)) :: (1, (0, y1)) :: List.filter (e_flt 0 3) (List.filter (e_flt 0 2) tl4), [(0, 4), (1, 339)], w9)) eAlk 1 rfl ?_
                  refine e_Pn.ald (z := w9 339 4) eAlk rfl rfl (fun b89 b90 => ?_)
                  refine e_Pn.run (t' := (76, (3, (0, 0)) :: (2, (0, w 341 y1)) :: (0, (1, 275)) :: (1, (0, y1)) :: List.filter (e_flt 0 3) (List.filter (e_flt 0 2) tl4), [(0, 32), (0, w9 339 4)], w9)) eAlk 2 rfl ?_
                  refine e_Pn.if2 eAlk rfl (fun h91 => ?_) (fun h91 => ?_)
                  · replace h91 : (w9 339 4 : Int) ≠ 32 := h91
                    show e_Pn 20 elay ecode eI nn3 d 356 (84, (3, (0, 0)) :: (2, (0, w 341 y1)) :: (0, (1, 275)) :: (1, (0, y1)) :: List.filter (e_flt 0 3) (List.filter (e_flt 0 2) tl4), [], w9) _
                    refine e_Pn.run (t' := (87, (3, (0, 0)) :: (2, (0, w 341 y1)) :: (0, (1, 275)) :: (1, (0, y1)) :: List.filter (e_flt 0 3) (List.filter (e_flt 0 3) (List.filter (e_flt 0 2) tl4)), [(0, 0)], w9)) eAlk 3 rfl ?_
                    refine e_Pn.if1 eAlk rfl (fun h92 => ?_) (fun h92 => ?_)
                    · replace h92 : (0 : Int) ≠ 0 := h92
                      exfalso; omega
                    · replace h92 : (0 : Int) = 0 := by have q : ¬ ((0 : Int) ≠ 0) := h92; omega
                      show e_Pn 20 elay ecode eI nn3 d 356 (90, (3, (0, 0)) :: (2, (0, w 341 y1)) :: (0, (1, 275)) :: (1, (0, y1)) :: List.filter (e_flt 0 3) (List.filter (e_flt 0 3) (List.filter (e_flt 0 2) tl4)), [], w9) _
                      refine e_Pn.run (t' := (91, (3, (0, 0)) :: (2, (0, w 341 y1)) :: (0, (1, 275)) :: (1, (0, y1)) :: List.filter (e_flt 0 3) (List.filter (e_flt 0 3) (List.filter (e_flt 0 2) tl4)), [(0, w 341 y1)], w9)) eAlk 1 rfl ?_
                      refine e_Pn.if1 eAlk rfl (fun h93 => ?_) (fun h93 => ?_)
                      · replace h93 : (w 341 y1 : Int) ≠ 0 := h93
                        exfalso; omega
                      · replace h93 : (w 341 y1 : Int) = 0 := by have q : ¬ ((w 341 y1 : Int) ≠ 0) := h93; omega
                        show e_Pn 20 elay ecode eI nn3 d 356 (94, (3, (0, 0)) :: (2, (0, w 341 y1)) :: (0, (1, 275)) :: (1, (0, y1)) :: List.filter (e_flt 0 3) (List.filter (e_flt 0 3) (List.filter (e_flt 0 2) tl4)), [], w9) _
                        refine e_Pn.run (t' := (95, (3, (0, 0)) :: (2, (0, w 341 y1)) :: (0, (1, 275)) :: (1, (0, y1)) :: List.filter (e_flt 0 3) (List.filter (e_flt 0 3) (List.filter (e_flt 0 2) tl4)), [(1, 275)], w9)) eAlk 1 rfl ?_
                        refine e_Pn.getr (z := 339) eAlk rfl rfl ((j6 275 76 (by unfold mRsQ; omega)).trans hV.1) (by omega) ?_
                        refine e_Pn.run (t' := (100, (3, (0, 0)) :: (2, (0, w 341 y1)) :: (0, (1, 275)) :: (1, (0, y1)) :: List.filter (e_flt 0 3) (List.filter (e_flt 0 3) (List.filter (e_flt 0 2) tl4)), [(0, 4), (1, 339), (0, 4), (1, 339)], w9)) eAlk 2 rfl ?_
                        refine e_Pn.ald (z := w9 339 4) eAlk rfl rfl (fun b94 b95 => ?_)
                        refine e_Pn.run (t' := (102, (3, (0, 0)) :: (2, (0, w 341 y1)) :: (0, (1, 275)) :: (1, (0, y1)) :: List.filter (e_flt 0 3) (List.filter (e_flt 0 3) (List.filter (e_flt 0 2) tl4)), [(0, 1), (0, w9 339 4), (0, 4), (1, 339)], w9)) eAlk 1 rfl ?_
                        refine e_Pn.add (z := w9 339 4 + 1) eAlk rfl (by omega) (by omega) ?_
                        refine e_Pn.ast eAlk rfl rfl rfl (fun b96 b97 => ?_)
                        generalize hw98 : e_up w9 339 4 (w9 339 4 + 1) = w98
                        refine e_Pn.run (t' := (198, (3, (0, 0)) :: (2, (0, w 341 y1)) :: (0, (1, 275)) :: (1, (0, y1)) :: List.filter (e_flt 0 3) (List.filter (e_flt 0 3) (List.filter (e_flt 0 2) tl4)), [], w98)) eAlk 1 rfl ?_
                        have hb : ¬ bdM w nm y1 := bdM.n1 (by omega) (show tldQ _ _ _ _ _ from z48q) (by omega) (show tldQ _ _ _ _ _ from z60q) (by omega) (by rcases (by omega : w 341 y1 = 0 ∨ w 341 y1 = 1) with e | e <;> rw [e] <;> omega)
                        refine e_Pn.run (t' := (199, (3, (0, 0)) :: (2, (0, w 341 y1)) :: (0, (1, 275)) :: (1, (0, y1)) :: List.filter (e_flt 0 3) (List.filter (e_flt 0 3) (List.filter (e_flt 0 2) tl4)), [(0, 0)], w98)) eAlk 1 rfl ?_
                        refine e_Pn.if1 eAlk rfl (fun h99 => ?_) (fun h99 => ?_)
                        · replace h99 : (0 : Int) = 0 := h99
                          show e_Pn 20 elay ecode eI nn3 d 356 (217, (3, (0, 0)) :: (2, (0, w 341 y1)) :: (0, (1, 275)) :: (1, (0, y1)) :: List.filter (e_flt 0 3) (List.filter (e_flt 0 3) (List.filter (e_flt 0 2) tl4)), [], w98) _
                          refine e_Pn.inc (z := y1 + 1) eAlk rfl rfl (by omega) (by omega) ?_
                          show e_Pn 20 elay ecode eI nn3 d 356 (220, (1, (0, y1 + 1)) :: (3, (0, 0)) :: (2, (0, w 341 y1)) :: (0, (1, 275)) :: List.filter (e_flt 0 1) (List.filter (e_flt 0 3) (List.filter (e_flt 0 3) (List.filter (e_flt 0 2) tl4))), [], w98) _
                          refine e_Pn.run (t' := (2, (1, (0, y1 + 1)) :: (3, (0, 0)) :: (2, (0, w 341 y1)) :: (0, (1, 275)) :: List.filter (e_flt 0 1) (List.filter (e_flt 0 3) (List.filter (e_flt 0 3) (List.filter (e_flt 0 2) tl4))), [], w98)) eAlk 1 rfl ?_
                          exact e_Pn.ord eAlk [0, 1] rfl rfl ((ih2 (by omega) _ (y1 + 1) w98 ⟨(by omega), (e_fr.up j6 hw98 (by unfold mRsQ; omega)), (rsJ.go (by omega) jo hb (by rw [(show w98 275 88 = w9 275 88 from (by rw [← hw98]; exact (e_up_ne _ _ (Or.inl (by omega))).trans rfl))]; omega) ⟨(by rw [(show w98 339 4 = w9 339 4 + 1 from (by rw [← hw98]; exact e_up_eq _ _ _ _)), cntK_next w 0 (by omega)]; first | (rw [if_pos (by omega)]; omega) | (rw [if_neg (by omega)]; omega)), (by rw [(show w98 338 4 = w9 338 4 from (by rw [← hw98]; exact (e_up_ne _ _ (Or.inl (by omega))).trans rfl)), cntK_next w 1 (by omega)]; first | (rw [if_pos (by omega)]; omega) | (rw [if_neg (by omega)]; omega)), (by rw [(show w98 339 4 = w9 339 4 + 1 from (by rw [← hw98]; exact e_up_eq _ _ _ _))]; omega), (by rw [(show w98 338 4 = w9 338 4 from (by rw [← hw98]; exact (e_up_ne _ _ (Or.inl (by omega))).trans rfl))]; omega)⟩)⟩))
                        · replace h99 : (0 : Int) ≠ 0 := by have q : ¬ ((0 : Int) = 0) := h99; omega
                          exfalso; omega
                  · replace h91 : (w9 339 4 : Int) = 32 := by have q : ¬ ((w9 339 4 : Int) ≠ 32) := h91; omega
                    show e_Pn 20 elay ecode eI nn3 d 356 (79, (3, (0, 0)) :: (2, (0, w 341 y1)) :: (0, (1, 275)) :: (1, (0, y1)) :: List.filter (e_flt 0 3) (List.filter (e_flt 0 2) tl4), [], w9) _
                    refine e_Pn.run (t' := (87, (3, (0, 7)) :: (2, (0, w 341 y1)) :: (0, (1, 275)) :: (1, (0, y1)) :: List.filter (e_flt 0 3) (List.filter (e_flt 0 3) (List.filter (e_flt 0 2) tl4)), [(0, 7)], w9)) eAlk 4 rfl ?_
                    refine e_Pn.if1 eAlk rfl (fun h100 => ?_) (fun h100 => ?_)
                    · replace h100 : (7 : Int) ≠ 0 := h100
                      show e_Pn 20 elay ecode eI nn3 d 356 (107, (3, (0, 7)) :: (2, (0, w 341 y1)) :: (0, (1, 275)) :: (1, (0, y1)) :: List.filter (e_flt 0 3) (List.filter (e_flt 0 3) (List.filter (e_flt 0 2) tl4)), [], w9) _
                      refine e_Pn.run (t' := (108, (3, (0, 7)) :: (2, (0, w 341 y1)) :: (0, (1, 275)) :: (1, (0, y1)) :: List.filter (e_flt 0 3) (List.filter (e_flt 0 3) (List.filter (e_flt 0 2) tl4)), [(0, 7)], w9)) eAlk 1 rfl ?_
                      refine e_Pn.if1 eAlk rfl (fun h101 => ?_) (fun h101 => ?_)
                      · replace h101 : (7 : Int) ≠ 0 := h101
                        show e_Pn 20 elay ecode eI nn3 d 356 (198, (3, (0, 7)) :: (2, (0, w 341 y1)) :: (0, (1, 275)) :: (1, (0, y1)) :: List.filter (e_flt 0 3) (List.filter (e_flt 0 3) (List.filter (e_flt 0 2) tl4)), [], w9) _
                        have hb : bdM w nm y1 := bdM.c (by omega) (by omega) (by rcases (by omega : w 341 y1 = 0 ∨ w 341 y1 = 1) with e | e <;> rw [e] <;> omega)
                        refine e_Pn.run (t' := (199, (3, (0, 7)) :: (2, (0, w 341 y1)) :: (0, (1, 275)) :: (1, (0, y1)) :: List.filter (e_flt 0 3) (List.filter (e_flt 0 3) (List.filter (e_flt 0 2) tl4)), [(0, 7)], w9)) eAlk 1 rfl ?_
                        refine e_Pn.if1 eAlk rfl (fun h102 => ?_) (fun h102 => ?_)
                        · replace h102 : (7 : Int) = 0 := h102
                          exfalso; omega
                        · replace h102 : (7 : Int) ≠ 0 := by have q : ¬ ((7 : Int) = 0) := h102; omega
                          show e_Pn 20 elay ecode eI nn3 d 356 (202, (3, (0, 7)) :: (2, (0, w 341 y1)) :: (0, (1, 275)) :: (1, (0, y1)) :: List.filter (e_flt 0 3) (List.filter (e_flt 0 3) (List.filter (e_flt 0 2) tl4)), [], w9) _
                          refine e_Pn.run (t' := (204, (3, (0, 7)) :: (2, (0, w 341 y1)) :: (0, (1, 275)) :: (1, (0, y1)) :: List.filter (e_flt 0 3) (List.filter (e_flt 0 3) (List.filter (e_flt 0 2) tl4)), [(0, 7), (1, 275)], w9)) eAlk 2 rfl ?_
                          refine e_Pn.putf eAlk rfl rfl ?_
                          generalize hw103 : e_up w9 275 88 7 = w103
                          refine e_Pn.run (t' := (209, (3, (0, 7)) :: (2, (0, w 341 y1)) :: (0, (1, 275)) :: (1, (0, y1)) :: List.filter (e_flt 0 3) (List.filter (e_flt 0 3) (List.filter (e_flt 0 2) tl4)), [(1, 275), (1, 275)], w103)) eAlk 2 rfl ?_
                          refine e_Pn.getr (z := 342) eAlk rfl rfl (((e_fr.up j6 hw103 (by unfold mRsQ; omega)) 275 91 (by unfold mRsQ; omega)).trans (hR (91, 342) (by decide))) (by omega) ?_
                          refine e_Pn.run (t' := (213, (3, (0, 7)) :: (2, (0, w 341 y1)) :: (0, (1, 275)) :: (1, (0, y1)) :: List.filter (e_flt 0 3) (List.filter (e_flt 0 3) (List.filter (e_flt 0 2) tl4)), [(0, y1), (1, 342), (1, 275)], w103)) eAlk 1 rfl ?_
                          refine e_Pn.ald (z := w 342 y1) eAlk rfl (by rw [← hw103]; exact (e_up_ne _ _ (Or.inl (by omega))).trans (j6 342 y1 (by unfold mRsQ; omega))) (fun b104 b105 => ?_)
                          refine e_Pn.putf eAlk rfl rfl ?_
                          generalize hw106 : e_up w103 275 89 (w 342 y1) = w106
                          refine e_Pn.inc (z := y1 + 1) eAlk rfl rfl (by omega) (by omega) ?_
                          show e_Pn 20 elay ecode eI nn3 d 356 (220, (1, (0, y1 + 1)) :: (3, (0, 7)) :: (2, (0, w 341 y1)) :: (0, (1, 275)) :: List.filter (e_flt 0 1) (List.filter (e_flt 0 3) (List.filter (e_flt 0 3) (List.filter (e_flt 0 2) tl4))), [], w106) _
                          refine e_Pn.run (t' := (2, (1, (0, y1 + 1)) :: (3, (0, 7)) :: (2, (0, w 341 y1)) :: (0, (1, 275)) :: List.filter (e_flt 0 1) (List.filter (e_flt 0 3) (List.filter (e_flt 0 3) (List.filter (e_flt 0 2) tl4))), [], w106)) eAlk 1 rfl ?_
                          exact e_Pn.ord eAlk [0, 1] rfl rfl ((ih2 (by omega) _ (y1 + 1) w106 ⟨(by omega), (e_fr.up (e_fr.up j6 hw103 (by unfold mRsQ; omega)) hw106 (by unfold mRsQ; omega)), (rsJ.bad (by omega) jo hb (by rw [(show w106 275 88 = 7 from (by rw [← hw106]; exact (e_up_ne _ _ (Or.inr (by omega))).trans (by rw [← hw103]; exact e_up_eq _ _ _ _)))]; decide) (show w106 275 89 = w 342 y1 from (by rw [← hw106]; exact e_up_eq _ _ _ _)))⟩))
                      · replace h101 : (7 : Int) = 0 := by have q : ¬ ((7 : Int) ≠ 0) := h101; omega
                        exfalso; omega
                    · replace h100 : (7 : Int) = 0 := by have q : ¬ ((7 : Int) ≠ 0) := h100; omega
                      exfalso; omega
              · replace h61 : (z60 : Int) ≥ 0 := by have q : ¬ ((z60 : Int) < 0) := h61; omega
                show e_Pn 20 elay ecode eI nn3 d 356 (51, (3, (0, 0)) :: (2, (0, w 341 y1)) :: (0, (1, 275)) :: (1, (0, y1)) :: List.filter (e_flt 0 3) (List.filter (e_flt 0 2) tl4), [], w9) _
                refine e_Pn.run (t' := (87, (3, (0, 4)) :: (2, (0, w 341 y1)) :: (0, (1, 275)) :: (1, (0, y1)) :: List.filter (e_flt 0 3) (List.filter (e_flt 0 3) (List.filter (e_flt 0 2) tl4)), [(0, 4)], w9)) eAlk 4 rfl ?_
                refine e_Pn.if1 eAlk rfl (fun h107 => ?_) (fun h107 => ?_)
                · replace h107 : (4 : Int) ≠ 0 := h107
                  show e_Pn 20 elay ecode eI nn3 d 356 (107, (3, (0, 4)) :: (2, (0, w 341 y1)) :: (0, (1, 275)) :: (1, (0, y1)) :: List.filter (e_flt 0 3) (List.filter (e_flt 0 3) (List.filter (e_flt 0 2) tl4)), [], w9) _
                  refine e_Pn.run (t' := (108, (3, (0, 4)) :: (2, (0, w 341 y1)) :: (0, (1, 275)) :: (1, (0, y1)) :: List.filter (e_flt 0 3) (List.filter (e_flt 0 3) (List.filter (e_flt 0 2) tl4)), [(0, 4)], w9)) eAlk 1 rfl ?_
                  refine e_Pn.if1 eAlk rfl (fun h108 => ?_) (fun h108 => ?_)
                  · replace h108 : (4 : Int) ≠ 0 := h108
                    show e_Pn 20 elay ecode eI nn3 d 356 (198, (3, (0, 4)) :: (2, (0, w 341 y1)) :: (0, (1, 275)) :: (1, (0, y1)) :: List.filter (e_flt 0 3) (List.filter (e_flt 0 3) (List.filter (e_flt 0 2) tl4)), [], w9) _
                    have hb : bdM w nm y1 := bdM.a (by omega) (by omega) (by decide) (show tldQ _ _ _ _ _ from z60q) (by omega)
                    refine e_Pn.run (t' := (199, (3, (0, 4)) :: (2, (0, w 341 y1)) :: (0, (1, 275)) :: (1, (0, y1)) :: List.filter (e_flt 0 3) (List.filter (e_flt 0 3) (List.filter (e_flt 0 2) tl4)), [(0, 4)], w9)) eAlk 1 rfl ?_
                    refine e_Pn.if1 eAlk rfl (fun h109 => ?_) (fun h109 => ?_)
                    · replace h109 : (4 : Int) = 0 := h109
                      exfalso; omega
                    · replace h109 : (4 : Int) ≠ 0 := by have q : ¬ ((4 : Int) = 0) := h109; omega
                      show e_Pn 20 elay ecode eI nn3 d 356 (202, (3, (0, 4)) :: (2, (0, w 341 y1)) :: (0, (1, 275)) :: (1, (0, y1)) :: List.filter (e_flt 0 3) (List.filter (e_flt 0 3) (List.filter (e_flt 0 2) tl4)), [], w9) _
                      refine e_Pn.run (t' := (204, (3, (0, 4)) :: (2, (0, w 341 y1)) :: (0, (1, 275)) :: (1, (0, y1)) :: List.filter (e_flt 0 3) (List.filter (e_flt 0 3) (List.filter (e_flt 0 2) tl4)), [(0, 4), (1, 275)], w9)) eAlk 2 rfl ?_
                      refine e_Pn.putf eAlk rfl rfl ?_
                      generalize hw110 : e_up w9 275 88 4 = w110
                      refine e_Pn.run (t' := (209, (3, (0, 4)) :: (2, (0, w 341 y1)) :: (0, (1, 275)) :: (1, (0, y1)) :: List.filter (e_flt 0 3) (List.filter (e_flt 0 3) (List.filter (e_flt 0 2) tl4)), [(1, 275), (1, 275)], w110)) eAlk 2 rfl ?_
                      refine e_Pn.getr (z := 342) eAlk rfl rfl (((e_fr.up j6 hw110 (by unfold mRsQ; omega)) 275 91 (by unfold mRsQ; omega)).trans (hR (91, 342) (by decide))) (by omega) ?_
                      refine e_Pn.run (t' := (213, (3, (0, 4)) :: (2, (0, w 341 y1)) :: (0, (1, 275)) :: (1, (0, y1)) :: List.filter (e_flt 0 3) (List.filter (e_flt 0 3) (List.filter (e_flt 0 2) tl4)), [(0, y1), (1, 342), (1, 275)], w110)) eAlk 1 rfl ?_
                      refine e_Pn.ald (z := w 342 y1) eAlk rfl (by rw [← hw110]; exact (e_up_ne _ _ (Or.inl (by omega))).trans (j6 342 y1 (by unfold mRsQ; omega))) (fun b111 b112 => ?_)
                      refine e_Pn.putf eAlk rfl rfl ?_
                      generalize hw113 : e_up w110 275 89 (w 342 y1) = w113
                      refine e_Pn.inc (z := y1 + 1) eAlk rfl rfl (by omega) (by omega) ?_
                      show e_Pn 20 elay ecode eI nn3 d 356 (220, (1, (0, y1 + 1)) :: (3, (0, 4)) :: (2, (0, w 341 y1)) :: (0, (1, 275)) :: List.filter (e_flt 0 1) (List.filter (e_flt 0 3) (List.filter (e_flt 0 3) (List.filter (e_flt 0 2) tl4))), [], w113) _
                      refine e_Pn.run (t' := (2, (1, (0, y1 + 1)) :: (3, (0, 4)) :: (2, (0, w 341 y1)) :: (0, (1, 275)) :: List.filter (e_flt 0 1) (List.filter (e_flt 0 3) (List.filter (e_flt 0 3) (List.filter (e_flt 0 2) tl4))), [], w113)) eAlk 1 rfl ?_
                      exact e_Pn.ord eAlk [0, 1] rfl rfl ((ih2 (by omega) _ (y1 + 1) w113 ⟨(by omega), (e_fr.up (e_fr.up j6 hw110 (by unfold mRsQ; omega)) hw113 (by unfold mRsQ; omega)), (rsJ.bad (by omega) jo hb (by rw [(show w113 275 88 = 4 from (by rw [← hw113]; exact (e_up_ne _ _ (Or.inr (by omega))).trans (by rw [← hw110]; exact e_up_eq _ _ _ _)))]; decide) (show w113 275 89 = w 342 y1 from (by rw [← hw113]; exact e_up_eq _ _ _ _)))⟩))
                  · replace h108 : (4 : Int) = 0 := by have q : ¬ ((4 : Int) ≠ 0) := h108; omega
                    exfalso; omega
                · replace h107 : (4 : Int) = 0 := by have q : ¬ ((4 : Int) ≠ 0) := h107; omega
                  exfalso; omega
  exact e_Pn.ord eAlk [0, 1] rfl rfl (hL1 n (Nat.le_refl _) _ 0 w ⟨(by omega), (e_fr.refl w), (Or.inl ⟨h0.1, fun n g1 g2 => by omega, h0.2.1, h0.2.2, by omega, by omega⟩)⟩)
end
