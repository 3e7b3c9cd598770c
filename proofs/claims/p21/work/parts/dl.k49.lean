noncomputable section
/-! the class: the reader, tokens and names -/
def kRn (c k : Int) : Prop := c = 1 ∧ (k = 5 ∨ k = 7 ∨ k = 8)
def kRo (c k : Int) : Prop := c = 1 ∧ (k = 1 ∨ k = 2 ∨ (5 ≤ k ∧ k ≤ 8) ∨ k = 11)
def kyk (i : Int) : Int := (e_key.getD i.toNat 0).toInt
theorem kyk_in (i : Int) : -2147483648 ≤ kyk i ∧ kyk i ≤ 2147483647 := ⟨Int32.le_toInt _, Int32.toInt_le _⟩
/-- how many words are over at a place of the keywords, and how far it is in its word -/
def kypN : Nat → Int × Int
  | 0 => (0, 0)
  | n + 1 => if kyk n = 32 then ((kypN n).1 + 1, 0) else ((kypN n).1, (kypN n).2 + 1)
def kyp (i : Int) : Int × Int := kypN i.toNat
theorem kyp_0 : kyp 0 = (0, 0) := rfl
theorem kyp_n {i : Int} (h0 : 0 ≤ i) (h : kyk i ≠ 32) : (kyp (i + 1)).1 = (kyp i).1 ∧ (kyp (i + 1)).2 = (kyp i).2 + 1 := by
  unfold kyp
  rw [show (i + 1).toNat = i.toNat + 1 by omega, kypN, show ((i.toNat : Nat) : Int) = i by omega, if_neg h]
  exact ⟨rfl, rfl⟩
theorem kyp_s {i : Int} (h0 : 0 ≤ i) (h : kyk i = 32) : (kyp (i + 1)).1 = (kyp i).1 + 1 ∧ (kyp (i + 1)).2 = 0 := by
  unfold kyp
  rw [show (i + 1).toNat = i.toNat + 1 by omega, kypN, show ((i.toNat : Nat) : Int) = i by omega, if_pos h]
  exact ⟨rfl, rfl⟩
theorem kyp_all : ∀ i : Nat, i < 172 → ((0 ≤ (kypN i).1 ∧ (kypN i).1 ≤ 33) ∧ 0 ≤ (kypN i).2 ∧ (kypN i).2 ≤ 8) ∧ (i < 171 → kyk (i : Int) = 32 → (kypN i).1 ≤ 32 ∧ 2 ≤ (kypN i).2 ∧ ((kypN i).1 = 2 ∨ (kypN i).1 = 20 ∨ (kypN i).1 = 21 → 3 ≤ (kypN i).2)) := by decide +kernel
theorem kyp_r {i : Int} (h : 0 ≤ i ∧ i ≤ 171) : (0 ≤ (kyp i).1 ∧ (kyp i).1 ≤ 33) ∧ 0 ≤ (kyp i).2 ∧ (kyp i).2 ≤ 8 := (kyp_all i.toNat (by omega)).1
theorem kyp_k {i : Int} (h : 0 ≤ i ∧ i ≤ 170) (hs : kyk i = 32) : (kyp i).1 ≤ 32 ∧ 2 ≤ (kyp i).2 ∧ ((kyp i).1 = 2 ∨ (kyp i).1 = 20 ∨ (kyp i).1 = 21 → 3 ≤ (kyp i).2) := (kyp_all i.toNat (by omega)).2 (by omega) (by rw [show ((i.toNat : Nat) : Int) = i by omega]; exact hs)
section E9k
variable {fd : Nat} {lay : List eY} {code : Nat → Nat → eE} {I : Nat → xM} {d M a b p nx : Nat} {l : eL} {r : List eV} {w : eW} {Q : List eV → eW → Prop}
theorem e_Ok.kc {i : Int} (hi : 0 ≤ i ∧ i < 171) (hb : Nat.ble (e_cats r) 8 = true) (hc : code M p = (0, e_S (g_sc nx), a, b)) (h : e_Ok fd lay code I d M (nx, l, (0, kyk i) :: r, w) Q) : e_Ok fd lay code I d M (p, l, (0, i) :: (1, 357) :: r, w) Q := by
  refine e_Ok.step hc ?_ h
  have e : e_chr 357 i = some (kyk i) := by
    unfold e_chr
    rw [if_pos ⟨rfl, hi.1, hi.2⟩]
    rfl
  unfold e_S
  show ((bif Nat.ble (e_cats r) 8 then (e_chr 357 i).map (fun n => (nx, (0, n) :: r)) else none : Option (Nat × List eV))).map _ = _
  rw [hb, e]
  rfl
theorem e_Ok.ml {x y : Int} (hb : Nat.ble (e_cats r) 8 = true) (hc : code M p = (0, e_S (g_ml nx), a, b)) (h : ∀ z, (x ≤ y ∧ z = x) ∨ (y < x ∧ z = y) → e_Ok fd lay code I d M (nx, l, (4, z) :: r, w) Q) : e_Ok fd lay code I d M (p, l, (4, y) :: (4, x) :: r, w) Q := by
  refine e_Ok.step (t' := (nx, l, (4, if x ≤ y then x else y) :: r, w)) hc ?_ (h _ ?_)
  · unfold e_S
    show ((bif Nat.ble (e_cats r) 8 then some (nx, (4, if x ≤ y then x else y) :: r) else none : Option (Nat × List eV))).map _ = _
    rw [hb]
    rfl
  · by_cases g : x ≤ y
    · rw [if_pos g]; exact Or.inl ⟨g, rfl⟩
    · rw [if_neg g]; exact Or.inr ⟨by omega, rfl⟩
theorem e_Ok.ix {c : Int} (hb : Nat.ble (e_cats r) 8 = true) (hc : code M p = (0, e_S (g_ix nx), a, b)) (h : ∀ z, -1 ≤ z ∧ z ≤ 12 → e_Ok fd lay code I d M (nx, l, (0, z) :: r, w) Q) : e_Ok fd lay code I d M (p, l, (0, c) :: (1, 358) :: r, w) Q := by
  obtain ⟨z, hz, hr⟩ : ∃ z, e_idx 358 c = some z ∧ -1 ≤ z ∧ z ≤ 12 := by
    unfold e_idx
    rw [if_pos rfl]
    refine ⟨_, rfl, ?_⟩
    cases g : e_sgn.findIdx? (fun z => decide (z.toInt = c)) with
    | none => exact ⟨by show (-1 : Int) ≤ -1; omega, by show (-1 : Int) ≤ 12; omega⟩
    | some k =>
      have q := (List.findIdx?_eq_some_iff_findIdx_eq.mp g).1
      have q2 : e_sgn.length = 13 := by decide
      exact ⟨by show (-1 : Int) ≤ (k : Int); omega, by show (k : Int) ≤ 12; omega⟩
  refine e_Ok.step (t' := (nx, l, (0, z) :: r, w)) hc ?_ (h _ hr)
  unfold e_S
  show ((bif Nat.ble (e_cats r) 8 then (e_idx 358 c).map (fun n => (nx, (0, n) :: r)) else none : Option (Nat × List eV))).map _ = _
  rw [hb, hz]
  rfl
theorem e_Ok.i2c {x : Int} (hc : code M p = (0, ei_un (fun x => (0, ((Int32.ofInt x).toUInt32 % 65536).toInt32.toInt)) nx, a, b)) (h : ∀ z, e_Ok fd lay code I d M (nx, l, (0, z) :: r, w) Q) : e_Ok fd lay code I d M (p, l, (0, x) :: r, w) Q := e_Ok.step hc rfl (h _)
theorem e_Ok.l2iz {x : Int} (hc : code M p = (0, ei_unL (fun x => (0, e32 x)) nx, a, b)) (h : ∀ z, (-2147483648 ≤ z ∧ z ≤ 2147483647) → (-2147483648 ≤ x → x ≤ 2147483647 → z = x) → e_Ok fd lay code I d M (nx, l, (0, z) :: r, w) Q) : e_Ok fd lay code I d M (p, l, (4, x) :: r, w) Q := e_Ok.step hc rfl (h _ (e32_in _) (fun g1 g2 => e32_id g1 g2))
end E9k
theorem c_120 {d : Nat} {w : eW} (hT : e_Has kTy w) (hH : e_Has kRy w) {i : Int} (g_i : (-2147483648) ≤ i ∧ i ≤ 2147483647) : e_Ok 20 elay kcode eI d 120 (0, [(0, (1, 1)), (1, (0, i))], [], w) (fun r w' => ∃ z : Int, r = [(0, z)] ∧ w = w' ∧ (0 ≤ z ∧ z ≤ 255) ∧ ((0 ≤ i ∧ i < w 1 0 ∧ z = w 5 i % 256) ∨ ((i < 0 ∨ w 1 0 ≤ i) ∧ z = 0))) := by
  have h0 := e_Has.get hH (c := 1) (k := 0) (lo := 0) (hi := 4000) rfl (by decide)
  refine e_Ok.run (t' := (1, [(0, (1, 1)), (1, (0, i))], [(0, i)], w)) 1 rfl ?_
  refine e_Ok.if1 rfl (fun h1 => ?_) (fun h1 => ?_)
  · replace h1 : (i : Int) < 0 := h1
    refine e_Ok.run (t' := (26, [(0, (1, 1)), (1, (0, i))], [(0, 0)], w)) 1 rfl ?_
    refine e_Ok.rets rfl rfl ?_
    exact ⟨_, rfl, rfl, by omega, Or.inr ⟨by omega, rfl⟩⟩
  · replace h1 : (i : Int) ≥ 0 := by have q : ¬ ((i : Int) < 0) := h1; omega
    refine e_Ok.run (t' := (6, [(0, (1, 1)), (1, (0, i))], [(1, 1), (0, i)], w)) 2 rfl ?_
    have h2 := (e_Has.get hH (c := 1) (k := 0) (lo := 0) (hi := 4000) rfl (by decide))
    refine e_Ok.getf (z := w 1 0) rfl (el_o rfl) rfl rfl rfl (by omega) ?_
    refine e_Ok.if2 rfl (fun h3 => ?_) (fun h3 => ?_)
    · replace h3 : (i : Int) ≥ w 1 0 := h3
      refine e_Ok.run (t' := (26, [(0, (1, 1)), (1, (0, i))], [(0, 0)], w)) 1 rfl ?_
      refine e_Ok.rets rfl rfl ?_
      exact ⟨_, rfl, rfl, by omega, Or.inr ⟨by omega, rfl⟩⟩
    · replace h3 : (i : Int) < w 1 0 := by have q : ¬ ((i : Int) ≥ w 1 0) := h3; omega
      refine e_Ok.run (t' := (13, [(0, (1, 1)), (1, (0, i))], [(1, 1)], w)) 1 rfl ?_
      refine e_Ok.getr (z := 5) rfl (el_o rfl) rfl rfl (Eq.trans (e_Has.eq hT rfl) (by omega)) (by omega) ?_
      refine e_Ok.run (t' := (17, [(0, (1, 1)), (1, (0, i))], [(0, i), (1, 5)], w)) 1 rfl ?_
      have h4 := (e_Has.get hH (c := 5) (k := i) (lo := (-2147483648)) (hi := 2147483647) rfl (by decide))
      refine e_Ok.ald (z := w 5 i) rfl (el_o rfl) rfl (by omega) rfl (by omega) ?_
      refine e_Ok.run (t' := (21, [(0, (1, 1)), (1, (0, i))], [(0, 255), (0, w 5 i)], w)) 1 rfl ?_
      refine e_Ok.andm 255 8 rfl (by decide) (fun z5 hz5 => ?_)
      replace hz5 : z5 = (w 5 i) % 256 := hz5
      have hz5r : 0 ≤ z5 ∧ z5 ≤ 255 := by omega
      refine e_Ok.run (t' := (26, [(0, (1, 1)), (1, (0, i))], [(0, z5)], w)) 1 rfl ?_
      refine e_Ok.rets rfl rfl ?_
      exact ⟨_, rfl, rfl, by omega, Or.inl ⟨by omega, by omega, by omega⟩⟩
theorem c_121 {d : Nat} {w : eW} {c : Int} (g_c : (-2147483648) ≤ c ∧ c ≤ 2147483647) : e_Ok 20 elay kcode eI d 121 (0, [(0, (0, c))], [], w) (fun r w' => ∃ z : Int, r = [(0, z)] ∧ w = w' ∧ ((z = 1 ∧ (48 ≤ c ∧ c ≤ 57)) ∨ (z = 0 ∧ (c < 48 ∨ 57 < c)))) := by
  refine e_Ok.run (t' := (3, [(0, (0, c))], [(0, 48), (0, c)], w)) 2 rfl ?_
  refine e_Ok.if2 rfl (fun h1 => ?_) (fun h1 => ?_)
  · replace h1 : (c : Int) < 48 := h1
    refine e_Ok.run (t' := (17, [(0, (0, c))], [(0, 0)], w)) 1 rfl ?_
    refine e_Ok.rets rfl rfl ?_
    exact ⟨_, rfl, rfl, Or.inr ⟨rfl, by omega⟩⟩
  · replace h1 : (c : Int) ≥ 48 := by have q : ¬ ((c : Int) < 48) := h1; omega
    refine e_Ok.run (t' := (9, [(0, (0, c))], [(0, 57), (0, c)], w)) 2 rfl ?_
    refine e_Ok.if2 rfl (fun h2 => ?_) (fun h2 => ?_)
    · replace h2 : (c : Int) > 57 := h2
      refine e_Ok.run (t' := (17, [(0, (0, c))], [(0, 0)], w)) 1 rfl ?_
      refine e_Ok.rets rfl rfl ?_
      exact ⟨_, rfl, rfl, Or.inr ⟨rfl, by omega⟩⟩
    · replace h2 : (c : Int) ≤ 57 := by have q : ¬ ((c : Int) > 57) := h2; omega
      refine e_Ok.run (t' := (17, [(0, (0, c))], [(0, 1)], w)) 2 rfl ?_
      refine e_Ok.rets rfl rfl ?_
      exact ⟨_, rfl, rfl, Or.inl ⟨rfl, by omega⟩⟩
theorem c_122 {d : Nat} {w : eW} {c : Int} (g_c : (-2147483648) ≤ c ∧ c ≤ 2147483647) : e_Ok 20 elay kcode eI d 122 (0, [(0, (0, c))], [], w) (fun r w' => ∃ z : Int, r = [(0, z)] ∧ w = w' ∧ ((z = 1 ∧ ((97 ≤ c ∧ c ≤ 122) ∨ (65 ≤ c ∧ c ≤ 90) ∨ (48 ≤ c ∧ c ≤ 57))) ∨ (z = 0 ∧ ((c < 97 ∨ 122 < c) ∧ (c < 65 ∨ 90 < c) ∧ (c < 48 ∨ 57 < c))))) := by
  refine e_Ok.run (t' := (3, [(0, (0, c))], [(0, 97), (0, c)], w)) 2 rfl ?_
  refine e_Ok.if2 rfl (fun h1 => ?_) (fun h1 => ?_)
  · replace h1 : (c : Int) < 97 := h1
    refine e_Ok.run (t' := (15, [(0, (0, c))], [(0, 65), (0, c)], w)) 2 rfl ?_
    refine e_Ok.if2 rfl (fun h2 => ?_) (fun h2 => ?_)
    · replace h2 : (c : Int) < 65 := h2
      refine e_Ok.run (t' := (27, [(0, (0, c))], [(0, 48), (0, c)], w)) 2 rfl ?_
      refine e_Ok.if2 rfl (fun h3 => ?_) (fun h3 => ?_)
      · replace h3 : (c : Int) < 48 := h3
        refine e_Ok.run (t' := (41, [(0, (0, c))], [(0, 0)], w)) 1 rfl ?_
        refine e_Ok.rets rfl rfl ?_
        exact ⟨_, rfl, rfl, Or.inr ⟨rfl, by omega⟩⟩
      · replace h3 : (c : Int) ≥ 48 := by have q : ¬ ((c : Int) < 48) := h3; omega
        refine e_Ok.run (t' := (33, [(0, (0, c))], [(0, 57), (0, c)], w)) 2 rfl ?_
        refine e_Ok.if2 rfl (fun h4 => ?_) (fun h4 => ?_)
        · replace h4 : (c : Int) > 57 := h4
          refine e_Ok.run (t' := (41, [(0, (0, c))], [(0, 0)], w)) 1 rfl ?_
          refine e_Ok.rets rfl rfl ?_
          exact ⟨_, rfl, rfl, Or.inr ⟨rfl, by omega⟩⟩
        · replace h4 : (c : Int) ≤ 57 := by have q : ¬ ((c : Int) > 57) := h4; omega
          refine e_Ok.run (t' := (41, [(0, (0, c))], [(0, 1)], w)) 2 rfl ?_
          refine e_Ok.rets rfl rfl ?_
          exact ⟨_, rfl, rfl, Or.inl ⟨rfl, by omega⟩⟩
    · replace h2 : (c : Int) ≥ 65 := by have q : ¬ ((c : Int) < 65) := h2; omega
      refine e_Ok.run (t' := (21, [(0, (0, c))], [(0, 90), (0, c)], w)) 2 rfl ?_
      refine e_Ok.if2 rfl (fun h5 => ?_) (fun h5 => ?_)
      · replace h5 : (c : Int) ≤ 90 := h5
        refine e_Ok.run (t' := (41, [(0, (0, c))], [(0, 1)], w)) 2 rfl ?_
        refine e_Ok.rets rfl rfl ?_
        exact ⟨_, rfl, rfl, Or.inl ⟨rfl, by omega⟩⟩
      · replace h5 : (c : Int) > 90 := by have q : ¬ ((c : Int) ≤ 90) := h5; omega
        refine e_Ok.run (t' := (27, [(0, (0, c))], [(0, 48), (0, c)], w)) 2 rfl ?_
        refine e_Ok.if2 rfl (fun h6 => ?_) (fun h6 => ?_)
        · replace h6 : (c : Int) < 48 := h6
          exfalso; omega
        · replace h6 : (c : Int) ≥ 48 := by have q : ¬ ((c : Int) < 48) := h6; omega
          refine e_Ok.run (t' := (33, [(0, (0, c))], [(0, 57), (0, c)], w)) 2 rfl ?_
          refine e_Ok.if2 rfl (fun h7 => ?_) (fun h7 => ?_)
          · replace h7 : (c : Int) > 57 := h7
            refine e_Ok.run (t' := (41, [(0, (0, c))], [(0, 0)], w)) 1 rfl ?_
            refine e_Ok.rets rfl rfl ?_
            exact ⟨_, rfl, rfl, Or.inr ⟨rfl, by omega⟩⟩
          · replace h7 : (c : Int) ≤ 57 := by have q : ¬ ((c : Int) > 57) := h7; omega
            exfalso; omega
  · replace h1 : (c : Int) ≥ 97 := by have q : ¬ ((c : Int) < 97) := h1; omega
    refine e_Ok.run (t' := (9, [(0, (0, c))], [(0, 122), (0, c)], w)) 2 rfl ?_
    refine e_Ok.if2 rfl (fun h8 => ?_) (fun h8 => ?_)
    · replace h8 : (c : Int) ≤ 122 := h8
      refine e_Ok.run (t' := (41, [(0, (0, c))], [(0, 1)], w)) 2 rfl ?_
      refine e_Ok.rets rfl rfl ?_
      exact ⟨_, rfl, rfl, Or.inl ⟨rfl, by omega⟩⟩
    · replace h8 : (c : Int) > 122 := by have q : ¬ ((c : Int) ≤ 122) := h8; omega
      refine e_Ok.run (t' := (15, [(0, (0, c))], [(0, 65), (0, c)], w)) 2 rfl ?_
      refine e_Ok.if2 rfl (fun h9 => ?_) (fun h9 => ?_)
      · replace h9 : (c : Int) < 65 := h9
        exfalso; omega
      · replace h9 : (c : Int) ≥ 65 := by have q : ¬ ((c : Int) < 65) := h9; omega
        refine e_Ok.run (t' := (21, [(0, (0, c))], [(0, 90), (0, c)], w)) 2 rfl ?_
        refine e_Ok.if2 rfl (fun h10 => ?_) (fun h10 => ?_)
        · replace h10 : (c : Int) ≤ 90 := h10
          exfalso; omega
        · replace h10 : (c : Int) > 90 := by have q : ¬ ((c : Int) ≤ 90) := h10; omega
          refine e_Ok.run (t' := (27, [(0, (0, c))], [(0, 48), (0, c)], w)) 2 rfl ?_
          refine e_Ok.if2 rfl (fun h11 => ?_) (fun h11 => ?_)
          · replace h11 : (c : Int) < 48 := h11
            exfalso; omega
          · replace h11 : (c : Int) ≥ 48 := by have q : ¬ ((c : Int) < 48) := h11; omega
            refine e_Ok.run (t' := (33, [(0, (0, c))], [(0, 57), (0, c)], w)) 2 rfl ?_
            refine e_Ok.if2 rfl (fun h12 => ?_) (fun h12 => ?_)
            · replace h12 : (c : Int) > 57 := h12
              refine e_Ok.run (t' := (41, [(0, (0, c))], [(0, 0)], w)) 1 rfl ?_
              refine e_Ok.rets rfl rfl ?_
              exact ⟨_, rfl, rfl, Or.inr ⟨rfl, by omega⟩⟩
            · replace h12 : (c : Int) ≤ 57 := by have q : ¬ ((c : Int) > 57) := h12; omega
              exfalso; omega
theorem c_124 {d : Nat} (hd : 21 ≤ d) {w : eW} (hT : e_Has kTy w) (hH : e_Has kRy w) (hn : w 1 7 ≤ w 1 0) : e_Ok 20 elay kcode eI d 124 (0, [(0, (1, 1))], [], w) (fun r w' => r = [] ∧ e_fr kRn w w' ∧ e_Has kTy w' ∧ e_Has kRy w' ∧ (w 1 7 ≤ w' 1 7 ∧ w' 1 7 ≤ w 1 0)) := by
  obtain ⟨d, rfl⟩ : ∃ e, d = e + 1 := ⟨d - 1, by omega⟩
  have p0 := e_Has.get hH (c := 1) (k := 0) (lo := 0) (hi := 4000) rfl (by decide)
  have p6 := e_Has.get hH (c := 1) (k := 6) (lo := 0) (hi := 4000) rfl (by decide)
  have p7 := e_Has.get hH (c := 1) (k := 7) (lo := 0) (hi := 4000) rfl (by decide)
  refine e_Ok.run (t' := (2, [(1, (0, 0)), (0, (1, 1))], [], w)) 2 rfl ?_
  have hL1 : ∀ (nn : Nat) (y1 : Int) (v1 : eW), e_fr kRn w v1 ∧ e_Has kTy v1 ∧ e_Has kRy v1 ∧ ((w 1 7 ≤ v1 1 7 ∧ v1 1 7 ≤ w 1 0)) ∧ ((0 ≤ y1 ∧ y1 ≤ 1)) → 4001 - v1 1 7 < nn → e_Ok 20 elay kcode eI (d + 1) 124 (2, [(0, (1, 1)), (1, (0, y1))], [], v1) (fun r w' => r = [] ∧ e_fr kRn w w' ∧ e_Has kTy w' ∧ e_Has kRy w' ∧ (w 1 7 ≤ w' 1 7 ∧ w' 1 7 ≤ w 1 0)) := by
    intro nn
    induction nn with
    | zero => intro y1 v1 hj hm; obtain ⟨j3, j4, j5, j6, j7⟩ := hj; exfalso; omega
    | succ nn ih2 =>
      intro y1 v1 hj hm
      obtain ⟨j3, j4, j5, j6, j7⟩ := hj
      have u7 := e_Has.get j5 (c := 1) (k := 7) (lo := 0) (hi := 4000) rfl (by decide)
      refine e_Ok.run (t' := (3, [(0, (1, 1)), (1, (0, y1))], [(1, 1)], v1)) 1 rfl ?_
      refine e_Ok.getf (z := v1 1 7) rfl (el_o rfl) rfl rfl rfl (by omega) ?_
      refine e_Ok.run (t' := (7, [(0, (1, 1)), (1, (0, y1))], [(1, 1), (0, v1 1 7)], v1)) 1 rfl ?_
      have h8 := (e_Has.get hH (c := 1) (k := 0) (lo := 0) (hi := 4000) rfl (by decide))
      refine e_Ok.getf (z := w 1 0) rfl (el_o rfl) rfl rfl ((j3 1 0 (by unfold kRn; omega)).trans rfl) (by omega) ?_
      refine e_Ok.if2 rfl (fun h9 => ?_) (fun h9 => ?_)
      · replace h9 : (v1 1 7 : Int) ≥ w 1 0 := h9
        refine e_Ok.rets rfl rfl ?_
        have y5 : v1 1 5 = v1 1 5 := rfl
        have y6 : v1 1 6 = w 1 6 := ((j3 1 6 (by unfold kRn; omega)).trans rfl)
        have y7 : v1 1 7 = v1 1 7 := rfl
        have y8 : v1 1 8 = v1 1 8 := rfl
        exact ⟨rfl, j3, j4, j5, by omega⟩
      · replace h9 : (v1 1 7 : Int) < w 1 0 := by have q : ¬ ((v1 1 7 : Int) ≥ w 1 0) := h9; omega
        refine e_Ok.run (t' := (15, [(0, (1, 1)), (1, (0, y1))], [(1, 1), (1, 1)], v1)) 2 rfl ?_
        refine e_Ok.getf (z := v1 1 7) rfl (el_o rfl) rfl rfl rfl (by omega) ?_
        refine e_Ok.callV rfl (by omega) rfl rfl rfl rfl (c_120 j4 j5 (by omega)) (fun r10 w11 h12 => ?_)
        obtain ⟨z13, rfl, rfl, q14r, q14x⟩ := h12
        replace q14x : (0 ≤ (v1 1 7) ∧ (v1 1 7) < (w 1 0) ∧ z13 = (w 5 (v1 1 7)) % 256) ∨ (((v1 1 7) < 0 ∨ (w 1 0) ≤ (v1 1 7)) ∧ z13 = 0) := by rw [show v1 1 0 = w 1 0 from ((j3 1 0 (by unfold kRn; omega)).trans rfl), show v1 5 (v1 1 7) = w 5 (v1 1 7) from ((j3 5 (v1 1 7) (by unfold kRn; omega)).trans rfl)] at q14x; exact q14x
        show e_Ok 20 elay kcode eI (d + 1) 124 (21, [(0, (1, 1)), (1, (0, y1))], [(0, z13)], v1) _
        refine e_Ok.run (t' := (25, [(2, (0, z13)), (0, (1, 1)), (1, (0, y1))], [(0, 35), (0, z13)], v1)) 3 rfl ?_
        refine e_Ok.if2 rfl (fun h15 => ?_) (fun h15 => ?_)
        · replace h15 : (z13 : Int) ≠ 35 := h15
          refine e_Ok.run (t' := (36, [(2, (0, z13)), (0, (1, 1)), (1, (0, y1))], [(0, 10), (0, z13)], v1)) 2 rfl ?_
          refine e_Ok.if2 rfl (fun h16 => ?_) (fun h16 => ?_)
          · replace h16 : (z13 : Int) ≠ 10 := h16
            refine e_Ok.run (t' := (47, [(2, (0, z13)), (0, (1, 1)), (1, (0, y1))], [(0, 32), (0, z13)], v1)) 2 rfl ?_
            refine e_Ok.if2 rfl (fun h17 => ?_) (fun h17 => ?_)
            · replace h17 : (z13 : Int) ≤ 32 := h17
              refine e_Ok.run (t' := (57, [(2, (0, z13)), (0, (1, 1)), (1, (0, y1))], [(1, 1), (1, 1)], v1)) 2 rfl ?_
              refine e_Ok.getf (z := v1 1 7) rfl (el_o rfl) rfl rfl rfl (by omega) ?_
              refine e_Ok.run (t' := (61, [(2, (0, z13)), (0, (1, 1)), (1, (0, y1))], [(0, 1), (0, v1 1 7), (1, 1)], v1)) 1 rfl ?_
              refine e_Ok.add (z := v1 1 7 + 1) rfl (by omega) (by omega) ?_
              refine e_Ok.putf rfl (el_o rfl) rfl rfl ?_
              generalize hw18 : e_up v1 1 7 (v1 1 7 + 1) = w18
              have f19 : e_fr kRn w w18 := e_fr.up j3 hw18 (by unfold kRn; omega)
              have hT20 : e_Has kTy w18 := e_Has.ups j4 hw18 rfl
              have hH21 : e_Has kRy w18 := e_Has.upr j5 hw18 rfl (by omega)
              refine e_Ok.run (t' := (2, [(2, (0, z13)), (0, (1, 1)), (1, (0, y1))], [], w18)) 1 rfl ?_
              refine e_Ok.sub kAlk (e_sub_of rfl ?_) (ih2 y1 w18 ⟨f19, hT20, hH21, (by have g7 : w18 1 7 = v1 1 7 + 1 := (by rw [← hw18]; exact e_up_eq _ _ _ _); omega), (by omega)⟩ ((by have g7 : w18 1 7 = v1 1 7 + 1 := (by rw [← hw18]; exact e_up_eq _ _ _ _); omega)))
              exact ⟨rfl, rfl, trivial⟩
            · replace h17 : (z13 : Int) > 32 := by have q : ¬ ((z13 : Int) ≤ 32) := h17; omega
              refine e_Ok.run (t' := (51, [(2, (0, z13)), (0, (1, 1)), (1, (0, y1))], [(0, y1)], v1)) 1 rfl ?_
              refine e_Ok.if1 rfl (fun h22 => ?_) (fun h22 => ?_)
              · replace h22 : (y1 : Int) ≠ 0 := h22
                refine e_Ok.run (t' := (57, [(2, (0, z13)), (0, (1, 1)), (1, (0, y1))], [(1, 1), (1, 1)], v1)) 2 rfl ?_
                refine e_Ok.getf (z := v1 1 7) rfl (el_o rfl) rfl rfl rfl (by omega) ?_
                refine e_Ok.run (t' := (61, [(2, (0, z13)), (0, (1, 1)), (1, (0, y1))], [(0, 1), (0, v1 1 7), (1, 1)], v1)) 1 rfl ?_
                refine e_Ok.add (z := v1 1 7 + 1) rfl (by omega) (by omega) ?_
                refine e_Ok.putf rfl (el_o rfl) rfl rfl ?_
                generalize hw23 : e_up v1 1 7 (v1 1 7 + 1) = w23
                have f24 : e_fr kRn w w23 := e_fr.up j3 hw23 (by unfold kRn; omega)
                have hT25 : e_Has kTy w23 := e_Has.ups j4 hw23 rfl
                have hH26 : e_Has kRy w23 := e_Has.upr j5 hw23 rfl (by omega)
                refine e_Ok.run (t' := (2, [(2, (0, z13)), (0, (1, 1)), (1, (0, y1))], [], w23)) 1 rfl ?_
                refine e_Ok.sub kAlk (e_sub_of rfl ?_) (ih2 y1 w23 ⟨f24, hT25, hH26, (by have g7 : w23 1 7 = v1 1 7 + 1 := (by rw [← hw23]; exact e_up_eq _ _ _ _); omega), (by omega)⟩ ((by have g7 : w23 1 7 = v1 1 7 + 1 := (by rw [← hw23]; exact e_up_eq _ _ _ _); omega)))
                exact ⟨rfl, rfl, trivial⟩
              · replace h22 : (y1 : Int) = 0 := by have q : ¬ ((y1 : Int) ≠ 0) := h22; omega
                refine e_Ok.rets rfl rfl ?_
                have y5 : v1 1 5 = v1 1 5 := rfl
                have y6 : v1 1 6 = w 1 6 := ((j3 1 6 (by unfold kRn; omega)).trans rfl)
                have y7 : v1 1 7 = v1 1 7 := rfl
                have y8 : v1 1 8 = v1 1 8 := rfl
                exact ⟨rfl, j3, j4, j5, by omega⟩
          · replace h16 : (z13 : Int) = 10 := by have q : ¬ ((z13 : Int) ≠ 10) := h16; omega
            refine e_Ok.run (t' := (57, [(1, (0, 0)), (2, (0, z13)), (0, (1, 1))], [(1, 1), (1, 1)], v1)) 5 rfl ?_
            refine e_Ok.getf (z := v1 1 7) rfl (el_o rfl) rfl rfl rfl (by omega) ?_
            refine e_Ok.run (t' := (61, [(1, (0, 0)), (2, (0, z13)), (0, (1, 1))], [(0, 1), (0, v1 1 7), (1, 1)], v1)) 1 rfl ?_
            refine e_Ok.add (z := v1 1 7 + 1) rfl (by omega) (by omega) ?_
            refine e_Ok.putf rfl (el_o rfl) rfl rfl ?_
            generalize hw27 : e_up v1 1 7 (v1 1 7 + 1) = w27
            have f28 : e_fr kRn w w27 := e_fr.up j3 hw27 (by unfold kRn; omega)
            have hT29 : e_Has kTy w27 := e_Has.ups j4 hw27 rfl
            have hH30 : e_Has kRy w27 := e_Has.upr j5 hw27 rfl (by omega)
            refine e_Ok.run (t' := (2, [(1, (0, 0)), (2, (0, z13)), (0, (1, 1))], [], w27)) 1 rfl ?_
            refine e_Ok.sub kAlk (e_sub_of rfl ?_) (ih2 0 w27 ⟨f28, hT29, hH30, (by have g7 : w27 1 7 = v1 1 7 + 1 := (by rw [← hw27]; exact e_up_eq _ _ _ _); omega), (by omega)⟩ ((by have g7 : w27 1 7 = v1 1 7 + 1 := (by rw [← hw27]; exact e_up_eq _ _ _ _); omega)))
            exact ⟨rfl, rfl, trivial⟩
        · replace h15 : (z13 : Int) = 35 := by have q : ¬ ((z13 : Int) ≠ 35) := h15; omega
          refine e_Ok.run (t' := (57, [(1, (0, 1)), (2, (0, z13)), (0, (1, 1))], [(1, 1), (1, 1)], v1)) 5 rfl ?_
          refine e_Ok.getf (z := v1 1 7) rfl (el_o rfl) rfl rfl rfl (by omega) ?_
          refine e_Ok.run (t' := (61, [(1, (0, 1)), (2, (0, z13)), (0, (1, 1))], [(0, 1), (0, v1 1 7), (1, 1)], v1)) 1 rfl ?_
          refine e_Ok.add (z := v1 1 7 + 1) rfl (by omega) (by omega) ?_
          refine e_Ok.putf rfl (el_o rfl) rfl rfl ?_
          generalize hw31 : e_up v1 1 7 (v1 1 7 + 1) = w31
          have f32 : e_fr kRn w w31 := e_fr.up j3 hw31 (by unfold kRn; omega)
          have hT33 : e_Has kTy w31 := e_Has.ups j4 hw31 rfl
          have hH34 : e_Has kRy w31 := e_Has.upr j5 hw31 rfl (by omega)
          refine e_Ok.run (t' := (2, [(1, (0, 1)), (2, (0, z13)), (0, (1, 1))], [], w31)) 1 rfl ?_
          refine e_Ok.sub kAlk (e_sub_of rfl ?_) (ih2 1 w31 ⟨f32, hT33, hH34, (by have g7 : w31 1 7 = v1 1 7 + 1 := (by rw [← hw31]; exact e_up_eq _ _ _ _); omega), (by omega)⟩ ((by have g7 : w31 1 7 = v1 1 7 + 1 := (by rw [← hw31]; exact e_up_eq _ _ _ _); omega)))
          exact ⟨rfl, rfl, trivial⟩
  refine e_Ok.sub kAlk (e_sub_of rfl ?_) (hL1 (4001 + 1 : Int).toNat 0 w ⟨(e_fr.refl w), hT, hH, (by omega), (by omega)⟩ (by omega))
  exact ⟨rfl, rfl, trivial⟩
set_option maxHeartbeats 4000000 in
theorem c_127 {d : Nat} (hd : 21 ≤ d) {w : eW} (hT : e_Has kTy w) (hH : e_Has kRy w) (hn : w 1 7 < w 1 0) (ha : w 1 6 = w 1 7) (hdg : 48 ≤ w 5 (w 1 7) % 256 ∧ w 5 (w 1 7) % 256 ≤ 57) : e_Ok 20 elay kcode eI d 127 (0, [(0, (1, 1))], [], w) (fun r w' => r = [] ∧ e_fr kRn w w' ∧ e_Has kTy w' ∧ e_Has kRy w' ∧ (w 1 7 < w' 1 7 ∧ w' 1 7 ≤ w 1 0) ∧ (w' 1 5 = 2 ∨ w' 1 5 = 3) ∧ (w' 1 5 = 2 → 0 ≤ w' 1 8 ∧ (10 ≤ w' 1 8 → w 1 7 + 2 ≤ w' 1 7))) := by
  obtain ⟨d, rfl⟩ : ∃ e, d = e + 1 := ⟨d - 1, by omega⟩
  have p0 := e_Has.get hH (c := 1) (k := 0) (lo := 0) (hi := 4000) rfl (by decide)
  have p6 := e_Has.get hH (c := 1) (k := 6) (lo := 0) (hi := 4000) rfl (by decide)
  have p7 := e_Has.get hH (c := 1) (k := 7) (lo := 0) (hi := 4000) rfl (by decide)
  refine e_Ok.run (t' := (2, [(1, (4, 0)), (0, (1, 1))], [], w)) 2 rfl ?_
  have hL1 : ∀ (nn : Nat) (y1 : Int) (v1 : eW), e_fr kRn w v1 ∧ e_Has kTy v1 ∧ e_Has kRy v1 ∧ ((w 1 7 ≤ v1 1 7 ∧ v1 1 7 ≤ w 1 0)) ∧ ((w 1 7 < v1 1 7 ∨ (v1 1 7 = w 1 7 ∧ w 5 (v1 1 7) = w 5 (w 1 7)))) ∧ ((0 ≤ y1 ∧ y1 ≤ 4294967296)) ∧ (v1 1 7 ≤ w 1 7 → y1 = 0) ∧ (v1 1 7 ≤ w 1 7 + 1 → y1 ≤ 9) → 4001 - v1 1 7 < nn → e_Ok 20 elay kcode eI (d + 1) 127 (2, [(0, (1, 1)), (1, (4, y1))], [], v1) (fun r w' => r = [] ∧ e_fr kRn w w' ∧ e_Has kTy w' ∧ e_Has kRy w' ∧ (w 1 7 < w' 1 7 ∧ w' 1 7 ≤ w 1 0) ∧ (w' 1 5 = 2 ∨ w' 1 5 = 3) ∧ (w' 1 5 = 2 → 0 ≤ w' 1 8 ∧ (10 ≤ w' 1 8 → w 1 7 + 2 ≤ w' 1 7))) := by
    intro nn
    induction nn with
    | zero => intro y1 v1 hj hm; obtain ⟨j3, j4, j5, j6, j7, j8, j9, j10⟩ := hj; exfalso; omega
    | succ nn ih2 =>
      intro y1 v1 hj hm
      obtain ⟨j3, j4, j5, j6, j7, j8, j9, j10⟩ := hj
      have u7 := e_Has.get j5 (c := 1) (k := 7) (lo := 0) (hi := 4000) rfl (by decide)
      refine e_Ok.run (t' := (3, [(0, (1, 1)), (1, (4, y1))], [(1, 1)], v1)) 1 rfl ?_
      refine e_Ok.getf (z := v1 1 7) rfl (el_o rfl) rfl rfl rfl (by omega) ?_
      refine e_Ok.run (t' := (7, [(0, (1, 1)), (1, (4, y1))], [(1, 1), (0, v1 1 7)], v1)) 1 rfl ?_
      have h11 := (e_Has.get hH (c := 1) (k := 0) (lo := 0) (hi := 4000) rfl (by decide))
      refine e_Ok.getf (z := w 1 0) rfl (el_o rfl) rfl rfl ((j3 1 0 (by unfold kRn; omega)).trans rfl) (by omega) ?_
      refine e_Ok.if2 rfl (fun h12 => ?_) (fun h12 => ?_)
      · replace h12 : (v1 1 7 : Int) ≥ w 1 0 := h12
        refine e_Ok.run (t' := (71, [(0, (1, 1)), (1, (4, y1))], [(4, 2147483647), (4, y1), (1, 1)], v1)) 3 rfl ?_
        refine e_Ok.lcmp rfl (fun z13 z13a z13b z13c => ?_)
        refine e_Ok.if1 rfl (fun h14 => ?_) (fun h14 => ?_)
        · replace h14 : (z13 : Int) ≤ 0 := h14
          refine e_Ok.run (t' := (80, [(0, (1, 1)), (1, (4, y1))], [(0, 2), (1, 1)], v1)) 1 rfl ?_
          refine e_Ok.putf rfl (el_o rfl) rfl rfl ?_
          generalize hw15 : e_up v1 1 5 2 = w15
          have f16 : e_fr kRn w w15 := e_fr.up j3 hw15 (by unfold kRn; omega)
          have hT17 : e_Has kTy w15 := e_Has.ups j4 hw15 rfl
          have hH18 : e_Has kRy w15 := e_Has.upr j5 hw15 rfl (by omega)
          refine e_Ok.run (t' := (85, [(0, (1, 1)), (1, (4, y1))], [(4, y1), (1, 1)], w15)) 2 rfl ?_
          refine e_Ok.l2iz rfl (fun z19 z19a z19b => ?_)
          replace z19b : -2147483648 ≤ y1 → y1 ≤ 2147483647 → z19 = y1 := z19b
          refine e_Ok.putf rfl (el_o rfl) rfl rfl ?_
          generalize hw20 : e_up w15 1 8 z19 = w20
          have f21 : e_fr kRn w w20 := e_fr.up f16 hw20 (by unfold kRn; omega)
          have hT22 : e_Has kTy w20 := e_Has.ups hT17 hw20 rfl
          have hH23 : e_Has kRy w20 := e_Has.upr hH18 hw20 rfl (by omega)
          refine e_Ok.rets rfl rfl ?_
          have y5 : w20 1 5 = 2 := (by rw [← hw20]; exact (e_up_ne _ _ (Or.inr (by omega))).trans (by rw [← hw15]; exact e_up_eq _ _ _ _))
          have y6 : w20 1 6 = w 1 6 := (by rw [← hw20]; exact (e_up_ne _ _ (Or.inr (by omega))).trans (by rw [← hw15]; exact (e_up_ne _ _ (Or.inr (by omega))).trans ((j3 1 6 (by unfold kRn; omega)).trans rfl)))
          have y7 : w20 1 7 = v1 1 7 := (by rw [← hw20]; exact (e_up_ne _ _ (Or.inr (by omega))).trans (by rw [← hw15]; exact (e_up_ne _ _ (Or.inr (by omega))).trans rfl))
          have y8 : w20 1 8 = z19 := (by rw [← hw20]; exact e_up_eq _ _ _ _)
          exact ⟨rfl, f21, hT22, hH23, ⟨by omega, by omega⟩, (by omega), fun h => ⟨by omega, fun h2 => by omega⟩⟩
        · replace h14 : (z13 : Int) > 0 := by have q : ¬ ((z13 : Int) ≤ 0) := h14; omega
          refine e_Ok.run (t' := (80, [(0, (1, 1)), (1, (4, y1))], [(0, 3), (1, 1)], v1)) 2 rfl ?_
          refine e_Ok.putf rfl (el_o rfl) rfl rfl ?_
          generalize hw24 : e_up v1 1 5 3 = w24
          have f25 : e_fr kRn w w24 := e_fr.up j3 hw24 (by unfold kRn; omega)
          have hT26 : e_Has kTy w24 := e_Has.ups j4 hw24 rfl
          have hH27 : e_Has kRy w24 := e_Has.upr j5 hw24 rfl (by omega)
          refine e_Ok.run (t' := (85, [(0, (1, 1)), (1, (4, y1))], [(4, y1), (1, 1)], w24)) 2 rfl ?_
          refine e_Ok.l2iz rfl (fun z28 z28a z28b => ?_)
          replace z28b : -2147483648 ≤ y1 → y1 ≤ 2147483647 → z28 = y1 := z28b
          refine e_Ok.putf rfl (el_o rfl) rfl rfl ?_
          generalize hw29 : e_up w24 1 8 z28 = w29
          have f30 : e_fr kRn w w29 := e_fr.up f25 hw29 (by unfold kRn; omega)
          have hT31 : e_Has kTy w29 := e_Has.ups hT26 hw29 rfl
          have hH32 : e_Has kRy w29 := e_Has.upr hH27 hw29 rfl (by omega)
          refine e_Ok.rets rfl rfl ?_
          have y5 : w29 1 5 = 3 := (by rw [← hw29]; exact (e_up_ne _ _ (Or.inr (by omega))).trans (by rw [← hw24]; exact e_up_eq _ _ _ _))
          have y6 : w29 1 6 = w 1 6 := (by rw [← hw29]; exact (e_up_ne _ _ (Or.inr (by omega))).trans (by rw [← hw24]; exact (e_up_ne _ _ (Or.inr (by omega))).trans ((j3 1 6 (by unfold kRn; omega)).trans rfl)))
          have y7 : w29 1 7 = v1 1 7 := (by rw [← hw29]; exact (e_up_ne _ _ (Or.inr (by omega))).trans (by rw [← hw24]; exact (e_up_ne _ _ (Or.inr (by omega))).trans rfl))
          have y8 : w29 1 8 = z28 := (by rw [← hw29]; exact e_up_eq _ _ _ _)
          exact ⟨rfl, f30, hT31, hH32, ⟨by omega, by omega⟩, (by omega), fun h => ⟨by omega, fun h2 => by omega⟩⟩
      · replace h12 : (v1 1 7 : Int) < w 1 0 := by have q : ¬ ((v1 1 7 : Int) ≥ w 1 0) := h12; omega
        refine e_Ok.run (t' := (15, [(0, (1, 1)), (1, (4, y1))], [(1, 1), (1, 1)], v1)) 2 rfl ?_
        refine e_Ok.getf (z := v1 1 7) rfl (el_o rfl) rfl rfl rfl (by omega) ?_
        refine e_Ok.callV rfl (by omega) rfl rfl rfl rfl (c_120 j4 j5 (by omega)) (fun r33 w34 h35 => ?_)
        obtain ⟨z36, rfl, rfl, q37r, q37x⟩ := h35
        replace q37x : (0 ≤ (v1 1 7) ∧ (v1 1 7) < (w 1 0) ∧ z36 = (w 5 (v1 1 7)) % 256) ∨ (((v1 1 7) < 0 ∨ (w 1 0) ≤ (v1 1 7)) ∧ z36 = 0) := by rw [show v1 1 0 = w 1 0 from ((j3 1 0 (by unfold kRn; omega)).trans rfl), show v1 5 (v1 1 7) = w 5 (v1 1 7) from ((j3 5 (v1 1 7) (by unfold kRn; omega)).trans rfl)] at q37x; exact q37x
        show e_Ok 20 elay kcode eI (d + 1) 127 (21, [(0, (1, 1)), (1, (4, y1))], [(0, z36)], v1) _
        refine e_Ok.callS rfl (by omega) rfl rfl (c_121 (by omega)) (fun r38 w40 h41 => ?_)
        obtain ⟨z42, rfl, rfl, q43⟩ := h41
        obtain ⟨rfl, q43⟩ | ⟨rfl, q43⟩ := q43
        · show e_Ok 20 elay kcode eI (d + 1) 127 (24, [(0, (1, 1)), (1, (4, y1))], [(0, 1)], v1) _
          refine e_Ok.if1 rfl (fun h44 => ?_) (fun h44 => ?_)
          · replace h44 : (1 : Int) = 0 := h44
            exfalso; omega
          · replace h44 : (1 : Int) ≠ 0 := by have q : ¬ ((1 : Int) = 0) := h44; omega
            refine e_Ok.run (t' := (31, [(0, (1, 1)), (1, (4, y1))], [(4, 10), (4, y1)], v1)) 2 rfl ?_
            refine e_Ok.mulL (z := 10 * y1) rfl (by omega) (by omega) ?_
            refine e_Ok.run (t' := (34, [(0, (1, 1)), (1, (4, y1))], [(1, 1), (1, 1), (4, 10 * y1)], v1)) 2 rfl ?_
            refine e_Ok.getf (z := v1 1 7) rfl (el_o rfl) rfl rfl rfl (by omega) ?_
            refine e_Ok.callV rfl (by omega) rfl rfl rfl rfl (c_120 j4 j5 (by omega)) (fun r46 w47 h48 => ?_)
            obtain ⟨z49, rfl, rfl, q50r, q50x⟩ := h48
            replace q50x : (0 ≤ (v1 1 7) ∧ (v1 1 7) < (w 1 0) ∧ z49 = (w 5 (v1 1 7)) % 256) ∨ (((v1 1 7) < 0 ∨ (w 1 0) ≤ (v1 1 7)) ∧ z49 = 0) := by rw [show v1 1 0 = w 1 0 from ((j3 1 0 (by unfold kRn; omega)).trans rfl), show v1 5 (v1 1 7) = w 5 (v1 1 7) from ((j3 5 (v1 1 7) (by unfold kRn; omega)).trans rfl)] at q50x; exact q50x
            show e_Ok 20 elay kcode eI (d + 1) 127 (40, [(0, (1, 1)), (1, (4, y1))], [(0, z49), (4, 10 * y1)], v1) _
            refine e_Ok.run (t' := (41, [(0, (1, 1)), (1, (4, y1))], [(4, z49), (4, 10 * y1)], v1)) 1 rfl ?_
            refine e_Ok.addL (z := 10 * y1 + z49) rfl (by omega) (by omega) ?_
            refine e_Ok.run (t' := (45, [(0, (1, 1)), (1, (4, y1))], [(4, 48), (4, 10 * y1 + z49)], v1)) 1 rfl ?_
            refine e_Ok.subL (z := 10 * y1 + z49 - 48) rfl (by omega) (by omega) ?_
            refine e_Ok.run (t' := (49, [(0, (1, 1)), (1, (4, y1))], [(4, 4294967296), (4, 10 * y1 + z49 - 48)], v1)) 1 rfl ?_
            refine e_Ok.ml rfl rfl (fun x53 hx53 => ?_)
            replace hx53 : ((10 * y1 + z49 - 48) ≤ 4294967296 ∧ x53 = 10 * y1 + z49 - 48) ∨ (4294967296 < 10 * y1 + z49 - 48 ∧ x53 = 4294967296) := hx53
            refine e_Ok.run (t' := (55, [(1, (4, x53)), (0, (1, 1))], [(1, 1), (1, 1)], v1)) 3 rfl ?_
            refine e_Ok.getf (z := v1 1 7) rfl (el_o rfl) rfl rfl rfl (by omega) ?_
            refine e_Ok.run (t' := (59, [(1, (4, x53)), (0, (1, 1))], [(0, 1), (0, v1 1 7), (1, 1)], v1)) 1 rfl ?_
            refine e_Ok.add (z := v1 1 7 + 1) rfl (by omega) (by omega) ?_
            refine e_Ok.putf rfl (el_o rfl) rfl rfl ?_
            generalize hw54 : e_up v1 1 7 (v1 1 7 + 1) = w54
            have f55 : e_fr kRn w w54 := e_fr.up j3 hw54 (by unfold kRn; omega)
            have hT56 : e_Has kTy w54 := e_Has.ups j4 hw54 rfl
            have hH57 : e_Has kRy w54 := e_Has.upr j5 hw54 rfl (by omega)
            refine e_Ok.run (t' := (2, [(1, (4, x53)), (0, (1, 1))], [], w54)) 1 rfl ?_
            refine e_Ok.sub kAlk (e_sub_of rfl ?_) (ih2 x53 w54 ⟨f55, hT56, hH57, (by have g7 : w54 1 7 = v1 1 7 + 1 := (by rw [← hw54]; exact e_up_eq _ _ _ _); omega), (Or.inl (by have g7 : w54 1 7 = v1 1 7 + 1 := (by rw [← hw54]; exact e_up_eq _ _ _ _); omega)), (by omega), (fun g => by have g7 : w54 1 7 = v1 1 7 + 1 := (by rw [← hw54]; exact e_up_eq _ _ _ _); omega), (fun g => by have g7 : w54 1 7 = v1 1 7 + 1 := (by rw [← hw54]; exact e_up_eq _ _ _ _); omega)⟩ ((by have g7 : w54 1 7 = v1 1 7 + 1 := (by rw [← hw54]; exact e_up_eq _ _ _ _); omega)))
            exact ⟨rfl, rfl, trivial⟩
        · show e_Ok 20 elay kcode eI (d + 1) 127 (24, [(0, (1, 1)), (1, (4, y1))], [(0, 0)], v1) _
          refine e_Ok.if1 rfl (fun h58 => ?_) (fun h58 => ?_)
          · replace h58 : (0 : Int) = 0 := h58
            refine e_Ok.run (t' := (71, [(0, (1, 1)), (1, (4, y1))], [(4, 2147483647), (4, y1), (1, 1)], v1)) 3 rfl ?_
            refine e_Ok.lcmp rfl (fun z59 z59a z59b z59c => ?_)
            refine e_Ok.if1 rfl (fun h60 => ?_) (fun h60 => ?_)
            · replace h60 : (z59 : Int) ≤ 0 := h60
              refine e_Ok.run (t' := (80, [(0, (1, 1)), (1, (4, y1))], [(0, 2), (1, 1)], v1)) 1 rfl ?_
              refine e_Ok.putf rfl (el_o rfl) rfl rfl ?_
              generalize hw61 : e_up v1 1 5 2 = w61
              have f62 : e_fr kRn w w61 := e_fr.up j3 hw61 (by unfold kRn; omega)
              have hT63 : e_Has kTy w61 := e_Has.ups j4 hw61 rfl
              have hH64 : e_Has kRy w61 := e_Has.upr j5 hw61 rfl (by omega)
              refine e_Ok.run (t' := (85, [(0, (1, 1)), (1, (4, y1))], [(4, y1), (1, 1)], w61)) 2 rfl ?_
              refine e_Ok.l2iz rfl (fun z65 z65a z65b => ?_)
              replace z65b : -2147483648 ≤ y1 → y1 ≤ 2147483647 → z65 = y1 := z65b
              refine e_Ok.putf rfl (el_o rfl) rfl rfl ?_
              generalize hw66 : e_up w61 1 8 z65 = w66
              have f67 : e_fr kRn w w66 := e_fr.up f62 hw66 (by unfold kRn; omega)
              have hT68 : e_Has kTy w66 := e_Has.ups hT63 hw66 rfl
              have hH69 : e_Has kRy w66 := e_Has.upr hH64 hw66 rfl (by omega)
              refine e_Ok.rets rfl rfl ?_
              have y5 : w66 1 5 = 2 := (by rw [← hw66]; exact (e_up_ne _ _ (Or.inr (by omega))).trans (by rw [← hw61]; exact e_up_eq _ _ _ _))
              have y6 : w66 1 6 = w 1 6 := (by rw [← hw66]; exact (e_up_ne _ _ (Or.inr (by omega))).trans (by rw [← hw61]; exact (e_up_ne _ _ (Or.inr (by omega))).trans ((j3 1 6 (by unfold kRn; omega)).trans rfl)))
              have y7 : w66 1 7 = v1 1 7 := (by rw [← hw66]; exact (e_up_ne _ _ (Or.inr (by omega))).trans (by rw [← hw61]; exact (e_up_ne _ _ (Or.inr (by omega))).trans rfl))
              have y8 : w66 1 8 = z65 := (by rw [← hw66]; exact e_up_eq _ _ _ _)
              exact ⟨rfl, f67, hT68, hH69, ⟨by omega, by omega⟩, (by omega), fun h => ⟨by omega, fun h2 => by omega⟩⟩
            · replace h60 : (z59 : Int) > 0 := by have q : ¬ ((z59 : Int) ≤ 0) := h60; omega
              refine e_Ok.run (t' := (80, [(0, (1, 1)), (1, (4, y1))], [(0, 3), (1, 1)], v1)) 2 rfl ?_
              refine e_Ok.putf rfl (el_o rfl) rfl rfl ?_
              generalize hw70 : e_up v1 1 5 3 = w70
              have f71 : e_fr kRn w w70 := e_fr.up j3 hw70 (by unfold kRn; omega)
              have hT72 : e_Has kTy w70 := e_Has.ups j4 hw70 rfl
              have hH73 : e_Has kRy w70 := e_Has.upr j5 hw70 rfl (by omega)
              refine e_Ok.run (t' := (85, [(0, (1, 1)), (1, (4, y1))], [(4, y1), (1, 1)], w70)) 2 rfl ?_
              refine e_Ok.l2iz rfl (fun z74 z74a z74b => ?_)
              replace z74b : -2147483648 ≤ y1 → y1 ≤ 2147483647 → z74 = y1 := z74b
              refine e_Ok.putf rfl (el_o rfl) rfl rfl ?_
              generalize hw75 : e_up w70 1 8 z74 = w75
              have f76 : e_fr kRn w w75 := e_fr.up f71 hw75 (by unfold kRn; omega)
              have hT77 : e_Has kTy w75 := e_Has.ups hT72 hw75 rfl
              have hH78 : e_Has kRy w75 := e_Has.upr hH73 hw75 rfl (by omega)
              refine e_Ok.rets rfl rfl ?_
              have y5 : w75 1 5 = 3 := (by rw [← hw75]; exact (e_up_ne _ _ (Or.inr (by omega))).trans (by rw [← hw70]; exact e_up_eq _ _ _ _))
              have y6 : w75 1 6 = w 1 6 := (by rw [← hw75]; exact (e_up_ne _ _ (Or.inr (by omega))).trans (by rw [← hw70]; exact (e_up_ne _ _ (Or.inr (by omega))).trans ((j3 1 6 (by unfold kRn; omega)).trans rfl)))
              have y7 : w75 1 7 = v1 1 7 := (by rw [← hw75]; exact (e_up_ne _ _ (Or.inr (by omega))).trans (by rw [← hw70]; exact (e_up_ne _ _ (Or.inr (by omega))).trans rfl))
              have y8 : w75 1 8 = z74 := (by rw [← hw75]; exact e_up_eq _ _ _ _)
              exact ⟨rfl, f76, hT77, hH78, ⟨by omega, by omega⟩, (by omega), fun h => ⟨by omega, fun h2 => by omega⟩⟩
          · replace h58 : (0 : Int) ≠ 0 := by have q : ¬ ((0 : Int) = 0) := h58; omega
            exfalso; omega
  refine e_Ok.sub kAlk (e_sub_of rfl ?_) (hL1 (4001 + 1 : Int).toNat 0 w ⟨(e_fr.refl w), hT, hH, (by omega), (Or.inr ⟨rfl, rfl⟩), (by omega), (fun _ => rfl), (by omega)⟩ (by omega))
  exact ⟨rfl, rfl, trivial⟩
set_option maxHeartbeats 4000000 in
theorem c_126 {d : Nat} (hd : 19 ≤ d) {w : eW} (hT : e_Has kTy w) (hH : e_Has kRy w) (ha : w 1 6 < w 1 7) (hn : w 1 7 ≤ w 1 0) : e_Ok 20 elay kcode eI d 126 (0, [(0, (1, 1))], [], w) (fun r w' => ∃ z : Int, r = [(0, z)] ∧ w = w' ∧ (z = 1 ∨ ((21 ≤ z ∧ z ≤ 53) ∧ w 1 6 + 2 ≤ w 1 7 ∧ (z = 23 ∨ z = 41 ∨ z = 42 → w 1 6 + 3 ≤ w 1 7)))) := by
  obtain ⟨d, rfl⟩ : ∃ e, d = e + 1 := ⟨d - 1, by omega⟩
  have p0 := e_Has.get hH (c := 1) (k := 0) (lo := 0) (hi := 4000) rfl (by decide)
  have p6 := e_Has.get hH (c := 1) (k := 6) (lo := 0) (hi := 4000) rfl (by decide)
  have p7 := e_Has.get hH (c := 1) (k := 7) (lo := 0) (hi := 4000) rfl (by decide)
  refine e_Ok.run (t' := (4, [(1, (0, 21)), (0, (1, 1))], [(1, 1)], w)) 3 rfl ?_
  have h1 := (e_Has.get hH (c := 1) (k := 6) (lo := 0) (hi := 4000) rfl (by decide))
  refine e_Ok.getf (z := w 1 6) rfl (el_o rfl) rfl rfl rfl (by omega) ?_
  refine e_Ok.run (t' := (13, [(4, (0, 0)), (3, (0, 1)), (2, (0, w 1 6)), (1, (0, 21)), (0, (1, 1))], [], w)) 5 rfl ?_
  have hL2 : ∀ (nn : Nat) (y1 : Int) (y2 : Int) (y3 : Int) (y4 : Int), ((0 ≤ y4 ∧ y4 ≤ 171)) ∧ ((y1 = 21 + (kyp y4).1 ∧ y2 = w 1 6 + (kyp y4).2)) ∧ ((0 ≤ y3 ∧ y3 ≤ 1)) → 172 - y4 < nn → e_Ok 20 elay kcode eI (d + 1) 126 (13, [(0, (1, 1)), (1, (0, y1)), (2, (0, y2)), (3, (0, y3)), (4, (0, y4))], [], w) (fun r w' => ∃ z : Int, r = [(0, z)] ∧ w = w' ∧ (z = 1 ∨ ((21 ≤ z ∧ z ≤ 53) ∧ w 1 6 + 2 ≤ w 1 7 ∧ (z = 23 ∨ z = 41 ∨ z = 42 → w 1 6 + 3 ≤ w 1 7)))) := by
    intro nn
    induction nn with
    | zero => intro y1 y2 y3 y4 hj hm; obtain ⟨j4, j5, j6⟩ := hj; exfalso; omega
    | succ nn ih3 =>
      intro y1 y2 y3 y4 hj hm
      obtain ⟨j4, j5, j6⟩ := hj
      have kb := kyp_r (i := y4) (by omega)
      refine e_Ok.run (t' := (15, [(0, (1, 1)), (1, (0, y1)), (2, (0, y2)), (3, (0, y3)), (4, (0, y4))], [(0, y4)], w)) 1 rfl ?_
      refine e_Ok.run (t' := (17, [(0, (1, 1)), (1, (0, y1)), (2, (0, y2)), (3, (0, y3)), (4, (0, y4))], [(1, 357), (0, y4)], w)) 1 rfl ?_
      refine e_Ok.run (t' := (20, [(0, (1, 1)), (1, (0, y1)), (2, (0, y2)), (3, (0, y3)), (4, (0, y4))], [(0, 171), (0, y4)], w)) 1 rfl ?_
      refine e_Ok.if2 rfl (fun h7 => ?_) (fun h7 => ?_)
      · replace h7 : (y4 : Int) ≥ 171 := h7
        refine e_Ok.run (t' := (105, [(0, (1, 1)), (1, (0, y1)), (2, (0, y2)), (3, (0, y3)), (4, (0, y4))], [(0, 1)], w)) 1 rfl ?_
        refine e_Ok.rets rfl rfl ?_
        exact ⟨_, rfl, rfl, Or.inl rfl⟩
      · replace h7 : (y4 : Int) < 171 := by have q : ¬ ((y4 : Int) ≥ 171) := h7; omega
        refine e_Ok.run (t' := (25, [(0, (1, 1)), (1, (0, y1)), (2, (0, y2)), (3, (0, y3)), (4, (0, y4))], [(1, 357)], w)) 1 rfl ?_
        refine e_Ok.run (t' := (27, [(0, (1, 1)), (1, (0, y1)), (2, (0, y2)), (3, (0, y3)), (4, (0, y4))], [(0, y4), (1, 357)], w)) 1 rfl ?_
        refine e_Ok.kc (by omega) rfl rfl ?_
        have z8b := kyk_in (y4)
        generalize hz8 : kyk (y4) = z8
        rw [hz8] at z8b
        refine e_Ok.run (t' := (36, [(5, (0, z8)), (0, (1, 1)), (1, (0, y1)), (2, (0, y2)), (3, (0, y3)), (4, (0, y4))], [(0, 32), (0, z8)], w)) 3 rfl ?_
        refine e_Ok.if2 rfl (fun h9 => ?_) (fun h9 => ?_)
        · replace h9 : (z8 : Int) = 32 := h9
          refine e_Ok.run (t' := (75, [(5, (0, z8)), (0, (1, 1)), (1, (0, y1)), (2, (0, y2)), (3, (0, y3)), (4, (0, y4))], [(0, y3)], w)) 1 rfl ?_
          refine e_Ok.if1 rfl (fun h10 => ?_) (fun h10 => ?_)
          · replace h10 : (y3 : Int) = 0 := h10
            refine e_Ok.inc (z := y1 + 1) rfl rfl (by omega) (by omega) ?_
            show e_Ok 20 elay kcode eI (d + 1) 126 (91, [(1, (0, y1 + 1)), (5, (0, z8)), (0, (1, 1)), (2, (0, y2)), (3, (0, y3)), (4, (0, y4))], [], w) _
            refine e_Ok.run (t' := (92, [(1, (0, y1 + 1)), (5, (0, z8)), (0, (1, 1)), (2, (0, y2)), (3, (0, y3)), (4, (0, y4))], [(1, 1)], w)) 1 rfl ?_
            refine e_Ok.getf (z := w 1 6) rfl (el_o rfl) rfl rfl rfl (by omega) ?_
            refine e_Ok.run (t' := (98, [(3, (0, 1)), (2, (0, w 1 6)), (1, (0, y1 + 1)), (5, (0, z8)), (0, (1, 1)), (4, (0, y4))], [], w)) 3 rfl ?_
            refine e_Ok.inc (z := y4 + 1) rfl rfl (by omega) (by omega) ?_
            show e_Ok 20 elay kcode eI (d + 1) 126 (101, [(4, (0, y4 + 1)), (3, (0, 1)), (2, (0, w 1 6)), (1, (0, y1 + 1)), (5, (0, z8)), (0, (1, 1))], [], w) _
            refine e_Ok.run (t' := (13, [(4, (0, y4 + 1)), (3, (0, 1)), (2, (0, w 1 6)), (1, (0, y1 + 1)), (5, (0, z8)), (0, (1, 1))], [], w)) 1 rfl ?_
            refine e_Ok.sub kAlk (e_sub_of rfl ?_) (ih3 (y1 + 1) (w 1 6) 1 (y4 + 1) ⟨(by omega), (by first | (have a := kyp_n (i := y4) (by omega) (by rw [hz8]; omega); omega) | (have a := kyp_s (i := y4) (by omega) (by rw [hz8]; omega); omega)), (by omega)⟩ (by omega))
            exact ⟨rfl, rfl, rfl, rfl, rfl, trivial⟩
          · replace h10 : (y3 : Int) ≠ 0 := by have q : ¬ ((y3 : Int) = 0) := h10; omega
            refine e_Ok.run (t' := (80, [(5, (0, z8)), (0, (1, 1)), (1, (0, y1)), (2, (0, y2)), (3, (0, y3)), (4, (0, y4))], [(1, 1), (0, y2)], w)) 2 rfl ?_
            have h11 := (e_Has.get hH (c := 1) (k := 7) (lo := 0) (hi := 4000) rfl (by decide))
            refine e_Ok.getf (z := w 1 7) rfl (el_o rfl) rfl rfl rfl (by omega) ?_
            refine e_Ok.if2 rfl (fun h12 => ?_) (fun h12 => ?_)
            · replace h12 : (y2 : Int) ≠ w 1 7 := h12
              refine e_Ok.inc (z := y1 + 1) rfl rfl (by omega) (by omega) ?_
              show e_Ok 20 elay kcode eI (d + 1) 126 (91, [(1, (0, y1 + 1)), (5, (0, z8)), (0, (1, 1)), (2, (0, y2)), (3, (0, y3)), (4, (0, y4))], [], w) _
              refine e_Ok.run (t' := (92, [(1, (0, y1 + 1)), (5, (0, z8)), (0, (1, 1)), (2, (0, y2)), (3, (0, y3)), (4, (0, y4))], [(1, 1)], w)) 1 rfl ?_
              refine e_Ok.getf (z := w 1 6) rfl (el_o rfl) rfl rfl rfl (by omega) ?_
              refine e_Ok.run (t' := (98, [(3, (0, 1)), (2, (0, w 1 6)), (1, (0, y1 + 1)), (5, (0, z8)), (0, (1, 1)), (4, (0, y4))], [], w)) 3 rfl ?_
              refine e_Ok.inc (z := y4 + 1) rfl rfl (by omega) (by omega) ?_
              show e_Ok 20 elay kcode eI (d + 1) 126 (101, [(4, (0, y4 + 1)), (3, (0, 1)), (2, (0, w 1 6)), (1, (0, y1 + 1)), (5, (0, z8)), (0, (1, 1))], [], w) _
              refine e_Ok.run (t' := (13, [(4, (0, y4 + 1)), (3, (0, 1)), (2, (0, w 1 6)), (1, (0, y1 + 1)), (5, (0, z8)), (0, (1, 1))], [], w)) 1 rfl ?_
              refine e_Ok.sub kAlk (e_sub_of rfl ?_) (ih3 (y1 + 1) (w 1 6) 1 (y4 + 1) ⟨(by omega), (by first | (have a := kyp_n (i := y4) (by omega) (by rw [hz8]; omega); omega) | (have a := kyp_s (i := y4) (by omega) (by rw [hz8]; omega); omega)), (by omega)⟩ (by omega))
              exact ⟨rfl, rfl, rfl, rfl, rfl, trivial⟩
            · replace h12 : (y2 : Int) = w 1 7 := by have q : ¬ ((y2 : Int) ≠ w 1 7) := h12; omega
              refine e_Ok.run (t' := (87, [(5, (0, z8)), (0, (1, 1)), (1, (0, y1)), (2, (0, y2)), (3, (0, y3)), (4, (0, y4))], [(0, y1)], w)) 1 rfl ?_
              refine e_Ok.rets rfl rfl ?_
              exact ⟨_, rfl, rfl, Or.inr (by have k := kyp_k (i := y4) (by omega) (by rw [hz8]; omega); omega)⟩
        · replace h9 : (z8 : Int) ≠ 32 := by have q : ¬ ((z8 : Int) = 32) := h9; omega
          refine e_Ok.run (t' := (40, [(5, (0, z8)), (0, (1, 1)), (1, (0, y1)), (2, (0, y2)), (3, (0, y3)), (4, (0, y4))], [(0, y3)], w)) 1 rfl ?_
          refine e_Ok.if1 rfl (fun h13 => ?_) (fun h13 => ?_)
          · replace h13 : (y3 : Int) = 0 := h13
            refine e_Ok.run (t' := (68, [(3, (0, 0)), (5, (0, z8)), (0, (1, 1)), (1, (0, y1)), (2, (0, y2)), (4, (0, y4))], [], w)) 2 rfl ?_
            refine e_Ok.inc (z := y2 + 1) rfl rfl (by omega) (by omega) ?_
            show e_Ok 20 elay kcode eI (d + 1) 126 (71, [(2, (0, y2 + 1)), (3, (0, 0)), (5, (0, z8)), (0, (1, 1)), (1, (0, y1)), (4, (0, y4))], [], w) _
            refine e_Ok.run (t' := (98, [(2, (0, y2 + 1)), (3, (0, 0)), (5, (0, z8)), (0, (1, 1)), (1, (0, y1)), (4, (0, y4))], [], w)) 1 rfl ?_
            refine e_Ok.inc (z := y4 + 1) rfl rfl (by omega) (by omega) ?_
            show e_Ok 20 elay kcode eI (d + 1) 126 (101, [(4, (0, y4 + 1)), (2, (0, y2 + 1)), (3, (0, 0)), (5, (0, z8)), (0, (1, 1)), (1, (0, y1))], [], w) _
            refine e_Ok.run (t' := (13, [(4, (0, y4 + 1)), (2, (0, y2 + 1)), (3, (0, 0)), (5, (0, z8)), (0, (1, 1)), (1, (0, y1))], [], w)) 1 rfl ?_
            refine e_Ok.sub kAlk (e_sub_of rfl ?_) (ih3 y1 (y2 + 1) 0 (y4 + 1) ⟨(by omega), (by first | (have a := kyp_n (i := y4) (by omega) (by rw [hz8]; omega); omega) | (have a := kyp_s (i := y4) (by omega) (by rw [hz8]; omega); omega)), (by omega)⟩ (by omega))
            exact ⟨rfl, rfl, rfl, rfl, rfl, trivial⟩
          · replace h13 : (y3 : Int) ≠ 0 := by have q : ¬ ((y3 : Int) = 0) := h13; omega
            refine e_Ok.run (t' := (45, [(5, (0, z8)), (0, (1, 1)), (1, (0, y1)), (2, (0, y2)), (3, (0, y3)), (4, (0, y4))], [(1, 1), (0, y2)], w)) 2 rfl ?_
            have h14 := (e_Has.get hH (c := 1) (k := 7) (lo := 0) (hi := 4000) rfl (by decide))
            refine e_Ok.getf (z := w 1 7) rfl (el_o rfl) rfl rfl rfl (by omega) ?_
            refine e_Ok.if2 rfl (fun h15 => ?_) (fun h15 => ?_)
            · replace h15 : (y2 : Int) ≥ w 1 7 := h15
              refine e_Ok.run (t' := (68, [(3, (0, 0)), (5, (0, z8)), (0, (1, 1)), (1, (0, y1)), (2, (0, y2)), (4, (0, y4))], [], w)) 2 rfl ?_
              refine e_Ok.inc (z := y2 + 1) rfl rfl (by omega) (by omega) ?_
              show e_Ok 20 elay kcode eI (d + 1) 126 (71, [(2, (0, y2 + 1)), (3, (0, 0)), (5, (0, z8)), (0, (1, 1)), (1, (0, y1)), (4, (0, y4))], [], w) _
              refine e_Ok.run (t' := (98, [(2, (0, y2 + 1)), (3, (0, 0)), (5, (0, z8)), (0, (1, 1)), (1, (0, y1)), (4, (0, y4))], [], w)) 1 rfl ?_
              refine e_Ok.inc (z := y4 + 1) rfl rfl (by omega) (by omega) ?_
              show e_Ok 20 elay kcode eI (d + 1) 126 (101, [(4, (0, y4 + 1)), (2, (0, y2 + 1)), (3, (0, 0)), (5, (0, z8)), (0, (1, 1)), (1, (0, y1))], [], w) _
              refine e_Ok.run (t' := (13, [(4, (0, y4 + 1)), (2, (0, y2 + 1)), (3, (0, 0)), (5, (0, z8)), (0, (1, 1)), (1, (0, y1))], [], w)) 1 rfl ?_
              refine e_Ok.sub kAlk (e_sub_of rfl ?_) (ih3 y1 (y2 + 1) 0 (y4 + 1) ⟨(by omega), (by first | (have a := kyp_n (i := y4) (by omega) (by rw [hz8]; omega); omega) | (have a := kyp_s (i := y4) (by omega) (by rw [hz8]; omega); omega)), (by omega)⟩ (by omega))
              exact ⟨rfl, rfl, rfl, rfl, rfl, trivial⟩
            · replace h15 : (y2 : Int) < w 1 7 := by have q : ¬ ((y2 : Int) ≥ w 1 7) := h15; omega
              refine e_Ok.run (t' := (52, [(5, (0, z8)), (0, (1, 1)), (1, (0, y1)), (2, (0, y2)), (3, (0, y3)), (4, (0, y4))], [(1, 1)], w)) 1 rfl ?_
              refine e_Ok.getr (z := 5) rfl (el_o rfl) rfl rfl (Eq.trans (e_Has.eq hT rfl) (by omega)) (by omega) ?_
              refine e_Ok.run (t' := (56, [(5, (0, z8)), (0, (1, 1)), (1, (0, y1)), (2, (0, y2)), (3, (0, y3)), (4, (0, y4))], [(0, y2), (1, 5)], w)) 1 rfl ?_
              have h16 := (e_Has.get hH (c := 5) (k := y2) (lo := (-2147483648)) (hi := 2147483647) rfl (by decide))
              refine e_Ok.ald (z := w 5 y2) rfl (el_o rfl) rfl (by omega) rfl (by omega) ?_
              refine e_Ok.run (t' := (59, [(5, (0, z8)), (0, (1, 1)), (1, (0, y1)), (2, (0, y2)), (3, (0, y3)), (4, (0, y4))], [(0, z8), (0, w 5 y2)], w)) 1 rfl ?_
              refine e_Ok.if2 rfl (fun h17 => ?_) (fun h17 => ?_)
              · replace h17 : (w 5 y2 : Int) ≠ z8 := h17
                refine e_Ok.run (t' := (68, [(3, (0, 0)), (5, (0, z8)), (0, (1, 1)), (1, (0, y1)), (2, (0, y2)), (4, (0, y4))], [], w)) 2 rfl ?_
                refine e_Ok.inc (z := y2 + 1) rfl rfl (by omega) (by omega) ?_
                show e_Ok 20 elay kcode eI (d + 1) 126 (71, [(2, (0, y2 + 1)), (3, (0, 0)), (5, (0, z8)), (0, (1, 1)), (1, (0, y1)), (4, (0, y4))], [], w) _
                refine e_Ok.run (t' := (98, [(2, (0, y2 + 1)), (3, (0, 0)), (5, (0, z8)), (0, (1, 1)), (1, (0, y1)), (4, (0, y4))], [], w)) 1 rfl ?_
                refine e_Ok.inc (z := y4 + 1) rfl rfl (by omega) (by omega) ?_
                show e_Ok 20 elay kcode eI (d + 1) 126 (101, [(4, (0, y4 + 1)), (2, (0, y2 + 1)), (3, (0, 0)), (5, (0, z8)), (0, (1, 1)), (1, (0, y1))], [], w) _
                refine e_Ok.run (t' := (13, [(4, (0, y4 + 1)), (2, (0, y2 + 1)), (3, (0, 0)), (5, (0, z8)), (0, (1, 1)), (1, (0, y1))], [], w)) 1 rfl ?_
                refine e_Ok.sub kAlk (e_sub_of rfl ?_) (ih3 y1 (y2 + 1) 0 (y4 + 1) ⟨(by omega), (by first | (have a := kyp_n (i := y4) (by omega) (by rw [hz8]; omega); omega) | (have a := kyp_s (i := y4) (by omega) (by rw [hz8]; omega); omega)), (by omega)⟩ (by omega))
                exact ⟨rfl, rfl, rfl, rfl, rfl, trivial⟩
              · replace h17 : (w 5 y2 : Int) = z8 := by have q : ¬ ((w 5 y2 : Int) ≠ z8) := h17; omega
                refine e_Ok.run (t' := (68, [(3, (0, 1)), (5, (0, z8)), (0, (1, 1)), (1, (0, y1)), (2, (0, y2)), (4, (0, y4))], [], w)) 3 rfl ?_
                refine e_Ok.inc (z := y2 + 1) rfl rfl (by omega) (by omega) ?_
                show e_Ok 20 elay kcode eI (d + 1) 126 (71, [(2, (0, y2 + 1)), (3, (0, 1)), (5, (0, z8)), (0, (1, 1)), (1, (0, y1)), (4, (0, y4))], [], w) _
                refine e_Ok.run (t' := (98, [(2, (0, y2 + 1)), (3, (0, 1)), (5, (0, z8)), (0, (1, 1)), (1, (0, y1)), (4, (0, y4))], [], w)) 1 rfl ?_
                refine e_Ok.inc (z := y4 + 1) rfl rfl (by omega) (by omega) ?_
                show e_Ok 20 elay kcode eI (d + 1) 126 (101, [(4, (0, y4 + 1)), (2, (0, y2 + 1)), (3, (0, 1)), (5, (0, z8)), (0, (1, 1)), (1, (0, y1))], [], w) _
                refine e_Ok.run (t' := (13, [(4, (0, y4 + 1)), (2, (0, y2 + 1)), (3, (0, 1)), (5, (0, z8)), (0, (1, 1)), (1, (0, y1))], [], w)) 1 rfl ?_
                refine e_Ok.sub kAlk (e_sub_of rfl ?_) (ih3 y1 (y2 + 1) 1 (y4 + 1) ⟨(by omega), (by first | (have a := kyp_n (i := y4) (by omega) (by rw [hz8]; omega); omega) | (have a := kyp_s (i := y4) (by omega) (by rw [hz8]; omega); omega)), (by omega)⟩ (by omega))
                exact ⟨rfl, rfl, rfl, rfl, rfl, trivial⟩
  refine e_Ok.sub kAlk (e_sub_of rfl ?_) (hL2 (172 + 1 : Int).toNat 21 (w 1 6) 1 0 ⟨(by omega), (by rw [kyp_0]; exact ⟨rfl, by show _ = w 1 6 + (0 : Int); omega⟩), (by omega)⟩ (by omega))
  exact ⟨rfl, rfl, rfl, rfl, rfl, trivial⟩
set_option maxHeartbeats 4000000 in
theorem c_125 {d : Nat} (hd : 22 ≤ d) {w : eW} (hT : e_Has kTy w) (hH : e_Has kRy w) (hn : w 1 7 < w 1 0) (ha : w 1 6 = w 1 7) (hdg : ((97 ≤ w 5 (w 1 7) % 256 ∧ w 5 (w 1 7) % 256 ≤ 122) ∨ (65 ≤ w 5 (w 1 7) % 256 ∧ w 5 (w 1 7) % 256 ≤ 90) ∨ (48 ≤ w 5 (w 1 7) % 256 ∧ w 5 (w 1 7) % 256 ≤ 57))) : e_Ok 20 elay kcode eI d 125 (0, [(0, (1, 1))], [], w) (fun r w' => r = [] ∧ e_fr kRn w w' ∧ e_Has kTy w' ∧ e_Has kRy w' ∧ (w 1 7 < w' 1 7 ∧ w' 1 7 ≤ w 1 0) ∧ ((w' 1 5 = 1 ∨ w' 1 5 = 3 ∨ (21 ≤ w' 1 5 ∧ w' 1 5 ≤ 53)) ∧ (21 ≤ w' 1 5 → w 1 7 + 2 ≤ w' 1 7) ∧ (w' 1 5 = 23 ∨ w' 1 5 = 41 ∨ w' 1 5 = 42 → w 1 7 + 3 ≤ w' 1 7))) := by
  obtain ⟨d, rfl⟩ : ∃ e, d = e + 1 := ⟨d - 1, by omega⟩
  have p0 := e_Has.get hH (c := 1) (k := 0) (lo := 0) (hi := 4000) rfl (by decide)
  have p6 := e_Has.get hH (c := 1) (k := 6) (lo := 0) (hi := 4000) rfl (by decide)
  have p7 := e_Has.get hH (c := 1) (k := 7) (lo := 0) (hi := 4000) rfl (by decide)
  have hL1 : ∀ (nn : Nat) (v1 : eW), e_fr kRn w v1 ∧ e_Has kTy v1 ∧ e_Has kRy v1 ∧ ((w 1 7 ≤ v1 1 7 ∧ v1 1 7 ≤ w 1 0)) ∧ ((w 1 7 < v1 1 7 ∨ (v1 1 7 = w 1 7 ∧ w 5 (v1 1 7) = w 5 (w 1 7)))) → 4001 - v1 1 7 < nn → e_Ok 20 elay kcode eI (d + 1) 125 (0, [(0, (1, 1))], [], v1) (fun r w' => r = [] ∧ e_fr kRn w w' ∧ e_Has kTy w' ∧ e_Has kRy w' ∧ (w 1 7 < w' 1 7 ∧ w' 1 7 ≤ w 1 0) ∧ ((w' 1 5 = 1 ∨ w' 1 5 = 3 ∨ (21 ≤ w' 1 5 ∧ w' 1 5 ≤ 53)) ∧ (21 ≤ w' 1 5 → w 1 7 + 2 ≤ w' 1 7) ∧ (w' 1 5 = 23 ∨ w' 1 5 = 41 ∨ w' 1 5 = 42 → w 1 7 + 3 ≤ w' 1 7))) := by
    intro nn
    induction nn with
    | zero => intro v1 hj hm; obtain ⟨j3, j4, j5, j6, j7⟩ := hj; exfalso; omega
    | succ nn ih2 =>
      intro v1 hj hm
      obtain ⟨j3, j4, j5, j6, j7⟩ := hj
      have u7 := e_Has.get j5 (c := 1) (k := 7) (lo := 0) (hi := 4000) rfl (by decide)
      refine e_Ok.run (t' := (1, [(0, (1, 1))], [(1, 1)], v1)) 1 rfl ?_
      refine e_Ok.getf (z := v1 1 7) rfl (el_o rfl) rfl rfl rfl (by omega) ?_
      refine e_Ok.run (t' := (5, [(0, (1, 1))], [(1, 1), (0, v1 1 7)], v1)) 1 rfl ?_
      have h8 := (e_Has.get hH (c := 1) (k := 0) (lo := 0) (hi := 4000) rfl (by decide))
      refine e_Ok.getf (z := w 1 0) rfl (el_o rfl) rfl rfl ((j3 1 0 (by unfold kRn; omega)).trans rfl) (by omega) ?_
      refine e_Ok.if2 rfl (fun h9 => ?_) (fun h9 => ?_)
      · replace h9 : (v1 1 7 : Int) ≥ w 1 0 := h9
        refine e_Ok.run (t' := (40, [(0, (1, 1))], [(1, 1), (1, 1)], v1)) 2 rfl ?_
        refine e_Ok.getf (z := v1 1 7) rfl (el_o rfl) rfl rfl rfl (by omega) ?_
        refine e_Ok.run (t' := (44, [(0, (1, 1))], [(1, 1), (0, v1 1 7), (1, 1)], v1)) 1 rfl ?_
        have h10 := (e_Has.get hH (c := 1) (k := 6) (lo := 0) (hi := 4000) rfl (by decide))
        refine e_Ok.getf (z := w 1 6) rfl (el_o rfl) rfl rfl ((j3 1 6 (by unfold kRn; omega)).trans rfl) (by omega) ?_
        refine e_Ok.sub' (z := v1 1 7 - w 1 6) rfl (by omega) (by omega) ?_
        refine e_Ok.run (t' := (50, [(0, (1, 1))], [(0, 24), (0, v1 1 7 - w 1 6), (1, 1)], v1)) 1 rfl ?_
        refine e_Ok.if2 rfl (fun h11 => ?_) (fun h11 => ?_)
        · replace h11 : (v1 1 7 - w 1 6 : Int) ≤ 24 := h11
          refine e_Ok.run (t' := (58, [(0, (1, 1))], [(1, 1), (1, 1)], v1)) 1 rfl ?_
          have b6 : v1 1 6 = w 1 6 := ((j3 1 6 (by unfold kRn; omega)).trans rfl)
          have b0 : v1 1 0 = w 1 0 := ((j3 1 0 (by unfold kRn; omega)).trans rfl)
          have b7 : v1 1 7 = v1 1 7 := rfl
          refine e_Ok.callV rfl (by omega) rfl rfl rfl rfl (c_126 (by omega) j4 j5 (by omega) (by omega)) (fun r12 w13 h14 => ?_)
          obtain ⟨z15, rfl, rfl, qk⟩ := h14
          have qkr : 1 ≤ z15 ∧ z15 ≤ 53 := by omega
          show e_Ok 20 elay kcode eI (d + 1) 125 (61, [(0, (1, 1))], [(0, z15), (1, 1)], v1) _
          refine e_Ok.putf rfl (el_o rfl) rfl rfl ?_
          generalize hw16 : e_up v1 1 5 z15 = w16
          have f17 : e_fr kRn w w16 := e_fr.up j3 hw16 (by unfold kRn; omega)
          have hT18 : e_Has kTy w16 := e_Has.ups j4 hw16 rfl
          have hH19 : e_Has kRy w16 := e_Has.upr j5 hw16 rfl (by omega)
          refine e_Ok.rets rfl rfl ?_
          have y5 : w16 1 5 = z15 := (by rw [← hw16]; exact e_up_eq _ _ _ _)
          have y6 : w16 1 6 = w 1 6 := (by rw [← hw16]; exact (e_up_ne _ _ (Or.inr (by omega))).trans ((j3 1 6 (by unfold kRn; omega)).trans rfl))
          have y7 : w16 1 7 = v1 1 7 := (by rw [← hw16]; exact (e_up_ne _ _ (Or.inr (by omega))).trans rfl)
          have y8 : w16 1 8 = v1 1 8 := (by rw [← hw16]; exact (e_up_ne _ _ (Or.inr (by omega))).trans rfl)
          exact ⟨rfl, f17, hT18, hH19, (by omega), ⟨(by omega), (by omega), (by omega)⟩⟩
        · replace h11 : (v1 1 7 - w 1 6 : Int) > 24 := by have q : ¬ ((v1 1 7 - w 1 6 : Int) ≤ 24) := h11; omega
          refine e_Ok.run (t' := (61, [(0, (1, 1))], [(0, 3), (1, 1)], v1)) 2 rfl ?_
          refine e_Ok.putf rfl (el_o rfl) rfl rfl ?_
          generalize hw20 : e_up v1 1 5 3 = w20
          have f21 : e_fr kRn w w20 := e_fr.up j3 hw20 (by unfold kRn; omega)
          have hT22 : e_Has kTy w20 := e_Has.ups j4 hw20 rfl
          have hH23 : e_Has kRy w20 := e_Has.upr j5 hw20 rfl (by omega)
          refine e_Ok.rets rfl rfl ?_
          have y5 : w20 1 5 = 3 := (by rw [← hw20]; exact e_up_eq _ _ _ _)
          have y6 : w20 1 6 = w 1 6 := (by rw [← hw20]; exact (e_up_ne _ _ (Or.inr (by omega))).trans ((j3 1 6 (by unfold kRn; omega)).trans rfl))
          have y7 : w20 1 7 = v1 1 7 := (by rw [← hw20]; exact (e_up_ne _ _ (Or.inr (by omega))).trans rfl)
          have y8 : w20 1 8 = v1 1 8 := (by rw [← hw20]; exact (e_up_ne _ _ (Or.inr (by omega))).trans rfl)
          exact ⟨rfl, f21, hT22, hH23, (by omega), ⟨(by omega), (by omega), (by omega)⟩⟩
      · replace h9 : (v1 1 7 : Int) < w 1 0 := by have q : ¬ ((v1 1 7 : Int) ≥ w 1 0) := h9; omega
        refine e_Ok.run (t' := (13, [(0, (1, 1))], [(1, 1), (1, 1)], v1)) 2 rfl ?_
        refine e_Ok.getf (z := v1 1 7) rfl (el_o rfl) rfl rfl rfl (by omega) ?_
        refine e_Ok.callV rfl (by omega) rfl rfl rfl rfl (c_120 j4 j5 (by omega)) (fun r24 w25 h26 => ?_)
        obtain ⟨z27, rfl, rfl, q28r, q28x⟩ := h26
        replace q28x : (0 ≤ (v1 1 7) ∧ (v1 1 7) < (w 1 0) ∧ z27 = (w 5 (v1 1 7)) % 256) ∨ (((v1 1 7) < 0 ∨ (w 1 0) ≤ (v1 1 7)) ∧ z27 = 0) := by rw [show v1 1 0 = w 1 0 from ((j3 1 0 (by unfold kRn; omega)).trans rfl), show v1 5 (v1 1 7) = w 5 (v1 1 7) from ((j3 5 (v1 1 7) (by unfold kRn; omega)).trans rfl)] at q28x; exact q28x
        show e_Ok 20 elay kcode eI (d + 1) 125 (19, [(0, (1, 1))], [(0, z27)], v1) _
        refine e_Ok.callS rfl (by omega) rfl rfl (c_122 (by omega)) (fun r29 w30 h31 => ?_)
        obtain ⟨z32, rfl, rfl, q33⟩ := h31
        obtain ⟨rfl, q33⟩ | ⟨rfl, q33⟩ := q33
        · show e_Ok 20 elay kcode eI (d + 1) 125 (22, [(0, (1, 1))], [(0, 1)], v1) _
          refine e_Ok.if1 rfl (fun h34 => ?_) (fun h34 => ?_)
          · replace h34 : (1 : Int) = 0 := h34
            exfalso; omega
          · replace h34 : (1 : Int) ≠ 0 := by have q : ¬ ((1 : Int) = 0) := h34; omega
            refine e_Ok.run (t' := (27, [(0, (1, 1))], [(1, 1), (1, 1)], v1)) 2 rfl ?_
            refine e_Ok.getf (z := v1 1 7) rfl (el_o rfl) rfl rfl rfl (by omega) ?_
            refine e_Ok.run (t' := (31, [(0, (1, 1))], [(0, 1), (0, v1 1 7), (1, 1)], v1)) 1 rfl ?_
            refine e_Ok.add (z := v1 1 7 + 1) rfl (by omega) (by omega) ?_
            refine e_Ok.putf rfl (el_o rfl) rfl rfl ?_
            generalize hw35 : e_up v1 1 7 (v1 1 7 + 1) = w35
            have f36 : e_fr kRn w w35 := e_fr.up j3 hw35 (by unfold kRn; omega)
            have hT37 : e_Has kTy w35 := e_Has.ups j4 hw35 rfl
            have hH38 : e_Has kRy w35 := e_Has.upr j5 hw35 rfl (by omega)
            refine e_Ok.run (t' := (0, [(0, (1, 1))], [], w35)) 1 rfl ?_
            refine e_Ok.sub kAlk (e_sub_of rfl ?_) (ih2  w35 ⟨f36, hT37, hH38, (by have g7 : w35 1 7 = v1 1 7 + 1 := (by rw [← hw35]; exact e_up_eq _ _ _ _); omega), (Or.inl (by have g7 : w35 1 7 = v1 1 7 + 1 := (by rw [← hw35]; exact e_up_eq _ _ _ _); omega))⟩ ((by have g7 : w35 1 7 = v1 1 7 + 1 := (by rw [← hw35]; exact e_up_eq _ _ _ _); omega)))
            exact ⟨rfl, trivial⟩
        · show e_Ok 20 elay kcode eI (d + 1) 125 (22, [(0, (1, 1))], [(0, 0)], v1) _
          refine e_Ok.if1 rfl (fun h40 => ?_) (fun h40 => ?_)
          · replace h40 : (0 : Int) = 0 := h40
            refine e_Ok.run (t' := (40, [(0, (1, 1))], [(1, 1), (1, 1)], v1)) 2 rfl ?_
            refine e_Ok.getf (z := v1 1 7) rfl (el_o rfl) rfl rfl rfl (by omega) ?_
            refine e_Ok.run (t' := (44, [(0, (1, 1))], [(1, 1), (0, v1 1 7), (1, 1)], v1)) 1 rfl ?_
            have h41 := (e_Has.get hH (c := 1) (k := 6) (lo := 0) (hi := 4000) rfl (by decide))
            refine e_Ok.getf (z := w 1 6) rfl (el_o rfl) rfl rfl ((j3 1 6 (by unfold kRn; omega)).trans rfl) (by omega) ?_
            refine e_Ok.sub' (z := v1 1 7 - w 1 6) rfl (by omega) (by omega) ?_
            refine e_Ok.run (t' := (50, [(0, (1, 1))], [(0, 24), (0, v1 1 7 - w 1 6), (1, 1)], v1)) 1 rfl ?_
            refine e_Ok.if2 rfl (fun h42 => ?_) (fun h42 => ?_)
            · replace h42 : (v1 1 7 - w 1 6 : Int) ≤ 24 := h42
              refine e_Ok.run (t' := (58, [(0, (1, 1))], [(1, 1), (1, 1)], v1)) 1 rfl ?_
              have b6 : v1 1 6 = w 1 6 := ((j3 1 6 (by unfold kRn; omega)).trans rfl)
              have b0 : v1 1 0 = w 1 0 := ((j3 1 0 (by unfold kRn; omega)).trans rfl)
              have b7 : v1 1 7 = v1 1 7 := rfl
              refine e_Ok.callV rfl (by omega) rfl rfl rfl rfl (c_126 (by omega) j4 j5 (by omega) (by omega)) (fun r43 w44 h45 => ?_)
              obtain ⟨z46, rfl, rfl, qk⟩ := h45
              have qkr : 1 ≤ z46 ∧ z46 ≤ 53 := by omega
              show e_Ok 20 elay kcode eI (d + 1) 125 (61, [(0, (1, 1))], [(0, z46), (1, 1)], v1) _
              refine e_Ok.putf rfl (el_o rfl) rfl rfl ?_
              generalize hw47 : e_up v1 1 5 z46 = w47
              have f48 : e_fr kRn w w47 := e_fr.up j3 hw47 (by unfold kRn; omega)
              have hT49 : e_Has kTy w47 := e_Has.ups j4 hw47 rfl
              have hH50 : e_Has kRy w47 := e_Has.upr j5 hw47 rfl (by omega)
              refine e_Ok.rets rfl rfl ?_
              have y5 : w47 1 5 = z46 := (by rw [← hw47]; exact e_up_eq _ _ _ _)
              have y6 : w47 1 6 = w 1 6 := (by rw [← hw47]; exact (e_up_ne _ _ (Or.inr (by omega))).trans ((j3 1 6 (by unfold kRn; omega)).trans rfl))
              have y7 : w47 1 7 = v1 1 7 := (by rw [← hw47]; exact (e_up_ne _ _ (Or.inr (by omega))).trans rfl)
              have y8 : w47 1 8 = v1 1 8 := (by rw [← hw47]; exact (e_up_ne _ _ (Or.inr (by omega))).trans rfl)
              exact ⟨rfl, f48, hT49, hH50, (by omega), ⟨(by omega), (by omega), (by omega)⟩⟩
            · replace h42 : (v1 1 7 - w 1 6 : Int) > 24 := by have q : ¬ ((v1 1 7 - w 1 6 : Int) ≤ 24) := h42; omega
              refine e_Ok.run (t' := (61, [(0, (1, 1))], [(0, 3), (1, 1)], v1)) 2 rfl ?_
              refine e_Ok.putf rfl (el_o rfl) rfl rfl ?_
              generalize hw51 : e_up v1 1 5 3 = w51
              have f52 : e_fr kRn w w51 := e_fr.up j3 hw51 (by unfold kRn; omega)
              have hT53 : e_Has kTy w51 := e_Has.ups j4 hw51 rfl
              have hH54 : e_Has kRy w51 := e_Has.upr j5 hw51 rfl (by omega)
              refine e_Ok.rets rfl rfl ?_
              have y5 : w51 1 5 = 3 := (by rw [← hw51]; exact e_up_eq _ _ _ _)
              have y6 : w51 1 6 = w 1 6 := (by rw [← hw51]; exact (e_up_ne _ _ (Or.inr (by omega))).trans ((j3 1 6 (by unfold kRn; omega)).trans rfl))
              have y7 : w51 1 7 = v1 1 7 := (by rw [← hw51]; exact (e_up_ne _ _ (Or.inr (by omega))).trans rfl)
              have y8 : w51 1 8 = v1 1 8 := (by rw [← hw51]; exact (e_up_ne _ _ (Or.inr (by omega))).trans rfl)
              exact ⟨rfl, f52, hT53, hH54, (by omega), ⟨(by omega), (by omega), (by omega)⟩⟩
          · replace h40 : (0 : Int) ≠ 0 := by have q : ¬ ((0 : Int) = 0) := h40; omega
            exfalso; omega
  refine e_Ok.sub kAlk (e_sub_of rfl ?_) (hL1 (4001 + 1 : Int).toNat  w ⟨(e_fr.refl w), hT, hH, (by omega), (Or.inr ⟨rfl, rfl⟩)⟩ (by omega))
  exact ⟨rfl, trivial⟩
set_option maxHeartbeats 4000000 in
theorem c_128 {d : Nat} (hd : 21 ≤ d) {w : eW} (hT : e_Has kTy w) (hH : e_Has kRy w) (hn : w 1 7 < w 1 0) (ha : w 1 6 = w 1 7) {c : Int} (g_c : 0 ≤ c ∧ c ≤ 255) : e_Ok 20 elay kcode eI d 128 (0, [(0, (1, 1)), (1, (0, c))], [], w) (fun r w' => r = [] ∧ e_fr kRn w w' ∧ e_Has kTy w' ∧ e_Has kRy w' ∧ (w 1 7 < w' 1 7 ∧ w' 1 7 ≤ w 1 0) ∧ (w' 1 5 = 3 ∨ (5 ≤ w' 1 5 ∧ w' 1 5 ≤ 20))) := by
  obtain ⟨d, rfl⟩ : ∃ e, d = e + 1 := ⟨d - 1, by omega⟩
  have p0 := e_Has.get hH (c := 1) (k := 0) (lo := 0) (hi := 4000) rfl (by decide)
  have p6 := e_Has.get hH (c := 1) (k := 6) (lo := 0) (hi := 4000) rfl (by decide)
  have p7 := e_Has.get hH (c := 1) (k := 7) (lo := 0) (hi := 4000) rfl (by decide)
  refine e_Ok.run (t' := (2, [(0, (1, 1)), (1, (0, c))], [(1, 1), (1, 1)], w)) 2 rfl ?_
  have h1 := (e_Has.get hH (c := 1) (k := 7) (lo := 0) (hi := 4000) rfl (by decide))
  refine e_Ok.getf (z := w 1 7) rfl (el_o rfl) rfl rfl rfl (by omega) ?_
  refine e_Ok.run (t' := (6, [(0, (1, 1)), (1, (0, c))], [(0, 1), (0, w 1 7), (1, 1)], w)) 1 rfl ?_
  refine e_Ok.add (z := w 1 7 + 1) rfl (by omega) (by omega) ?_
  refine e_Ok.putf rfl (el_o rfl) rfl rfl ?_
  generalize hw2 : e_up w 1 7 (w 1 7 + 1) = w2
  have f3 : e_fr kRn w w2 := e_fr.up (e_fr.refl w) hw2 (by unfold kRn; omega)
  have hT4 : e_Has kTy w2 := e_Has.ups hT hw2 rfl
  have hH5 : e_Has kRy w2 := e_Has.upr hH hw2 rfl (by omega)
  refine e_Ok.run (t' := (12, [(0, (1, 1)), (1, (0, c))], [(1, 358)], w2)) 1 rfl ?_
  refine e_Ok.run (t' := (13, [(0, (1, 1)), (1, (0, c))], [(0, c), (1, 358)], w2)) 1 rfl ?_
  refine e_Ok.i2c rfl (fun z6 => ?_)
  refine e_Ok.ix rfl rfl (fun z7 z7r => ?_)
  refine e_Ok.run (t' := (20, [(2, (0, z7)), (0, (1, 1)), (1, (0, c))], [(0, z7), (1, 1)], w2)) 3 rfl ?_
  refine e_Ok.if1 rfl (fun h8 => ?_) (fun h8 => ?_)
  · replace h8 : (z7 : Int) ≥ 0 := h8
    refine e_Ok.run (t' := (30, [(2, (0, z7)), (0, (1, 1)), (1, (0, c))], [(0, z7), (0, 8), (1, 1)], w2)) 2 rfl ?_
    refine e_Ok.add (z := z7 + 8) rfl (by omega) (by omega) ?_
    refine e_Ok.putf rfl (el_o rfl) rfl rfl ?_
    generalize hw9 : e_up w2 1 5 (z7 + 8) = w9
    have f10 : e_fr kRn w w9 := e_fr.up f3 hw9 (by unfold kRn; omega)
    have hT11 : e_Has kTy w9 := e_Has.ups hT4 hw9 rfl
    have hH12 : e_Has kRy w9 := e_Has.upr hH5 hw9 rfl (by omega)
    refine e_Ok.run (t' := (36, [(2, (0, z7)), (0, (1, 1)), (1, (0, c))], [(1, 1), (1, 1)], w9)) 2 rfl ?_
    refine e_Ok.getf (z := w 1 7 + 1) rfl (el_o rfl) rfl rfl (by rw [← hw9]; exact (e_up_ne _ _ (Or.inr (by omega))).trans (by rw [← hw2]; exact e_up_eq _ _ _ _)) (by omega) ?_
    refine e_Ok.callV rfl (by omega) rfl rfl rfl rfl (c_120 hT11 hH12 (by omega)) (fun r13 w14 h15 => ?_)
    obtain ⟨z16, rfl, rfl, q17r, q17x⟩ := h15
    replace q17x : (0 ≤ (w 1 7 + 1) ∧ (w 1 7 + 1) < (w 1 0) ∧ z16 = (w 5 (w 1 7 + 1)) % 256) ∨ (((w 1 7 + 1) < 0 ∨ (w 1 0) ≤ (w 1 7 + 1)) ∧ z16 = 0) := by rw [show w9 1 0 = w 1 0 from (by rw [← hw9]; exact (e_up_ne _ _ (Or.inr (by omega))).trans (by rw [← hw2]; exact (e_up_ne _ _ (Or.inr (by omega))).trans rfl)), show w9 5 (w 1 7 + 1) = w 5 (w 1 7 + 1) from (by rw [← hw9]; exact (e_up_ne _ _ (Or.inl (by omega))).trans (by rw [← hw2]; exact (e_up_ne _ _ (Or.inl (by omega))).trans rfl))] at q17x; exact q17x
    show e_Ok 20 elay kcode eI (d + 1) 128 (42, [(2, (0, z7)), (0, (1, 1)), (1, (0, c))], [(0, z16)], w9) _
    refine e_Ok.run (t' := (44, [(2, (0, z7)), (0, (1, 1)), (1, (0, c))], [(0, 61), (0, z16)], w9)) 1 rfl ?_
    refine e_Ok.if2 rfl (fun h18 => ?_) (fun h18 => ?_)
    · replace h18 : (z16 : Int) = 61 := h18
      refine e_Ok.run (t' := (51, [(2, (0, z7)), (0, (1, 1)), (1, (0, c))], [(0, 33), (0, c)], w9)) 2 rfl ?_
      refine e_Ok.if2 rfl (fun h19 => ?_) (fun h19 => ?_)
      · replace h19 : (c : Int) ≠ 33 := h19
        refine e_Ok.run (t' := (65, [(2, (0, z7)), (0, (1, 1)), (1, (0, c))], [(0, 60), (0, c)], w9)) 2 rfl ?_
        refine e_Ok.if2 rfl (fun h20 => ?_) (fun h20 => ?_)
        · replace h20 : (c : Int) ≠ 60 := h20
          refine e_Ok.run (t' := (80, [(2, (0, z7)), (0, (1, 1)), (1, (0, c))], [(0, 62), (0, c)], w9)) 2 rfl ?_
          refine e_Ok.if2 rfl (fun h21 => ?_) (fun h21 => ?_)
          · replace h21 : (c : Int) ≠ 62 := h21
            refine e_Ok.rets rfl rfl ?_
            have y5 : w9 1 5 = z7 + 8 := (by rw [← hw9]; exact e_up_eq _ _ _ _)
            have y6 : w9 1 6 = w 1 6 := (by rw [← hw9]; exact (e_up_ne _ _ (Or.inr (by omega))).trans (by rw [← hw2]; exact (e_up_ne _ _ (Or.inr (by omega))).trans rfl))
            have y7 : w9 1 7 = w 1 7 + 1 := (by rw [← hw9]; exact (e_up_ne _ _ (Or.inr (by omega))).trans (by rw [← hw2]; exact e_up_eq _ _ _ _))
            have y8 : w9 1 8 = w 1 8 := (by rw [← hw9]; exact (e_up_ne _ _ (Or.inr (by omega))).trans (by rw [← hw2]; exact (e_up_ne _ _ (Or.inr (by omega))).trans rfl))
            exact ⟨rfl, f10, hT11, hH12, (by omega), (by omega)⟩
          · replace h21 : (c : Int) = 62 := by have q : ¬ ((c : Int) ≠ 62) := h21; omega
            refine e_Ok.run (t' := (86, [(2, (0, z7)), (0, (1, 1)), (1, (0, c))], [(0, 7), (1, 1)], w9)) 2 rfl ?_
            refine e_Ok.putf rfl (el_o rfl) rfl rfl ?_
            generalize hw22 : e_up w9 1 5 7 = w22
            have f23 : e_fr kRn w w22 := e_fr.up f10 hw22 (by unfold kRn; omega)
            have hT24 : e_Has kTy w22 := e_Has.ups hT11 hw22 rfl
            have hH25 : e_Has kRy w22 := e_Has.upr hH12 hw22 rfl (by omega)
            refine e_Ok.run (t' := (95, [(2, (0, z7)), (0, (1, 1)), (1, (0, c))], [(1, 1), (1, 1)], w22)) 3 rfl ?_
            refine e_Ok.getf (z := w 1 7 + 1) rfl (el_o rfl) rfl rfl (by rw [← hw22]; exact (e_up_ne _ _ (Or.inr (by omega))).trans (by rw [← hw9]; exact (e_up_ne _ _ (Or.inr (by omega))).trans (by rw [← hw2]; exact e_up_eq _ _ _ _))) (by omega) ?_
            refine e_Ok.run (t' := (99, [(2, (0, z7)), (0, (1, 1)), (1, (0, c))], [(0, 1), (0, w 1 7 + 1), (1, 1)], w22)) 1 rfl ?_
            refine e_Ok.add (z := w 1 7 + 2) rfl (by omega) (by omega) ?_
            refine e_Ok.putf rfl (el_o rfl) rfl rfl ?_
            generalize hw26 : e_up w22 1 7 (w 1 7 + 2) = w26
            have f27 : e_fr kRn w w26 := e_fr.up f23 hw26 (by unfold kRn; omega)
            have hT28 : e_Has kTy w26 := e_Has.ups hT24 hw26 rfl
            have hH29 : e_Has kRy w26 := e_Has.upr hH25 hw26 rfl (by omega)
            refine e_Ok.rets rfl rfl ?_
            have y5 : w26 1 5 = 7 := (by rw [← hw26]; exact (e_up_ne _ _ (Or.inr (by omega))).trans (by rw [← hw22]; exact e_up_eq _ _ _ _))
            have y6 : w26 1 6 = w 1 6 := (by rw [← hw26]; exact (e_up_ne _ _ (Or.inr (by omega))).trans (by rw [← hw22]; exact (e_up_ne _ _ (Or.inr (by omega))).trans (by rw [← hw9]; exact (e_up_ne _ _ (Or.inr (by omega))).trans (by rw [← hw2]; exact (e_up_ne _ _ (Or.inr (by omega))).trans rfl))))
            have y7 : w26 1 7 = w 1 7 + 2 := (by rw [← hw26]; exact e_up_eq _ _ _ _)
            have y8 : w26 1 8 = w 1 8 := (by rw [← hw26]; exact (e_up_ne _ _ (Or.inr (by omega))).trans (by rw [← hw22]; exact (e_up_ne _ _ (Or.inr (by omega))).trans (by rw [← hw9]; exact (e_up_ne _ _ (Or.inr (by omega))).trans (by rw [← hw2]; exact (e_up_ne _ _ (Or.inr (by omega))).trans rfl))))
            exact ⟨rfl, f27, hT28, hH29, (by omega), (by omega)⟩
        · replace h20 : (c : Int) = 60 := by have q : ¬ ((c : Int) ≠ 60) := h20; omega
          refine e_Ok.run (t' := (71, [(2, (0, z7)), (0, (1, 1)), (1, (0, c))], [(0, 6), (1, 1)], w9)) 2 rfl ?_
          refine e_Ok.putf rfl (el_o rfl) rfl rfl ?_
          generalize hw30 : e_up w9 1 5 6 = w30
          have f31 : e_fr kRn w w30 := e_fr.up f10 hw30 (by unfold kRn; omega)
          have hT32 : e_Has kTy w30 := e_Has.ups hT11 hw30 rfl
          have hH33 : e_Has kRy w30 := e_Has.upr hH12 hw30 rfl (by omega)
          refine e_Ok.run (t' := (95, [(2, (0, z7)), (0, (1, 1)), (1, (0, c))], [(1, 1), (1, 1)], w30)) 3 rfl ?_
          refine e_Ok.getf (z := w 1 7 + 1) rfl (el_o rfl) rfl rfl (by rw [← hw30]; exact (e_up_ne _ _ (Or.inr (by omega))).trans (by rw [← hw9]; exact (e_up_ne _ _ (Or.inr (by omega))).trans (by rw [← hw2]; exact e_up_eq _ _ _ _))) (by omega) ?_
          refine e_Ok.run (t' := (99, [(2, (0, z7)), (0, (1, 1)), (1, (0, c))], [(0, 1), (0, w 1 7 + 1), (1, 1)], w30)) 1 rfl ?_
          refine e_Ok.add (z := w 1 7 + 2) rfl (by omega) (by omega) ?_
          refine e_Ok.putf rfl (el_o rfl) rfl rfl ?_
          generalize hw34 : e_up w30 1 7 (w 1 7 + 2) = w34
          have f35 : e_fr kRn w w34 := e_fr.up f31 hw34 (by unfold kRn; omega)
          have hT36 : e_Has kTy w34 := e_Has.ups hT32 hw34 rfl
          have hH37 : e_Has kRy w34 := e_Has.upr hH33 hw34 rfl (by omega)
          refine e_Ok.rets rfl rfl ?_
          have y5 : w34 1 5 = 6 := (by rw [← hw34]; exact (e_up_ne _ _ (Or.inr (by omega))).trans (by rw [← hw30]; exact e_up_eq _ _ _ _))
          have y6 : w34 1 6 = w 1 6 := (by rw [← hw34]; exact (e_up_ne _ _ (Or.inr (by omega))).trans (by rw [← hw30]; exact (e_up_ne _ _ (Or.inr (by omega))).trans (by rw [← hw9]; exact (e_up_ne _ _ (Or.inr (by omega))).trans (by rw [← hw2]; exact (e_up_ne _ _ (Or.inr (by omega))).trans rfl))))
          have y7 : w34 1 7 = w 1 7 + 2 := (by rw [← hw34]; exact e_up_eq _ _ _ _)
          have y8 : w34 1 8 = w 1 8 := (by rw [← hw34]; exact (e_up_ne _ _ (Or.inr (by omega))).trans (by rw [← hw30]; exact (e_up_ne _ _ (Or.inr (by omega))).trans (by rw [← hw9]; exact (e_up_ne _ _ (Or.inr (by omega))).trans (by rw [← hw2]; exact (e_up_ne _ _ (Or.inr (by omega))).trans rfl))))
          exact ⟨rfl, f35, hT36, hH37, (by omega), (by omega)⟩
      · replace h19 : (c : Int) = 33 := by have q : ¬ ((c : Int) ≠ 33) := h19; omega
        refine e_Ok.run (t' := (56, [(2, (0, z7)), (0, (1, 1)), (1, (0, c))], [(0, 5), (1, 1)], w9)) 2 rfl ?_
        refine e_Ok.putf rfl (el_o rfl) rfl rfl ?_
        generalize hw38 : e_up w9 1 5 5 = w38
        have f40 : e_fr kRn w w38 := e_fr.up f10 hw38 (by unfold kRn; omega)
        have hT41 : e_Has kTy w38 := e_Has.ups hT11 hw38 rfl
        have hH42 : e_Has kRy w38 := e_Has.upr hH12 hw38 rfl (by omega)
        refine e_Ok.run (t' := (95, [(2, (0, z7)), (0, (1, 1)), (1, (0, c))], [(1, 1), (1, 1)], w38)) 3 rfl ?_
        refine e_Ok.getf (z := w 1 7 + 1) rfl (el_o rfl) rfl rfl (by rw [← hw38]; exact (e_up_ne _ _ (Or.inr (by omega))).trans (by rw [← hw9]; exact (e_up_ne _ _ (Or.inr (by omega))).trans (by rw [← hw2]; exact e_up_eq _ _ _ _))) (by omega) ?_
        refine e_Ok.run (t' := (99, [(2, (0, z7)), (0, (1, 1)), (1, (0, c))], [(0, 1), (0, w 1 7 + 1), (1, 1)], w38)) 1 rfl ?_
        refine e_Ok.add (z := w 1 7 + 2) rfl (by omega) (by omega) ?_
        refine e_Ok.putf rfl (el_o rfl) rfl rfl ?_
        generalize hw43 : e_up w38 1 7 (w 1 7 + 2) = w43
        have f44 : e_fr kRn w w43 := e_fr.up f40 hw43 (by unfold kRn; omega)
        have hT45 : e_Has kTy w43 := e_Has.ups hT41 hw43 rfl
        have hH46 : e_Has kRy w43 := e_Has.upr hH42 hw43 rfl (by omega)
        refine e_Ok.rets rfl rfl ?_
        have y5 : w43 1 5 = 5 := (by rw [← hw43]; exact (e_up_ne _ _ (Or.inr (by omega))).trans (by rw [← hw38]; exact e_up_eq _ _ _ _))
        have y6 : w43 1 6 = w 1 6 := (by rw [← hw43]; exact (e_up_ne _ _ (Or.inr (by omega))).trans (by rw [← hw38]; exact (e_up_ne _ _ (Or.inr (by omega))).trans (by rw [← hw9]; exact (e_up_ne _ _ (Or.inr (by omega))).trans (by rw [← hw2]; exact (e_up_ne _ _ (Or.inr (by omega))).trans rfl))))
        have y7 : w43 1 7 = w 1 7 + 2 := (by rw [← hw43]; exact e_up_eq _ _ _ _)
        have y8 : w43 1 8 = w 1 8 := (by rw [← hw43]; exact (e_up_ne _ _ (Or.inr (by omega))).trans (by rw [← hw38]; exact (e_up_ne _ _ (Or.inr (by omega))).trans (by rw [← hw9]; exact (e_up_ne _ _ (Or.inr (by omega))).trans (by rw [← hw2]; exact (e_up_ne _ _ (Or.inr (by omega))).trans rfl))))
        exact ⟨rfl, f44, hT45, hH46, (by omega), (by omega)⟩
    · replace h18 : (z16 : Int) ≠ 61 := by have q : ¬ ((z16 : Int) = 61) := h18; omega
      refine e_Ok.rets rfl rfl ?_
      have y5 : w9 1 5 = z7 + 8 := (by rw [← hw9]; exact e_up_eq _ _ _ _)
      have y6 : w9 1 6 = w 1 6 := (by rw [← hw9]; exact (e_up_ne _ _ (Or.inr (by omega))).trans (by rw [← hw2]; exact (e_up_ne _ _ (Or.inr (by omega))).trans rfl))
      have y7 : w9 1 7 = w 1 7 + 1 := (by rw [← hw9]; exact (e_up_ne _ _ (Or.inr (by omega))).trans (by rw [← hw2]; exact e_up_eq _ _ _ _))
      have y8 : w9 1 8 = w 1 8 := (by rw [← hw9]; exact (e_up_ne _ _ (Or.inr (by omega))).trans (by rw [← hw2]; exact (e_up_ne _ _ (Or.inr (by omega))).trans rfl))
      exact ⟨rfl, f10, hT11, hH12, (by omega), (by omega)⟩
  · replace h8 : (z7 : Int) < 0 := by have q : ¬ ((z7 : Int) ≥ 0) := h8; omega
    refine e_Ok.run (t' := (31, [(2, (0, z7)), (0, (1, 1)), (1, (0, c))], [(0, 3), (1, 1)], w2)) 2 rfl ?_
    refine e_Ok.putf rfl (el_o rfl) rfl rfl ?_
    generalize hw47 : e_up w2 1 5 3 = w47
    have f48 : e_fr kRn w w47 := e_fr.up f3 hw47 (by unfold kRn; omega)
    have hT49 : e_Has kTy w47 := e_Has.ups hT4 hw47 rfl
    have hH50 : e_Has kRy w47 := e_Has.upr hH5 hw47 rfl (by omega)
    refine e_Ok.run (t' := (36, [(2, (0, z7)), (0, (1, 1)), (1, (0, c))], [(1, 1), (1, 1)], w47)) 2 rfl ?_
    refine e_Ok.getf (z := w 1 7 + 1) rfl (el_o rfl) rfl rfl (by rw [← hw47]; exact (e_up_ne _ _ (Or.inr (by omega))).trans (by rw [← hw2]; exact e_up_eq _ _ _ _)) (by omega) ?_
    refine e_Ok.callV rfl (by omega) rfl rfl rfl rfl (c_120 hT49 hH50 (by omega)) (fun r51 w52 h53 => ?_)
    obtain ⟨z54, rfl, rfl, q55r, q55x⟩ := h53
    replace q55x : (0 ≤ (w 1 7 + 1) ∧ (w 1 7 + 1) < (w 1 0) ∧ z54 = (w 5 (w 1 7 + 1)) % 256) ∨ (((w 1 7 + 1) < 0 ∨ (w 1 0) ≤ (w 1 7 + 1)) ∧ z54 = 0) := by rw [show w47 1 0 = w 1 0 from (by rw [← hw47]; exact (e_up_ne _ _ (Or.inr (by omega))).trans (by rw [← hw2]; exact (e_up_ne _ _ (Or.inr (by omega))).trans rfl)), show w47 5 (w 1 7 + 1) = w 5 (w 1 7 + 1) from (by rw [← hw47]; exact (e_up_ne _ _ (Or.inl (by omega))).trans (by rw [← hw2]; exact (e_up_ne _ _ (Or.inl (by omega))).trans rfl))] at q55x; exact q55x
    show e_Ok 20 elay kcode eI (d + 1) 128 (42, [(2, (0, z7)), (0, (1, 1)), (1, (0, c))], [(0, z54)], w47) _
    refine e_Ok.run (t' := (44, [(2, (0, z7)), (0, (1, 1)), (1, (0, c))], [(0, 61), (0, z54)], w47)) 1 rfl ?_
    refine e_Ok.if2 rfl (fun h56 => ?_) (fun h56 => ?_)
    · replace h56 : (z54 : Int) = 61 := h56
      refine e_Ok.run (t' := (51, [(2, (0, z7)), (0, (1, 1)), (1, (0, c))], [(0, 33), (0, c)], w47)) 2 rfl ?_
      refine e_Ok.if2 rfl (fun h57 => ?_) (fun h57 => ?_)
      · replace h57 : (c : Int) ≠ 33 := h57
        refine e_Ok.run (t' := (65, [(2, (0, z7)), (0, (1, 1)), (1, (0, c))], [(0, 60), (0, c)], w47)) 2 rfl ?_
        refine e_Ok.if2 rfl (fun h58 => ?_) (fun h58 => ?_)
        · replace h58 : (c : Int) ≠ 60 := h58
          refine e_Ok.run (t' := (80, [(2, (0, z7)), (0, (1, 1)), (1, (0, c))], [(0, 62), (0, c)], w47)) 2 rfl ?_
          refine e_Ok.if2 rfl (fun h59 => ?_) (fun h59 => ?_)
          · replace h59 : (c : Int) ≠ 62 := h59
            refine e_Ok.rets rfl rfl ?_
            have y5 : w47 1 5 = 3 := (by rw [← hw47]; exact e_up_eq _ _ _ _)
            have y6 : w47 1 6 = w 1 6 := (by rw [← hw47]; exact (e_up_ne _ _ (Or.inr (by omega))).trans (by rw [← hw2]; exact (e_up_ne _ _ (Or.inr (by omega))).trans rfl))
            have y7 : w47 1 7 = w 1 7 + 1 := (by rw [← hw47]; exact (e_up_ne _ _ (Or.inr (by omega))).trans (by rw [← hw2]; exact e_up_eq _ _ _ _))
            have y8 : w47 1 8 = w 1 8 := (by rw [← hw47]; exact (e_up_ne _ _ (Or.inr (by omega))).trans (by rw [← hw2]; exact (e_up_ne _ _ (Or.inr (by omega))).trans rfl))
            exact ⟨rfl, f48, hT49, hH50, (by omega), (by omega)⟩
          · replace h59 : (c : Int) = 62 := by have q : ¬ ((c : Int) ≠ 62) := h59; omega
            refine e_Ok.run (t' := (86, [(2, (0, z7)), (0, (1, 1)), (1, (0, c))], [(0, 7), (1, 1)], w47)) 2 rfl ?_
            refine e_Ok.putf rfl (el_o rfl) rfl rfl ?_
            generalize hw60 : e_up w47 1 5 7 = w60
            have f61 : e_fr kRn w w60 := e_fr.up f48 hw60 (by unfold kRn; omega)
            have hT62 : e_Has kTy w60 := e_Has.ups hT49 hw60 rfl
            have hH63 : e_Has kRy w60 := e_Has.upr hH50 hw60 rfl (by omega)
            refine e_Ok.run (t' := (95, [(2, (0, z7)), (0, (1, 1)), (1, (0, c))], [(1, 1), (1, 1)], w60)) 3 rfl ?_
            refine e_Ok.getf (z := w 1 7 + 1) rfl (el_o rfl) rfl rfl (by rw [← hw60]; exact (e_up_ne _ _ (Or.inr (by omega))).trans (by rw [← hw47]; exact (e_up_ne _ _ (Or.inr (by omega))).trans (by rw [← hw2]; exact e_up_eq _ _ _ _))) (by omega) ?_
            refine e_Ok.run (t' := (99, [(2, (0, z7)), (0, (1, 1)), (1, (0, c))], [(0, 1), (0, w 1 7 + 1), (1, 1)], w60)) 1 rfl ?_
            refine e_Ok.add (z := w 1 7 + 2) rfl (by omega) (by omega) ?_
            refine e_Ok.putf rfl (el_o rfl) rfl rfl ?_
            generalize hw64 : e_up w60 1 7 (w 1 7 + 2) = w64
            have f65 : e_fr kRn w w64 := e_fr.up f61 hw64 (by unfold kRn; omega)
            have hT66 : e_Has kTy w64 := e_Has.ups hT62 hw64 rfl
            have hH67 : e_Has kRy w64 := e_Has.upr hH63 hw64 rfl (by omega)
            refine e_Ok.rets rfl rfl ?_
            have y5 : w64 1 5 = 7 := (by rw [← hw64]; exact (e_up_ne _ _ (Or.inr (by omega))).trans (by rw [← hw60]; exact e_up_eq _ _ _ _))
            have y6 : w64 1 6 = w 1 6 := (by rw [← hw64]; exact (e_up_ne _ _ (Or.inr (by omega))).trans (by rw [← hw60]; exact (e_up_ne _ _ (Or.inr (by omega))).trans (by rw [← hw47]; exact (e_up_ne _ _ (Or.inr (by omega))).trans (by rw [← hw2]; exact (e_up_ne _ _ (Or.inr (by omega))).trans rfl))))
            have y7 : w64 1 7 = w 1 7 + 2 := (by rw [← hw64]; exact e_up_eq _ _ _ _)
            have y8 : w64 1 8 = w 1 8 := (by rw [← hw64]; exact (e_up_ne _ _ (Or.inr (by omega))).trans (by rw [← hw60]; exact (e_up_ne _ _ (Or.inr (by omega))).trans (by rw [← hw47]; exact (e_up_ne _ _ (Or.inr (by omega))).trans (by rw [← hw2]; exact (e_up_ne _ _ (Or.inr (by omega))).trans rfl))))
            exact ⟨rfl, f65, hT66, hH67, (by omega), (by omega)⟩
        · replace h58 : (c : Int) = 60 := by have q : ¬ ((c : Int) ≠ 60) := h58; omega
          refine e_Ok.run (t' := (71, [(2, (0, z7)), (0, (1, 1)), (1, (0, c))], [(0, 6), (1, 1)], w47)) 2 rfl ?_
          refine e_Ok.putf rfl (el_o rfl) rfl rfl ?_
          generalize hw68 : e_up w47 1 5 6 = w68
          have f69 : e_fr kRn w w68 := e_fr.up f48 hw68 (by unfold kRn; omega)
          have hT70 : e_Has kTy w68 := e_Has.ups hT49 hw68 rfl
          have hH71 : e_Has kRy w68 := e_Has.upr hH50 hw68 rfl (by omega)
          refine e_Ok.run (t' := (95, [(2, (0, z7)), (0, (1, 1)), (1, (0, c))], [(1, 1), (1, 1)], w68)) 3 rfl ?_
          refine e_Ok.getf (z := w 1 7 + 1) rfl (el_o rfl) rfl rfl (by rw [← hw68]; exact (e_up_ne _ _ (Or.inr (by omega))).trans (by rw [← hw47]; exact (e_up_ne _ _ (Or.inr (by omega))).trans (by rw [← hw2]; exact e_up_eq _ _ _ _))) (by omega) ?_
          refine e_Ok.run (t' := (99, [(2, (0, z7)), (0, (1, 1)), (1, (0, c))], [(0, 1), (0, w 1 7 + 1), (1, 1)], w68)) 1 rfl ?_
          refine e_Ok.add (z := w 1 7 + 2) rfl (by omega) (by omega) ?_
          refine e_Ok.putf rfl (el_o rfl) rfl rfl ?_
          generalize hw72 : e_up w68 1 7 (w 1 7 + 2) = w72
          have f73 : e_fr kRn w w72 := e_fr.up f69 hw72 (by unfold kRn; omega)
          have hT74 : e_Has kTy w72 := e_Has.ups hT70 hw72 rfl
          have hH75 : e_Has kRy w72 := e_Has.upr hH71 hw72 rfl (by omega)
          refine e_Ok.rets rfl rfl ?_
          have y5 : w72 1 5 = 6 := (by rw [← hw72]; exact (e_up_ne _ _ (Or.inr (by omega))).trans (by rw [← hw68]; exact e_up_eq _ _ _ _))
          have y6 : w72 1 6 = w 1 6 := (by rw [← hw72]; exact (e_up_ne _ _ (Or.inr (by omega))).trans (by rw [← hw68]; exact (e_up_ne _ _ (Or.inr (by omega))).trans (by rw [← hw47]; exact (e_up_ne _ _ (Or.inr (by omega))).trans (by rw [← hw2]; exact (e_up_ne _ _ (Or.inr (by omega))).trans rfl))))
          have y7 : w72 1 7 = w 1 7 + 2 := (by rw [← hw72]; exact e_up_eq _ _ _ _)
          have y8 : w72 1 8 = w 1 8 := (by rw [← hw72]; exact (e_up_ne _ _ (Or.inr (by omega))).trans (by rw [← hw68]; exact (e_up_ne _ _ (Or.inr (by omega))).trans (by rw [← hw47]; exact (e_up_ne _ _ (Or.inr (by omega))).trans (by rw [← hw2]; exact (e_up_ne _ _ (Or.inr (by omega))).trans rfl))))
          exact ⟨rfl, f73, hT74, hH75, (by omega), (by omega)⟩
      · replace h57 : (c : Int) = 33 := by have q : ¬ ((c : Int) ≠ 33) := h57; omega
        refine e_Ok.run (t' := (56, [(2, (0, z7)), (0, (1, 1)), (1, (0, c))], [(0, 5), (1, 1)], w47)) 2 rfl ?_
        refine e_Ok.putf rfl (el_o rfl) rfl rfl ?_
        generalize hw76 : e_up w47 1 5 5 = w76
        have f77 : e_fr kRn w w76 := e_fr.up f48 hw76 (by unfold kRn; omega)
        have hT78 : e_Has kTy w76 := e_Has.ups hT49 hw76 rfl
        have hH79 : e_Has kRy w76 := e_Has.upr hH50 hw76 rfl (by omega)
        refine e_Ok.run (t' := (95, [(2, (0, z7)), (0, (1, 1)), (1, (0, c))], [(1, 1), (1, 1)], w76)) 3 rfl ?_
        refine e_Ok.getf (z := w 1 7 + 1) rfl (el_o rfl) rfl rfl (by rw [← hw76]; exact (e_up_ne _ _ (Or.inr (by omega))).trans (by rw [← hw47]; exact (e_up_ne _ _ (Or.inr (by omega))).trans (by rw [← hw2]; exact e_up_eq _ _ _ _))) (by omega) ?_
        refine e_Ok.run (t' := (99, [(2, (0, z7)), (0, (1, 1)), (1, (0, c))], [(0, 1), (0, w 1 7 + 1), (1, 1)], w76)) 1 rfl ?_
        refine e_Ok.add (z := w 1 7 + 2) rfl (by omega) (by omega) ?_
        refine e_Ok.putf rfl (el_o rfl) rfl rfl ?_
        generalize hw80 : e_up w76 1 7 (w 1 7 + 2) = w80
        have f81 : e_fr kRn w w80 := e_fr.up f77 hw80 (by unfold kRn; omega)
        have hT82 : e_Has kTy w80 := e_Has.ups hT78 hw80 rfl
        have hH83 : e_Has kRy w80 := e_Has.upr hH79 hw80 rfl (by omega)
        refine e_Ok.rets rfl rfl ?_
        have y5 : w80 1 5 = 5 := (by rw [← hw80]; exact (e_up_ne _ _ (Or.inr (by omega))).trans (by rw [← hw76]; exact e_up_eq _ _ _ _))
        have y6 : w80 1 6 = w 1 6 := (by rw [← hw80]; exact (e_up_ne _ _ (Or.inr (by omega))).trans (by rw [← hw76]; exact (e_up_ne _ _ (Or.inr (by omega))).trans (by rw [← hw47]; exact (e_up_ne _ _ (Or.inr (by omega))).trans (by rw [← hw2]; exact (e_up_ne _ _ (Or.inr (by omega))).trans rfl))))
        have y7 : w80 1 7 = w 1 7 + 2 := (by rw [← hw80]; exact e_up_eq _ _ _ _)
        have y8 : w80 1 8 = w 1 8 := (by rw [← hw80]; exact (e_up_ne _ _ (Or.inr (by omega))).trans (by rw [← hw76]; exact (e_up_ne _ _ (Or.inr (by omega))).trans (by rw [← hw47]; exact (e_up_ne _ _ (Or.inr (by omega))).trans (by rw [← hw2]; exact (e_up_ne _ _ (Or.inr (by omega))).trans rfl))))
        exact ⟨rfl, f81, hT82, hH83, (by omega), (by omega)⟩
    · replace h56 : (z54 : Int) ≠ 61 := by have q : ¬ ((z54 : Int) = 61) := h56; omega
      refine e_Ok.rets rfl rfl ?_
      have y5 : w47 1 5 = 3 := (by rw [← hw47]; exact e_up_eq _ _ _ _)
      have y6 : w47 1 6 = w 1 6 := (by rw [← hw47]; exact (e_up_ne _ _ (Or.inr (by omega))).trans (by rw [← hw2]; exact (e_up_ne _ _ (Or.inr (by omega))).trans rfl))
      have y7 : w47 1 7 = w 1 7 + 1 := (by rw [← hw47]; exact (e_up_ne _ _ (Or.inr (by omega))).trans (by rw [← hw2]; exact e_up_eq _ _ _ _))
      have y8 : w47 1 8 = w 1 8 := (by rw [← hw47]; exact (e_up_ne _ _ (Or.inr (by omega))).trans (by rw [← hw2]; exact (e_up_ne _ _ (Or.inr (by omega))).trans rfl))
      exact ⟨rfl, f48, hT49, hH50, (by omega), (by omega)⟩
set_option maxHeartbeats 4000000 in
theorem c_123 {d : Nat} (hd : 24 ≤ d) {w : eW} (hT : e_Has kTy w) (hH : e_Has kRy w) (hn : w 1 7 ≤ w 1 0) : e_Ok 20 elay kcode eI d 123 (0, [(0, (1, 1))], [], w) (fun r w' => r = [] ∧ e_fr kRa w w' ∧ e_Has kTy w' ∧ e_Has kRy w' ∧ tkR w' ∧ w 1 7 ≤ w' 1 6 ∧ w' 1 5 ≠ 4) := by
  obtain ⟨d, rfl⟩ : ∃ e, d = e + 1 := ⟨d - 1, by omega⟩
  have p0 := e_Has.get hH (c := 1) (k := 0) (lo := 0) (hi := 4000) rfl (by decide)
  have p6 := e_Has.get hH (c := 1) (k := 6) (lo := 0) (hi := 4000) rfl (by decide)
  have p7 := e_Has.get hH (c := 1) (k := 7) (lo := 0) (hi := 4000) rfl (by decide)
  refine e_Ok.run (t' := (1, [(0, (1, 1))], [(1, 1)], w)) 1 rfl ?_
  have n4_0 : w 1 0 = w 1 0 := rfl
  have n4_5 : w 1 5 = w 1 5 := rfl
  have n4_6 : w 1 6 = w 1 6 := rfl
  have n4_7 : w 1 7 = w 1 7 := rfl
  have n4_8 : w 1 8 = w 1 8 := rfl
  refine e_Ok.callV rfl (by omega) rfl rfl rfl rfl (c_124 (by omega) hT hH (by omega)) (fun r1 w2 h3 => ?_)
  obtain ⟨rfl, q5f, q5T, q5H, q5x⟩ := h3
  have f6 : e_fr kRa w w2 := e_fr.trans (e_fr.refl w) (e_fr.mono q5f (fun c k q => by unfold kRn at q; unfold kRa; omega))
  have q57 := e_Has.get q5H (c := 1) (k := 7) (lo := 0) (hi := 4000) rfl (by decide)
  show e_Ok 20 elay kcode eI (d + 1) 123 (4, [(0, (1, 1))], [], w2) _
  refine e_Ok.run (t' := (6, [(0, (1, 1))], [(1, 1), (1, 1)], w2)) 2 rfl ?_
  refine e_Ok.getf (z := w2 1 7) rfl (el_o rfl) rfl rfl rfl (by omega) ?_
  refine e_Ok.putf rfl (el_o rfl) rfl rfl ?_
  generalize hw7 : e_up w2 1 6 (w2 1 7) = w7
  have f8 : e_fr kRa w w7 := e_fr.up f6 hw7 (by unfold kRa; omega)
  have hT9 : e_Has kTy w7 := e_Has.ups q5T hw7 rfl
  have hH10 : e_Has kRy w7 := e_Has.upr q5H hw7 rfl (by omega)
  refine e_Ok.run (t' := (14, [(0, (1, 1))], [(1, 1), (1, 1)], w7)) 2 rfl ?_
  refine e_Ok.getf (z := w2 1 7) rfl (el_o rfl) rfl rfl (by rw [← hw7]; exact (e_up_ne _ _ (Or.inr (by omega))).trans rfl) (by omega) ?_
  refine e_Ok.callV rfl (by omega) rfl rfl rfl rfl (c_120 hT9 hH10 (by omega)) (fun r11 w12 h13 => ?_)
  obtain ⟨z14, rfl, rfl, q15r, q15x⟩ := h13
  replace q15x : (0 ≤ (w2 1 7) ∧ (w2 1 7) < (w 1 0) ∧ z14 = (w 5 (w2 1 7)) % 256) ∨ (((w2 1 7) < 0 ∨ (w 1 0) ≤ (w2 1 7)) ∧ z14 = 0) := by rw [show w7 1 0 = w 1 0 from (by rw [← hw7]; exact (e_up_ne _ _ (Or.inr (by omega))).trans ((q5f 1 0 (by unfold kRn; omega)).trans rfl)), show w7 5 (w2 1 7) = w 5 (w2 1 7) from (by rw [← hw7]; exact (e_up_ne _ _ (Or.inl (by omega))).trans ((q5f 5 (w2 1 7) (by unfold kRn; omega)).trans rfl))] at q15x; exact q15x
  show e_Ok 20 elay kcode eI (d + 1) 123 (20, [(0, (1, 1))], [(0, z14)], w7) _
  refine e_Ok.run (t' := (22, [(1, (0, z14)), (0, (1, 1))], [(1, 1)], w7)) 2 rfl ?_
  refine e_Ok.getf (z := w2 1 7) rfl (el_o rfl) rfl rfl (by rw [← hw7]; exact (e_up_ne _ _ (Or.inr (by omega))).trans rfl) (by omega) ?_
  refine e_Ok.run (t' := (26, [(1, (0, z14)), (0, (1, 1))], [(1, 1), (0, w2 1 7)], w7)) 1 rfl ?_
  refine e_Ok.getf (z := w 1 0) rfl (el_o rfl) rfl rfl (by rw [← hw7]; exact (e_up_ne _ _ (Or.inr (by omega))).trans ((q5f 1 0 (by unfold kRn; omega)).trans rfl)) (by omega) ?_
  refine e_Ok.if2 rfl (fun h16 => ?_) (fun h16 => ?_)
  · replace h16 : (w2 1 7 : Int) < w 1 0 := h16
    refine e_Ok.run (t' := (41, [(1, (0, z14)), (0, (1, 1))], [(0, z14)], w7)) 1 rfl ?_
    refine e_Ok.callS rfl (by omega) rfl rfl (c_121 (by omega)) (fun r17 w18 h19 => ?_)
    obtain ⟨z20, rfl, rfl, q21⟩ := h19
    obtain ⟨rfl, q21⟩ | ⟨rfl, q21⟩ := q21
    · show e_Ok 20 elay kcode eI (d + 1) 123 (44, [(1, (0, z14)), (0, (1, 1))], [(0, 1)], w7) _
      refine e_Ok.if1 rfl (fun h22 => ?_) (fun h22 => ?_)
      · replace h22 : (1 : Int) = 0 := h22
        exfalso; omega
      · replace h22 : (1 : Int) ≠ 0 := by have q : ¬ ((1 : Int) = 0) := h22; omega
        refine e_Ok.run (t' := (48, [(1, (0, z14)), (0, (1, 1))], [(1, 1)], w7)) 1 rfl ?_
        have n26_0 : w7 1 0 = w 1 0 := (by rw [← hw7]; exact (e_up_ne _ _ (Or.inr (by omega))).trans ((q5f 1 0 (by unfold kRn; omega)).trans rfl))
        have n26_5 : w7 1 5 = w2 1 5 := (by rw [← hw7]; exact (e_up_ne _ _ (Or.inr (by omega))).trans rfl)
        have n26_6 : w7 1 6 = w2 1 7 := (by rw [← hw7]; exact e_up_eq _ _ _ _)
        have n26_7 : w7 1 7 = w2 1 7 := (by rw [← hw7]; exact (e_up_ne _ _ (Or.inr (by omega))).trans rfl)
        have n26_8 : w7 1 8 = w2 1 8 := (by rw [← hw7]; exact (e_up_ne _ _ (Or.inr (by omega))).trans rfl)
        have n26_b : w7 5 (w7 1 7) = w 5 (w2 1 7) := by rw [n26_7]; exact (by rw [← hw7]; exact (e_up_ne _ _ (Or.inl (by omega))).trans ((q5f 5 (w2 1 7) (by unfold kRn; omega)).trans rfl))
        refine e_Ok.callV rfl (by omega) rfl rfl rfl rfl (c_127 (by omega) hT9 hH10 (by omega) (by omega) (by rw [n26_b]; omega)) (fun r23 w24 h25 => ?_)
        obtain ⟨rfl, q27f, q27T, q27H, q27x⟩ := h25
        have f28 : e_fr kRa w w24 := e_fr.trans f8 (e_fr.mono q27f (fun c k q => by unfold kRn at q; unfold kRa; omega))
        have q277 := e_Has.get q27H (c := 1) (k := 7) (lo := 0) (hi := 4000) rfl (by decide)
        show e_Ok 20 elay kcode eI (d + 1) 123 (51, [(1, (0, z14)), (0, (1, 1))], [], w24) _
        refine e_Ok.run (t' := (73, [(1, (0, z14)), (0, (1, 1))], [], w24)) 1 rfl ?_
        refine e_Ok.rets rfl rfl ?_
        have y0 : w24 1 0 = w 1 0 := ((q27f 1 0 (by unfold kRn; omega)).trans (by rw [← hw7]; exact (e_up_ne _ _ (Or.inr (by omega))).trans ((q5f 1 0 (by unfold kRn; omega)).trans rfl)))
        have y5 : w24 1 5 = w24 1 5 := rfl
        have y6 : w24 1 6 = w2 1 7 := ((q27f 1 6 (by unfold kRn; omega)).trans (by rw [← hw7]; exact e_up_eq _ _ _ _))
        have y7 : w24 1 7 = w24 1 7 := rfl
        have y8 : w24 1 8 = w24 1 8 := rfl
        exact ⟨rfl, f28, q27T, q27H, (by unfold tkR; omega), by omega, by omega⟩
    · show e_Ok 20 elay kcode eI (d + 1) 123 (44, [(1, (0, z14)), (0, (1, 1))], [(0, 0)], w7) _
      refine e_Ok.if1 rfl (fun h29 => ?_) (fun h29 => ?_)
      · replace h29 : (0 : Int) = 0 := h29
        refine e_Ok.run (t' := (55, [(1, (0, z14)), (0, (1, 1))], [(0, z14)], w7)) 1 rfl ?_
        refine e_Ok.callS rfl (by omega) rfl rfl (c_122 (by omega)) (fun r30 w31 h32 => ?_)
        obtain ⟨z33, rfl, rfl, q34⟩ := h32
        obtain ⟨rfl, q34⟩ | ⟨rfl, q34⟩ := q34
        · show e_Ok 20 elay kcode eI (d + 1) 123 (58, [(1, (0, z14)), (0, (1, 1))], [(0, 1)], w7) _
          refine e_Ok.if1 rfl (fun h35 => ?_) (fun h35 => ?_)
          · replace h35 : (1 : Int) = 0 := h35
            exfalso; omega
          · replace h35 : (1 : Int) ≠ 0 := by have q : ¬ ((1 : Int) = 0) := h35; omega
            refine e_Ok.run (t' := (62, [(1, (0, z14)), (0, (1, 1))], [(1, 1)], w7)) 1 rfl ?_
            have n40_0 : w7 1 0 = w 1 0 := (by rw [← hw7]; exact (e_up_ne _ _ (Or.inr (by omega))).trans ((q5f 1 0 (by unfold kRn; omega)).trans rfl))
            have n40_5 : w7 1 5 = w2 1 5 := (by rw [← hw7]; exact (e_up_ne _ _ (Or.inr (by omega))).trans rfl)
            have n40_6 : w7 1 6 = w2 1 7 := (by rw [← hw7]; exact e_up_eq _ _ _ _)
            have n40_7 : w7 1 7 = w2 1 7 := (by rw [← hw7]; exact (e_up_ne _ _ (Or.inr (by omega))).trans rfl)
            have n40_8 : w7 1 8 = w2 1 8 := (by rw [← hw7]; exact (e_up_ne _ _ (Or.inr (by omega))).trans rfl)
            have n40_b : w7 5 (w7 1 7) = w 5 (w2 1 7) := by rw [n40_7]; exact (by rw [← hw7]; exact (e_up_ne _ _ (Or.inl (by omega))).trans ((q5f 5 (w2 1 7) (by unfold kRn; omega)).trans rfl))
            refine e_Ok.callV rfl (by omega) rfl rfl rfl rfl (c_125 (by omega) hT9 hH10 (by omega) (by omega) (by rw [n40_b]; omega)) (fun r36 w37 h38 => ?_)
            obtain ⟨rfl, q41f, q41T, q41H, q41x⟩ := h38
            have f42 : e_fr kRa w w37 := e_fr.trans f8 (e_fr.mono q41f (fun c k q => by unfold kRn at q; unfold kRa; omega))
            have q417 := e_Has.get q41H (c := 1) (k := 7) (lo := 0) (hi := 4000) rfl (by decide)
            show e_Ok 20 elay kcode eI (d + 1) 123 (65, [(1, (0, z14)), (0, (1, 1))], [], w37) _
            refine e_Ok.run (t' := (73, [(1, (0, z14)), (0, (1, 1))], [], w37)) 1 rfl ?_
            refine e_Ok.rets rfl rfl ?_
            have y0 : w37 1 0 = w 1 0 := ((q41f 1 0 (by unfold kRn; omega)).trans (by rw [← hw7]; exact (e_up_ne _ _ (Or.inr (by omega))).trans ((q5f 1 0 (by unfold kRn; omega)).trans rfl)))
            have y5 : w37 1 5 = w37 1 5 := rfl
            have y6 : w37 1 6 = w2 1 7 := ((q41f 1 6 (by unfold kRn; omega)).trans (by rw [← hw7]; exact e_up_eq _ _ _ _))
            have y7 : w37 1 7 = w37 1 7 := rfl
            have y8 : w37 1 8 = w37 1 8 := rfl
            exact ⟨rfl, f42, q41T, q41H, (by unfold tkR; omega), by omega, by omega⟩
        · show e_Ok 20 elay kcode eI (d + 1) 123 (58, [(1, (0, z14)), (0, (1, 1))], [(0, 0)], w7) _
          refine e_Ok.if1 rfl (fun h43 => ?_) (fun h43 => ?_)
          · replace h43 : (0 : Int) = 0 := h43
            refine e_Ok.run (t' := (70, [(1, (0, z14)), (0, (1, 1))], [(0, z14), (1, 1)], w7)) 2 rfl ?_
            have n47_0 : w7 1 0 = w 1 0 := (by rw [← hw7]; exact (e_up_ne _ _ (Or.inr (by omega))).trans ((q5f 1 0 (by unfold kRn; omega)).trans rfl))
            have n47_5 : w7 1 5 = w2 1 5 := (by rw [← hw7]; exact (e_up_ne _ _ (Or.inr (by omega))).trans rfl)
            have n47_6 : w7 1 6 = w2 1 7 := (by rw [← hw7]; exact e_up_eq _ _ _ _)
            have n47_7 : w7 1 7 = w2 1 7 := (by rw [← hw7]; exact (e_up_ne _ _ (Or.inr (by omega))).trans rfl)
            have n47_8 : w7 1 8 = w2 1 8 := (by rw [← hw7]; exact (e_up_ne _ _ (Or.inr (by omega))).trans rfl)
            refine e_Ok.callV rfl (by omega) rfl rfl rfl rfl (c_128 (by omega) hT9 hH10 (by omega) (by omega) (by omega)) (fun r44 w45 h46 => ?_)
            obtain ⟨rfl, q48f, q48T, q48H, q48x⟩ := h46
            have f49 : e_fr kRa w w45 := e_fr.trans f8 (e_fr.mono q48f (fun c k q => by unfold kRn at q; unfold kRa; omega))
            have q487 := e_Has.get q48H (c := 1) (k := 7) (lo := 0) (hi := 4000) rfl (by decide)
            show e_Ok 20 elay kcode eI (d + 1) 123 (73, [(1, (0, z14)), (0, (1, 1))], [], w45) _
            refine e_Ok.rets rfl rfl ?_
            have y0 : w45 1 0 = w 1 0 := ((q48f 1 0 (by unfold kRn; omega)).trans (by rw [← hw7]; exact (e_up_ne _ _ (Or.inr (by omega))).trans ((q5f 1 0 (by unfold kRn; omega)).trans rfl)))
            have y5 : w45 1 5 = w45 1 5 := rfl
            have y6 : w45 1 6 = w2 1 7 := ((q48f 1 6 (by unfold kRn; omega)).trans (by rw [← hw7]; exact e_up_eq _ _ _ _))
            have y7 : w45 1 7 = w45 1 7 := rfl
            have y8 : w45 1 8 = w45 1 8 := rfl
            exact ⟨rfl, f49, q48T, q48H, (by unfold tkR; omega), by omega, by omega⟩
          · replace h43 : (0 : Int) ≠ 0 := by have q : ¬ ((0 : Int) = 0) := h43; omega
            exfalso; omega
      · replace h29 : (0 : Int) ≠ 0 := by have q : ¬ ((0 : Int) = 0) := h29; omega
        exfalso; omega
  · replace h16 : (w2 1 7 : Int) ≥ w 1 0 := by have q : ¬ ((w2 1 7 : Int) < w 1 0) := h16; omega
    refine e_Ok.run (t' := (34, [(1, (0, z14)), (0, (1, 1))], [(0, 0), (1, 1)], w7)) 2 rfl ?_
    refine e_Ok.putf rfl (el_o rfl) rfl rfl ?_
    generalize hw50 : e_up w7 1 5 0 = w50
    have f51 : e_fr kRa w w50 := e_fr.up f8 hw50 (by unfold kRa; omega)
    have hT52 : e_Has kTy w50 := e_Has.ups hT9 hw50 rfl
    have hH53 : e_Has kRy w50 := e_Has.upr hH10 hw50 rfl (by omega)
    refine e_Ok.run (t' := (73, [(1, (0, z14)), (0, (1, 1))], [], w50)) 1 rfl ?_
    refine e_Ok.rets rfl rfl ?_
    have y0 : w50 1 0 = w 1 0 := (by rw [← hw50]; exact (e_up_ne _ _ (Or.inr (by omega))).trans (by rw [← hw7]; exact (e_up_ne _ _ (Or.inr (by omega))).trans ((q5f 1 0 (by unfold kRn; omega)).trans rfl)))
    have y5 : w50 1 5 = 0 := (by rw [← hw50]; exact e_up_eq _ _ _ _)
    have y6 : w50 1 6 = w2 1 7 := (by rw [← hw50]; exact (e_up_ne _ _ (Or.inr (by omega))).trans (by rw [← hw7]; exact e_up_eq _ _ _ _))
    have y7 : w50 1 7 = w2 1 7 := (by rw [← hw50]; exact (e_up_ne _ _ (Or.inr (by omega))).trans (by rw [← hw7]; exact (e_up_ne _ _ (Or.inr (by omega))).trans rfl))
    have y8 : w50 1 8 = w2 1 8 := (by rw [← hw50]; exact (e_up_ne _ _ (Or.inr (by omega))).trans (by rw [← hw7]; exact (e_up_ne _ _ (Or.inr (by omega))).trans rfl))
    exact ⟨rfl, f51, hT52, hH53, (by unfold tkR; omega), by omega, by omega⟩
theorem c_131 {d : Nat} {w : eW} (hT : e_Has kTy w) (hH : e_Has kRy w) (hk : tkR w) {n : Int} (g_n : 1 ≤ n ∧ n ≤ 3) : e_Ok 20 elay kcode eI d 131 (0, [(0, (1, 1)), (1, (0, n))], [], w) (fun r w' => r = [] ∧ e_fr kRk w w' ∧ e_Has kTy w' ∧ e_Has kRy w' ∧ tkR w' ∧ ¬ nF w' ∧ w' 1 5 = 4) := by
  have p1 := e_Has.get hH (c := 1) (k := 1) (lo := (-2147483648)) (hi := 2147483647) rfl (by decide)
  have p5 := e_Has.get hH (c := 1) (k := 5) (lo := 0) (hi := 53) rfl (by decide)
  have p6 := e_Has.get hH (c := 1) (k := 6) (lo := 0) (hi := 4000) rfl (by decide)
  have p9 := e_Has.get hH (c := 1) (k := 9) (lo := (-2147483648)) (hi := 2147483647) rfl (by decide)
  refine e_Ok.run (t' := (1, [(0, (1, 1)), (1, (0, n))], [(1, 1)], w)) 1 rfl ?_
  have h1 := (e_Has.get hH (c := 1) (k := 1) (lo := (-2147483648)) (hi := 2147483647) rfl (by decide))
  refine e_Ok.getf (z := w 1 1) rfl (el_o rfl) rfl rfl rfl (by omega) ?_
  refine e_Ok.if1 rfl (fun h2 => ?_) (fun h2 => ?_)
  · replace h2 : (w 1 1 : Int) ≠ 0 := h2
    refine e_Ok.run (t' := (22, [(0, (1, 1)), (1, (0, n))], [(0, 4), (1, 1)], w)) 2 rfl ?_
    refine e_Ok.putf rfl (el_o rfl) rfl rfl ?_
    generalize hw3 : e_up w 1 5 4 = w3
    have f4 : e_fr kRk w w3 := e_fr.up (e_fr.refl w) hw3 (by unfold kRk; omega)
    have hT5 : e_Has kTy w3 := e_Has.ups hT hw3 rfl
    have hH6 : e_Has kRy w3 := e_Has.upr hH hw3 rfl (by omega)
    refine e_Ok.rets rfl rfl ?_
    have yf : w3 1 1 = w 1 1 := (by rw [← hw3]; exact (e_up_ne _ _ (Or.inr (by omega))).trans rfl)
    exact ⟨rfl, f4, hT5, hH6, (by unfold tkR at hk ⊢; have y0 : w3 1 0 = w 1 0 := (by rw [← hw3]; exact (e_up_ne _ _ (Or.inr (by omega))).trans rfl); have y5 : w3 1 5 = 4 := (by rw [← hw3]; exact e_up_eq _ _ _ _); have y6 : w3 1 6 = w 1 6 := (by rw [← hw3]; exact (e_up_ne _ _ (Or.inr (by omega))).trans rfl); have y7 : w3 1 7 = w 1 7 := (by rw [← hw3]; exact (e_up_ne _ _ (Or.inr (by omega))).trans rfl); have y8 : w3 1 8 = w 1 8 := (by rw [← hw3]; exact (e_up_ne _ _ (Or.inr (by omega))).trans rfl); omega), fun h => by have := h.1; omega, (by rw [← hw3]; exact e_up_eq _ _ _ _)⟩
  · replace h2 : (w 1 1 : Int) = 0 := by have q : ¬ ((w 1 1 : Int) ≠ 0) := h2; omega
    refine e_Ok.run (t' := (9, [(0, (1, 1)), (1, (0, n))], [(0, n), (1, 1)], w)) 2 rfl ?_
    refine e_Ok.putf rfl (el_o rfl) rfl rfl ?_
    generalize hw7 : e_up w 1 1 n = w7
    have f8 : e_fr kRk w w7 := e_fr.up (e_fr.refl w) hw7 (by unfold kRk; omega)
    have hT9 : e_Has kTy w7 := e_Has.ups hT hw7 rfl
    have hH10 : e_Has kRy w7 := e_Has.upr hH hw7 rfl (by omega)
    refine e_Ok.run (t' := (14, [(0, (1, 1)), (1, (0, n))], [(1, 1), (1, 1)], w7)) 2 rfl ?_
    have h11 := (e_Has.get hH (c := 1) (k := 6) (lo := 0) (hi := 4000) rfl (by decide))
    refine e_Ok.getf (z := w 1 6) rfl (el_o rfl) rfl rfl (by rw [← hw7]; exact (e_up_ne _ _ (Or.inr (by omega))).trans rfl) (by omega) ?_
    refine e_Ok.putf rfl (el_o rfl) rfl rfl ?_
    generalize hw12 : e_up w7 1 2 (w 1 6) = w12
    have f13 : e_fr kRk w w12 := e_fr.up f8 hw12 (by unfold kRk; omega)
    have hT14 : e_Has kTy w12 := e_Has.ups hT9 hw12 rfl
    have hH15 : e_Has kRy w12 := e_Has.upr hH10 hw12 rfl (by omega)
    refine e_Ok.run (t' := (22, [(0, (1, 1)), (1, (0, n))], [(0, 4), (1, 1)], w12)) 2 rfl ?_
    refine e_Ok.putf rfl (el_o rfl) rfl rfl ?_
    generalize hw16 : e_up w12 1 5 4 = w16
    have f17 : e_fr kRk w w16 := e_fr.up f13 hw16 (by unfold kRk; omega)
    have hT18 : e_Has kTy w16 := e_Has.ups hT14 hw16 rfl
    have hH19 : e_Has kRy w16 := e_Has.upr hH15 hw16 rfl (by omega)
    refine e_Ok.rets rfl rfl ?_
    have yf : w16 1 1 = n := (by rw [← hw16]; exact (e_up_ne _ _ (Or.inr (by omega))).trans (by rw [← hw12]; exact (e_up_ne _ _ (Or.inr (by omega))).trans (by rw [← hw7]; exact e_up_eq _ _ _ _)))
    exact ⟨rfl, f17, hT18, hH19, (by unfold tkR at hk ⊢; have y0 : w16 1 0 = w 1 0 := (by rw [← hw16]; exact (e_up_ne _ _ (Or.inr (by omega))).trans (by rw [← hw12]; exact (e_up_ne _ _ (Or.inr (by omega))).trans (by rw [← hw7]; exact (e_up_ne _ _ (Or.inr (by omega))).trans rfl))); have y5 : w16 1 5 = 4 := (by rw [← hw16]; exact e_up_eq _ _ _ _); have y6 : w16 1 6 = w 1 6 := (by rw [← hw16]; exact (e_up_ne _ _ (Or.inr (by omega))).trans (by rw [← hw12]; exact (e_up_ne _ _ (Or.inr (by omega))).trans (by rw [← hw7]; exact (e_up_ne _ _ (Or.inr (by omega))).trans rfl))); have y7 : w16 1 7 = w 1 7 := (by rw [← hw16]; exact (e_up_ne _ _ (Or.inr (by omega))).trans (by rw [← hw12]; exact (e_up_ne _ _ (Or.inr (by omega))).trans (by rw [← hw7]; exact (e_up_ne _ _ (Or.inr (by omega))).trans rfl))); have y8 : w16 1 8 = w 1 8 := (by rw [← hw16]; exact (e_up_ne _ _ (Or.inr (by omega))).trans (by rw [← hw12]; exact (e_up_ne _ _ (Or.inr (by omega))).trans (by rw [← hw7]; exact (e_up_ne _ _ (Or.inr (by omega))).trans rfl))); omega), fun h => by have := h.1; omega, (by rw [← hw16]; exact e_up_eq _ _ _ _)⟩
theorem c_130 {d : Nat} (hd : 21 ≤ d) {w : eW} (hT : e_Has kTy w) (hH : e_Has kRy w) (hk : tkR w) : e_Ok 20 elay kcode eI d 130 (0, [(0, (1, 1))], [], w) (fun r w' => r = [] ∧ e_fr kRk w w' ∧ e_Has kTy w' ∧ e_Has kRy w' ∧ tkR w' ∧ ¬ nF w' ∧ w' 1 5 = 4) := by
  obtain ⟨d, rfl⟩ : ∃ e, d = e + 1 := ⟨d - 1, by omega⟩
  have p1 := e_Has.get hH (c := 1) (k := 1) (lo := (-2147483648)) (hi := 2147483647) rfl (by decide)
  have p5 := e_Has.get hH (c := 1) (k := 5) (lo := 0) (hi := 53) rfl (by decide)
  have p6 := e_Has.get hH (c := 1) (k := 6) (lo := 0) (hi := 4000) rfl (by decide)
  have p9 := e_Has.get hH (c := 1) (k := 9) (lo := (-2147483648)) (hi := 2147483647) rfl (by decide)
  refine e_Ok.run (t' := (2, [(0, (1, 1))], [(1, 1), (1, 1)], w)) 2 rfl ?_
  have h1 := (e_Has.get hH (c := 1) (k := 5) (lo := 0) (hi := 53) rfl (by decide))
  refine e_Ok.getf (z := w 1 5) rfl (el_o rfl) rfl rfl rfl (by omega) ?_
  refine e_Ok.run (t' := (6, [(0, (1, 1))], [(0, 3), (0, w 1 5), (1, 1)], w)) 1 rfl ?_
  refine e_Ok.if2 rfl (fun h2 => ?_) (fun h2 => ?_)
  · replace h2 : (w 1 5 : Int) ≠ 3 := h2
    refine e_Ok.run (t' := (14, [(0, (1, 1))], [(0, 2), (1, 1)], w)) 1 rfl ?_
    refine e_Ok.callV rfl (by omega) rfl rfl rfl rfl (c_131 hT hH hk (by omega)) (fun r3 w4 h5 => ?_)
    obtain ⟨rfl, q6f, q6T, q6H, q6k, q6n, q65⟩ := h5
    have f7 : e_fr kRk w w4 := e_fr.trans (e_fr.refl w) (e_fr.mono q6f (fun c k q => by exact q))
    show e_Ok 20 elay kcode eI (d + 1) 130 (17, [(0, (1, 1))], [], w4) _
    refine e_Ok.rets rfl rfl ?_
    exact ⟨rfl, q6f, q6T, q6H, q6k, q6n, q65⟩
  · replace h2 : (w 1 5 : Int) = 3 := by have q : ¬ ((w 1 5 : Int) ≠ 3) := h2; omega
    refine e_Ok.run (t' := (14, [(0, (1, 1))], [(0, 1), (1, 1)], w)) 2 rfl ?_
    refine e_Ok.callV rfl (by omega) rfl rfl rfl rfl (c_131 hT hH hk (by omega)) (fun r8 w9 h10 => ?_)
    obtain ⟨rfl, q11f, q11T, q11H, q11k, q11n, q115⟩ := h10
    have f12 : e_fr kRk w w9 := e_fr.trans (e_fr.refl w) (e_fr.mono q11f (fun c k q => by exact q))
    show e_Ok 20 elay kcode eI (d + 1) 130 (17, [(0, (1, 1))], [], w9) _
    refine e_Ok.rets rfl rfl ?_
    exact ⟨rfl, q11f, q11T, q11H, q11k, q11n, q115⟩
theorem c_129 {d : Nat} (hd : 25 ≤ d) {w : eW} (hT : e_Has kTy w) (hH : e_Has kRy w) (hk : tkR w) {n : Int} (g_n : 0 ≤ n ∧ n ≤ 53) : e_Ok 20 elay kcode eI d 129 (0, [(0, (1, 1)), (1, (0, n))], [], w) (fun r w' => r = [] ∧ e_fr kRk w w' ∧ e_Has kTy w' ∧ e_Has kRy w' ∧ tkR w' ∧ (nF w' → nF w ∧ w 1 5 = n ∧ w 1 7 ≤ w' 1 6)) := by
  obtain ⟨d, rfl⟩ : ∃ e, d = e + 1 := ⟨d - 1, by omega⟩
  have p1 := e_Has.get hH (c := 1) (k := 1) (lo := (-2147483648)) (hi := 2147483647) rfl (by decide)
  have p5 := e_Has.get hH (c := 1) (k := 5) (lo := 0) (hi := 53) rfl (by decide)
  have p6 := e_Has.get hH (c := 1) (k := 6) (lo := 0) (hi := 4000) rfl (by decide)
  have p9 := e_Has.get hH (c := 1) (k := 9) (lo := (-2147483648)) (hi := 2147483647) rfl (by decide)
  refine e_Ok.run (t' := (1, [(0, (1, 1)), (1, (0, n))], [(1, 1)], w)) 1 rfl ?_
  have h1 := (e_Has.get hH (c := 1) (k := 5) (lo := 0) (hi := 53) rfl (by decide))
  refine e_Ok.getf (z := w 1 5) rfl (el_o rfl) rfl rfl rfl (by omega) ?_
  refine e_Ok.run (t' := (5, [(0, (1, 1)), (1, (0, n))], [(0, n), (0, w 1 5)], w)) 1 rfl ?_
  refine e_Ok.if2 rfl (fun h2 => ?_) (fun h2 => ?_)
  · replace h2 : (w 1 5 : Int) ≠ n := h2
    refine e_Ok.run (t' := (16, [(0, (1, 1)), (1, (0, n))], [(1, 1)], w)) 1 rfl ?_
    refine e_Ok.callV rfl (by omega) rfl rfl rfl rfl (c_130 (by omega) hT hH hk) (fun r3 w4 h5 => ?_)
    obtain ⟨rfl, q6f, q6T, q6H, q6k, q6n, q65⟩ := h5
    have f7 : e_fr kRk w w4 := e_fr.trans (e_fr.refl w) (e_fr.mono q6f (fun c k q => by exact q))
    show e_Ok 20 elay kcode eI (d + 1) 129 (19, [(0, (1, 1)), (1, (0, n))], [], w4) _
    refine e_Ok.rets rfl rfl ?_
    exact ⟨rfl, f7, q6T, q6H, q6k, fun h => absurd h q6n⟩
  · replace h2 : (w 1 5 : Int) = n := by have q : ¬ ((w 1 5 : Int) ≠ n) := h2; omega
    refine e_Ok.run (t' := (9, [(0, (1, 1)), (1, (0, n))], [(1, 1)], w)) 1 rfl ?_
    refine e_Ok.callV rfl (by omega) rfl rfl rfl rfl (c_123 (by omega) hT hH hk.1.2) (fun r8 w9 h10 => ?_)
    obtain ⟨rfl, q11f, q11T, q11H, q11k, q11x, q114⟩ := h10
    have f12 : e_fr kRk w w9 := e_fr.trans (e_fr.refl w) (e_fr.mono q11f (fun c k q => by unfold kRa at q; unfold kRk; omega))
    show e_Ok 20 elay kcode eI (d + 1) 129 (12, [(0, (1, 1)), (1, (0, n))], [], w9) _
    refine e_Ok.run (t' := (19, [(0, (1, 1)), (1, (0, n))], [], w9)) 1 rfl ?_
    refine e_Ok.rets rfl rfl ?_
    exact ⟨rfl, f12, q11T, q11H, q11k, fun h => ⟨⟨by rw [← q11f 1 1 (by unfold kRa; omega)]; exact h.1, by rw [← q11f 1 9 (by unfold kRa; omega)]; exact h.2⟩, by omega, by omega⟩⟩
theorem c_132 {d : Nat} (hd : 22 ≤ d) {w : eW} (hT : e_Has kTy w) (hH : e_Has kRy w) (hk : tkR w) {o : Int} (ho : w 1 11 = o) (hor : 0 ≤ o ∧ o ≤ 30) : e_Ok 20 elay kcode eI d 132 (0, [(0, (1, 1))], [], w) (fun r w' => ∃ z : Int, r = [(0, z)] ∧ e_fr kRo w w' ∧ e_Has kTy w' ∧ e_Has kRy w' ∧ tkR w' ∧ ((z = 1 ∧ o < 30 ∧ w' 1 11 = o + 1 ∧ e_fr (fun c k => c = 1 ∧ 11 ≤ k ∧ k ≤ 13) w w') ∨ (z = 0 ∧ ¬ nF w' ∧ w' 1 5 = 4 ∧ w' 1 11 = o ∧ e_fr kRk w w'))) := by
  obtain ⟨d, rfl⟩ : ∃ e, d = e + 1 := ⟨d - 1, by omega⟩
  have p1 := e_Has.get hH (c := 1) (k := 1) (lo := (-2147483648)) (hi := 2147483647) rfl (by decide)
  have p5 := e_Has.get hH (c := 1) (k := 5) (lo := 0) (hi := 53) rfl (by decide)
  have p6 := e_Has.get hH (c := 1) (k := 6) (lo := 0) (hi := 4000) rfl (by decide)
  have p9 := e_Has.get hH (c := 1) (k := 9) (lo := (-2147483648)) (hi := 2147483647) rfl (by decide)
  refine e_Ok.run (t' := (1, [(0, (1, 1))], [(1, 1)], w)) 1 rfl ?_
  refine e_Ok.getf (z := o) rfl (el_o rfl) rfl rfl ho (by omega) ?_
  refine e_Ok.run (t' := (6, [(0, (1, 1))], [(0, 30), (0, o)], w)) 1 rfl ?_
  refine e_Ok.if2 rfl (fun h1 => ?_) (fun h1 => ?_)
  · replace h1 : (o : Int) < 30 := h1
    refine e_Ok.run (t' := (18, [(0, (1, 1))], [(1, 1), (1, 1)], w)) 2 rfl ?_
    refine e_Ok.getf (z := o) rfl (el_o rfl) rfl rfl ho (by omega) ?_
    refine e_Ok.run (t' := (22, [(0, (1, 1))], [(0, 1), (0, o), (1, 1)], w)) 1 rfl ?_
    refine e_Ok.add (z := o + 1) rfl (by omega) (by omega) ?_
    refine e_Ok.putf rfl (el_o rfl) rfl rfl ?_
    generalize hw2 : e_up w 1 11 (o + 1) = w2
    have f3 : e_fr kRo w w2 := e_fr.up (e_fr.refl w) hw2 (by unfold kRo; omega)
    have hT4 : e_Has kTy w2 := e_Has.ups hT hw2 rfl
    have hH5 : e_Has kRy w2 := e_Has.upr hH hw2 rfl (by omega)
    refine e_Ok.run (t' := (27, [(0, (1, 1))], [(0, 1)], w2)) 1 rfl ?_
    refine e_Ok.rets rfl rfl ?_
    exact ⟨_, rfl, f3, hT4, hH5, hk.eq (fun k g => by rw [← hw2]; exact e_up_ne _ _ (by omega)), Or.inl ⟨rfl, by omega, (by rw [← hw2]; exact e_up_eq _ _ _ _), fun c k g => by rw [← hw2]; exact e_up_ne _ _ (by omega)⟩⟩
  · replace h1 : (o : Int) ≥ 30 := by have q : ¬ ((o : Int) < 30) := h1; omega
    refine e_Ok.run (t' := (11, [(0, (1, 1))], [(0, 3), (1, 1)], w)) 2 rfl ?_
    refine e_Ok.callV rfl (by omega) rfl rfl rfl rfl (c_131 hT hH hk (by omega)) (fun r6 w7 h8 => ?_)
    obtain ⟨rfl, q9f, q9T, q9H, q9k, q9n, q95⟩ := h8
    have f10 : e_fr kRo w w7 := e_fr.trans (e_fr.refl w) (e_fr.mono q9f (fun c k q => by unfold kRk at q; unfold kRo; omega))
    show e_Ok 20 elay kcode eI (d + 1) 132 (14, [(0, (1, 1))], [], w7) _
    refine e_Ok.run (t' := (15, [(0, (1, 1))], [(0, 0)], w7)) 1 rfl ?_
    refine e_Ok.rets rfl rfl ?_
    exact ⟨_, rfl, f10, q9T, q9H, q9k, Or.inr ⟨rfl, q9n, q95, (q9f 1 11 (by unfold kRk; omega)).trans ho, q9f⟩⟩
theorem c_133 {d : Nat} {w : eW} (hT : e_Has kTy w) (hH : e_Has kRy w) (hk : tkR w) {n : Int} (g_n : 4 ≤ n ∧ n ≤ 7) {x : Int} (g_x : (-2147483648) ≤ x ∧ x ≤ 2147483647) : e_Ok 20 elay kcode eI d 133 (0, [(0, (1, 1)), (1, (0, n)), (2, (0, x))], [], w) (fun r w' => r = [] ∧ e_fr kRc w w' ∧ e_Has kTy w' ∧ e_Has kRy w' ∧ tkR w' ∧ ¬ nF w') := by
  have p1 := e_Has.get hH (c := 1) (k := 1) (lo := (-2147483648)) (hi := 2147483647) rfl (by decide)
  have p5 := e_Has.get hH (c := 1) (k := 5) (lo := 0) (hi := 53) rfl (by decide)
  have p6 := e_Has.get hH (c := 1) (k := 6) (lo := 0) (hi := 4000) rfl (by decide)
  have p9 := e_Has.get hH (c := 1) (k := 9) (lo := (-2147483648)) (hi := 2147483647) rfl (by decide)
  refine e_Ok.run (t' := (1, [(0, (1, 1)), (1, (0, n)), (2, (0, x))], [(1, 1)], w)) 1 rfl ?_
  have h1 := (e_Has.get hH (c := 1) (k := 9) (lo := (-2147483648)) (hi := 2147483647) rfl (by decide))
  refine e_Ok.getf (z := w 1 9) rfl (el_o rfl) rfl rfl rfl (by omega) ?_
  refine e_Ok.if1 rfl (fun h2 => ?_) (fun h2 => ?_)
  · replace h2 : (w 1 9 : Int) = 0 := h2
    refine e_Ok.run (t' := (22, [(3, (0, 1)), (0, (1, 1)), (1, (0, n)), (2, (0, x))], [(0, 1)], w)) 4 rfl ?_
    refine e_Ok.if1 rfl (fun h3 => ?_) (fun h3 => ?_)
    · replace h3 : (1 : Int) ≠ 0 := h3
      refine e_Ok.run (t' := (44, [(3, (0, 1)), (0, (1, 1)), (1, (0, n)), (2, (0, x))], [(0, n), (1, 1)], w)) 2 rfl ?_
      refine e_Ok.putf rfl (el_o rfl) rfl rfl ?_
      generalize hw4 : e_up w 1 9 n = w4
      have f5 : e_fr kRc w w4 := e_fr.up (e_fr.refl w) hw4 (by unfold kRc; omega)
      have hT6 : e_Has kTy w4 := e_Has.ups hT hw4 rfl
      have hH7 : e_Has kRy w4 := e_Has.upr hH hw4 rfl (by omega)
      refine e_Ok.run (t' := (49, [(3, (0, 1)), (0, (1, 1)), (1, (0, n)), (2, (0, x))], [(0, x), (1, 1)], w4)) 2 rfl ?_
      refine e_Ok.putf rfl (el_o rfl) rfl rfl ?_
      generalize hw8 : e_up w4 1 10 x = w8
      have f9 : e_fr kRc w w8 := e_fr.up f5 hw8 (by unfold kRc; omega)
      have hT10 : e_Has kTy w8 := e_Has.ups hT6 hw8 rfl
      have hH11 : e_Has kRy w8 := e_Has.upr hH7 hw8 rfl (by omega)
      refine e_Ok.rets rfl rfl ?_
      exact ⟨rfl, f9, hT10, hH11, hk.fr f9 (fun k g => by unfold kRc; omega), fun h => by have := h.2; have y9 : w8 1 9 = n := (by rw [← hw8]; exact (e_up_ne _ _ (Or.inr (by omega))).trans (by rw [← hw4]; exact e_up_eq _ _ _ _)); omega⟩
    · replace h3 : (1 : Int) = 0 := by have q : ¬ ((1 : Int) ≠ 0) := h3; omega
      exfalso; omega
  · replace h2 : (w 1 9 : Int) ≠ 0 := by have q : ¬ ((w 1 9 : Int) = 0) := h2; omega
    refine e_Ok.run (t' := (9, [(0, (1, 1)), (1, (0, n)), (2, (0, x))], [(1, 1), (0, x)], w)) 2 rfl ?_
    have h12 := (e_Has.get hH (c := 1) (k := 10) (lo := (-2147483648)) (hi := 2147483647) rfl (by decide))
    refine e_Ok.getf (z := w 1 10) rfl (el_o rfl) rfl rfl rfl (by omega) ?_
    refine e_Ok.if2 rfl (fun h13 => ?_) (fun h13 => ?_)
    · replace h13 : (x : Int) ≥ w 1 10 := h13
      refine e_Ok.run (t' := (22, [(3, (0, 0)), (0, (1, 1)), (1, (0, n)), (2, (0, x))], [(0, 0)], w)) 3 rfl ?_
      refine e_Ok.if1 rfl (fun h14 => ?_) (fun h14 => ?_)
      · replace h14 : (0 : Int) ≠ 0 := h14
        exfalso; omega
      · replace h14 : (0 : Int) = 0 := by have q : ¬ ((0 : Int) ≠ 0) := h14; omega
        refine e_Ok.run (t' := (27, [(3, (0, 0)), (0, (1, 1)), (1, (0, n)), (2, (0, x))], [(1, 1), (0, x)], w)) 2 rfl ?_
        refine e_Ok.getf (z := w 1 10) rfl (el_o rfl) rfl rfl rfl (by omega) ?_
        refine e_Ok.if2 rfl (fun h15 => ?_) (fun h15 => ?_)
        · replace h15 : (x : Int) > w 1 10 := h15
          refine e_Ok.rets rfl rfl ?_
          exact ⟨rfl, (e_fr.refl w), hT, hH, hk, fun h => by have := h.2; omega⟩
        · replace h15 : (x : Int) ≤ w 1 10 := by have q : ¬ ((x : Int) > w 1 10) := h15; omega
          refine e_Ok.run (t' := (35, [(3, (0, 0)), (0, (1, 1)), (1, (0, n)), (2, (0, x))], [(1, 1), (0, n)], w)) 2 rfl ?_
          refine e_Ok.getf (z := w 1 9) rfl (el_o rfl) rfl rfl rfl (by omega) ?_
          refine e_Ok.if2 rfl (fun h16 => ?_) (fun h16 => ?_)
          · replace h16 : (n : Int) ≤ w 1 9 := h16
            refine e_Ok.run (t' := (44, [(3, (0, 0)), (0, (1, 1)), (1, (0, n)), (2, (0, x))], [(0, n), (1, 1)], w)) 2 rfl ?_
            refine e_Ok.putf rfl (el_o rfl) rfl rfl ?_
            generalize hw17 : e_up w 1 9 n = w17
            have f18 : e_fr kRc w w17 := e_fr.up (e_fr.refl w) hw17 (by unfold kRc; omega)
            have hT19 : e_Has kTy w17 := e_Has.ups hT hw17 rfl
            have hH20 : e_Has kRy w17 := e_Has.upr hH hw17 rfl (by omega)
            refine e_Ok.run (t' := (49, [(3, (0, 0)), (0, (1, 1)), (1, (0, n)), (2, (0, x))], [(0, x), (1, 1)], w17)) 2 rfl ?_
            refine e_Ok.putf rfl (el_o rfl) rfl rfl ?_
            generalize hw21 : e_up w17 1 10 x = w21
            have f22 : e_fr kRc w w21 := e_fr.up f18 hw21 (by unfold kRc; omega)
            have hT23 : e_Has kTy w21 := e_Has.ups hT19 hw21 rfl
            have hH24 : e_Has kRy w21 := e_Has.upr hH20 hw21 rfl (by omega)
            refine e_Ok.rets rfl rfl ?_
            exact ⟨rfl, f22, hT23, hH24, hk.fr f22 (fun k g => by unfold kRc; omega), fun h => by have := h.2; have y9 : w21 1 9 = n := (by rw [← hw21]; exact (e_up_ne _ _ (Or.inr (by omega))).trans (by rw [← hw17]; exact e_up_eq _ _ _ _)); omega⟩
          · replace h16 : (n : Int) > w 1 9 := by have q : ¬ ((n : Int) ≤ w 1 9) := h16; omega
            refine e_Ok.rets rfl rfl ?_
            exact ⟨rfl, (e_fr.refl w), hT, hH, hk, fun h => by have := h.2; omega⟩
    · replace h13 : (x : Int) < w 1 10 := by have q : ¬ ((x : Int) ≥ w 1 10) := h13; omega
      refine e_Ok.run (t' := (22, [(3, (0, 1)), (0, (1, 1)), (1, (0, n)), (2, (0, x))], [(0, 1)], w)) 4 rfl ?_
      refine e_Ok.if1 rfl (fun h25 => ?_) (fun h25 => ?_)
      · replace h25 : (1 : Int) ≠ 0 := h25
        refine e_Ok.run (t' := (44, [(3, (0, 1)), (0, (1, 1)), (1, (0, n)), (2, (0, x))], [(0, n), (1, 1)], w)) 2 rfl ?_
        refine e_Ok.putf rfl (el_o rfl) rfl rfl ?_
        generalize hw26 : e_up w 1 9 n = w26
        have f27 : e_fr kRc w w26 := e_fr.up (e_fr.refl w) hw26 (by unfold kRc; omega)
        have hT28 : e_Has kTy w26 := e_Has.ups hT hw26 rfl
        have hH29 : e_Has kRy w26 := e_Has.upr hH hw26 rfl (by omega)
        refine e_Ok.run (t' := (49, [(3, (0, 1)), (0, (1, 1)), (1, (0, n)), (2, (0, x))], [(0, x), (1, 1)], w26)) 2 rfl ?_
        refine e_Ok.putf rfl (el_o rfl) rfl rfl ?_
        generalize hw30 : e_up w26 1 10 x = w30
        have f31 : e_fr kRc w w30 := e_fr.up f27 hw30 (by unfold kRc; omega)
        have hT32 : e_Has kTy w30 := e_Has.ups hT28 hw30 rfl
        have hH33 : e_Has kRy w30 := e_Has.upr hH29 hw30 rfl (by omega)
        refine e_Ok.rets rfl rfl ?_
        exact ⟨rfl, f31, hT32, hH33, hk.fr f31 (fun k g => by unfold kRc; omega), fun h => by have := h.2; have y9 : w30 1 9 = n := (by rw [← hw30]; exact (e_up_ne _ _ (Or.inr (by omega))).trans (by rw [← hw26]; exact e_up_eq _ _ _ _)); omega⟩
      · replace h25 : (1 : Int) = 0 := by have q : ¬ ((1 : Int) ≠ 0) := h25; omega
        exfalso; omega
theorem c_134 {d : Nat} (hd : 21 ≤ d) {w : eW} (hT : e_Has kTy w) (hH : e_Has kRy w) {p : Int} (g_p : (-2147483648) ≤ p ∧ p ≤ 2147483647) {x : Int} (g_x : (-2147483648) ≤ x ∧ x ≤ 2147483647) : e_Ok 20 elay kcode eI d 134 (0, [(0, (1, 1)), (1, (0, p)), (2, (0, x))], [], w) (fun r w' => ∃ z : Int, r = [(0, z)] ∧ w = w' ∧ (0 ≤ z ∧ z ≤ 1)) := by
  obtain ⟨d, rfl⟩ : ∃ e, d = e + 1 := ⟨d - 1, by omega⟩
  refine e_Ok.run (t' := (2, [(3, (0, 0)), (0, (1, 1)), (1, (0, p)), (2, (0, x))], [], w)) 2 rfl ?_
  have hL1 : ∀ (nn : Nat) (y3 : Int), (0 ≤ y3 ∧ y3 ≤ 24) → 25 - y3 < nn → e_Ok 20 elay kcode eI (d + 1) 134 (2, [(0, (1, 1)), (1, (0, p)), (2, (0, x)), (3, (0, y3))], [], w) (fun r w' => ∃ z : Int, r = [(0, z)] ∧ w = w' ∧ (0 ≤ z ∧ z ≤ 1)) := by
    intro nn
    induction nn with
    | zero => intro y3 hj hm; obtain j3 := hj; exfalso; omega
    | succ nn ih2 =>
      intro y3 hj hm
      obtain j3 := hj
      refine e_Ok.run (t' := (5, [(0, (1, 1)), (1, (0, p)), (2, (0, x)), (3, (0, y3))], [(0, 24), (0, y3)], w)) 2 rfl ?_
      refine e_Ok.if2 rfl (fun h4 => ?_) (fun h4 => ?_)
      · replace h4 : (y3 : Int) ≥ 24 := h4
        refine e_Ok.run (t' := (47, [(0, (1, 1)), (1, (0, p)), (2, (0, x)), (3, (0, y3))], [(0, y3), (0, p), (1, 1)], w)) 3 rfl ?_
        refine e_Ok.any rfl (eF_add_any _ _) (fun z5 z5a z5b => ?_)
        refine e_Ok.callV rfl (by omega) rfl rfl rfl rfl (c_120 hT hH (by omega)) (fun r6 w7 h8 => ?_)
        obtain ⟨z9, rfl, rfl, q10r, q10x⟩ := h8
        replace q10x : (0 ≤ z5 ∧ z5 < (w 1 0) ∧ z9 = (w 5 z5) % 256) ∨ ((z5 < 0 ∨ (w 1 0) ≤ z5) ∧ z9 = 0) := by rw [show w 1 0 = w 1 0 from rfl, show w 5 z5 = w 5 z5 from rfl] at q10x; exact q10x
        show e_Ok 20 elay kcode eI (d + 1) 134 (51, [(0, (1, 1)), (1, (0, p)), (2, (0, x)), (3, (0, y3))], [(0, z9)], w) _
        refine e_Ok.callS rfl (by omega) rfl rfl (c_122 (by omega)) (fun r11 w12 h13 => ?_)
        obtain ⟨z14, rfl, rfl, q15⟩ := h13
        obtain ⟨rfl, q15⟩ | ⟨rfl, q15⟩ := q15
        · show e_Ok 20 elay kcode eI (d + 1) 134 (54, [(0, (1, 1)), (1, (0, p)), (2, (0, x)), (3, (0, y3))], [(0, 1)], w) _
          refine e_Ok.if1 rfl (fun h16 => ?_) (fun h16 => ?_)
          · replace h16 : (1 : Int) ≠ 0 := h16
            refine e_Ok.run (t' := (75, [(0, (1, 1)), (1, (0, p)), (2, (0, x)), (3, (0, y3))], [(0, 0)], w)) 1 rfl ?_
            refine e_Ok.rets rfl rfl ?_
            exact ⟨_, rfl, rfl, by omega⟩
          · replace h16 : (1 : Int) = 0 := by have q : ¬ ((1 : Int) ≠ 0) := h16; omega
            exfalso; omega
        · show e_Ok 20 elay kcode eI (d + 1) 134 (54, [(0, (1, 1)), (1, (0, p)), (2, (0, x)), (3, (0, y3))], [(0, 0)], w) _
          refine e_Ok.if1 rfl (fun h17 => ?_) (fun h17 => ?_)
          · replace h17 : (0 : Int) ≠ 0 := h17
            exfalso; omega
          · replace h17 : (0 : Int) = 0 := by have q : ¬ ((0 : Int) ≠ 0) := h17; omega
            refine e_Ok.run (t' := (60, [(0, (1, 1)), (1, (0, p)), (2, (0, x)), (3, (0, y3))], [(0, y3), (0, x), (1, 1)], w)) 3 rfl ?_
            refine e_Ok.any rfl (eF_add_any _ _) (fun z18 z18a z18b => ?_)
            refine e_Ok.callV rfl (by omega) rfl rfl rfl rfl (c_120 hT hH (by omega)) (fun r19 w20 h21 => ?_)
            obtain ⟨z22, rfl, rfl, q23r, q23x⟩ := h21
            replace q23x : (0 ≤ z18 ∧ z18 < (w 1 0) ∧ z22 = (w 5 z18) % 256) ∨ ((z18 < 0 ∨ (w 1 0) ≤ z18) ∧ z22 = 0) := by rw [show w 1 0 = w 1 0 from rfl, show w 5 z18 = w 5 z18 from rfl] at q23x; exact q23x
            show e_Ok 20 elay kcode eI (d + 1) 134 (64, [(0, (1, 1)), (1, (0, p)), (2, (0, x)), (3, (0, y3))], [(0, z22)], w) _
            refine e_Ok.callS rfl (by omega) rfl rfl (c_122 (by omega)) (fun r24 w25 h26 => ?_)
            obtain ⟨z27, rfl, rfl, q28⟩ := h26
            obtain ⟨rfl, q28⟩ | ⟨rfl, q28⟩ := q28
            · show e_Ok 20 elay kcode eI (d + 1) 134 (67, [(0, (1, 1)), (1, (0, p)), (2, (0, x)), (3, (0, y3))], [(0, 1)], w) _
              refine e_Ok.if1 rfl (fun h29 => ?_) (fun h29 => ?_)
              · replace h29 : (1 : Int) ≠ 0 := h29
                refine e_Ok.run (t' := (75, [(0, (1, 1)), (1, (0, p)), (2, (0, x)), (3, (0, y3))], [(0, 0)], w)) 1 rfl ?_
                refine e_Ok.rets rfl rfl ?_
                exact ⟨_, rfl, rfl, by omega⟩
              · replace h29 : (1 : Int) = 0 := by have q : ¬ ((1 : Int) ≠ 0) := h29; omega
                exfalso; omega
            · show e_Ok 20 elay kcode eI (d + 1) 134 (67, [(0, (1, 1)), (1, (0, p)), (2, (0, x)), (3, (0, y3))], [(0, 0)], w) _
              refine e_Ok.if1 rfl (fun h30 => ?_) (fun h30 => ?_)
              · replace h30 : (0 : Int) ≠ 0 := h30
                exfalso; omega
              · replace h30 : (0 : Int) = 0 := by have q : ¬ ((0 : Int) ≠ 0) := h30; omega
                refine e_Ok.run (t' := (75, [(0, (1, 1)), (1, (0, p)), (2, (0, x)), (3, (0, y3))], [(0, 1)], w)) 2 rfl ?_
                refine e_Ok.rets rfl rfl ?_
                exact ⟨_, rfl, rfl, by omega⟩
      · replace h4 : (y3 : Int) < 24 := by have q : ¬ ((y3 : Int) ≥ 24) := h4; omega
        refine e_Ok.run (t' := (11, [(0, (1, 1)), (1, (0, p)), (2, (0, x)), (3, (0, y3))], [(0, y3), (0, p), (1, 1)], w)) 3 rfl ?_
        refine e_Ok.any rfl (eF_add_any _ _) (fun z31 z31a z31b => ?_)
        refine e_Ok.callV rfl (by omega) rfl rfl rfl rfl (c_120 hT hH (by omega)) (fun r32 w33 h34 => ?_)
        obtain ⟨z35, rfl, rfl, q36r, q36x⟩ := h34
        replace q36x : (0 ≤ z31 ∧ z31 < (w 1 0) ∧ z35 = (w 5 z31) % 256) ∨ ((z31 < 0 ∨ (w 1 0) ≤ z31) ∧ z35 = 0) := by rw [show w 1 0 = w 1 0 from rfl, show w 5 z31 = w 5 z31 from rfl] at q36x; exact q36x
        show e_Ok 20 elay kcode eI (d + 1) 134 (15, [(0, (1, 1)), (1, (0, p)), (2, (0, x)), (3, (0, y3))], [(0, z35)], w) _
        refine e_Ok.callS rfl (by omega) rfl rfl (c_122 (by omega)) (fun r37 w38 h40 => ?_)
        obtain ⟨z41, rfl, rfl, q42⟩ := h40
        obtain ⟨rfl, q42⟩ | ⟨rfl, q42⟩ := q42
        · show e_Ok 20 elay kcode eI (d + 1) 134 (18, [(0, (1, 1)), (1, (0, p)), (2, (0, x)), (3, (0, y3))], [(0, 1)], w) _
          refine e_Ok.if1 rfl (fun h43 => ?_) (fun h43 => ?_)
          · replace h43 : (1 : Int) = 0 := h43
            exfalso; omega
          · replace h43 : (1 : Int) ≠ 0 := by have q : ¬ ((1 : Int) = 0) := h43; omega
            refine e_Ok.run (t' := (24, [(0, (1, 1)), (1, (0, p)), (2, (0, x)), (3, (0, y3))], [(0, y3), (0, p), (1, 1)], w)) 3 rfl ?_
            refine e_Ok.any rfl (eF_add_any _ _) (fun z44 z44a z44b => ?_)
            refine e_Ok.callV rfl (by omega) rfl rfl rfl rfl (c_120 hT hH (by omega)) (fun r45 w46 h47 => ?_)
            obtain ⟨z48, rfl, rfl, q49r, q49x⟩ := h47
            replace q49x : (0 ≤ z44 ∧ z44 < (w 1 0) ∧ z48 = (w 5 z44) % 256) ∨ ((z44 < 0 ∨ (w 1 0) ≤ z44) ∧ z48 = 0) := by rw [show w 1 0 = w 1 0 from rfl, show w 5 z44 = w 5 z44 from rfl] at q49x; exact q49x
            show e_Ok 20 elay kcode eI (d + 1) 134 (28, [(0, (1, 1)), (1, (0, p)), (2, (0, x)), (3, (0, y3))], [(0, z48)], w) _
            refine e_Ok.run (t' := (31, [(0, (1, 1)), (1, (0, p)), (2, (0, x)), (3, (0, y3))], [(0, y3), (0, x), (1, 1), (0, z48)], w)) 3 rfl ?_
            refine e_Ok.any rfl (eF_add_any _ _) (fun z50 z50a z50b => ?_)
            refine e_Ok.callV rfl (by omega) rfl rfl rfl rfl (c_120 hT hH (by omega)) (fun r51 w52 h53 => ?_)
            obtain ⟨z54, rfl, rfl, q55r, q55x⟩ := h53
            replace q55x : (0 ≤ z50 ∧ z50 < (w 1 0) ∧ z54 = (w 5 z50) % 256) ∨ ((z50 < 0 ∨ (w 1 0) ≤ z50) ∧ z54 = 0) := by rw [show w 1 0 = w 1 0 from rfl, show w 5 z50 = w 5 z50 from rfl] at q55x; exact q55x
            show e_Ok 20 elay kcode eI (d + 1) 134 (35, [(0, (1, 1)), (1, (0, p)), (2, (0, x)), (3, (0, y3))], [(0, z54), (0, z48)], w) _
            refine e_Ok.if2 rfl (fun h56 => ?_) (fun h56 => ?_)
            · replace h56 : (z48 : Int) ≠ z54 := h56
              refine e_Ok.run (t' := (47, [(0, (1, 1)), (1, (0, p)), (2, (0, x)), (3, (0, y3))], [(0, y3), (0, p), (1, 1)], w)) 3 rfl ?_
              refine e_Ok.any rfl (eF_add_any _ _) (fun z57 z57a z57b => ?_)
              refine e_Ok.callV rfl (by omega) rfl rfl rfl rfl (c_120 hT hH (by omega)) (fun r58 w59 h60 => ?_)
              obtain ⟨z61, rfl, rfl, q62r, q62x⟩ := h60
              replace q62x : (0 ≤ z57 ∧ z57 < (w 1 0) ∧ z61 = (w 5 z57) % 256) ∨ ((z57 < 0 ∨ (w 1 0) ≤ z57) ∧ z61 = 0) := by rw [show w 1 0 = w 1 0 from rfl, show w 5 z57 = w 5 z57 from rfl] at q62x; exact q62x
              show e_Ok 20 elay kcode eI (d + 1) 134 (51, [(0, (1, 1)), (1, (0, p)), (2, (0, x)), (3, (0, y3))], [(0, z61)], w) _
              refine e_Ok.callS rfl (by omega) rfl rfl (c_122 (by omega)) (fun r63 w64 h65 => ?_)
              obtain ⟨z66, rfl, rfl, q67⟩ := h65
              obtain ⟨rfl, q67⟩ | ⟨rfl, q67⟩ := q67
              · show e_Ok 20 elay kcode eI (d + 1) 134 (54, [(0, (1, 1)), (1, (0, p)), (2, (0, x)), (3, (0, y3))], [(0, 1)], w) _
                refine e_Ok.if1 rfl (fun h68 => ?_) (fun h68 => ?_)
                · replace h68 : (1 : Int) ≠ 0 := h68
                  refine e_Ok.run (t' := (75, [(0, (1, 1)), (1, (0, p)), (2, (0, x)), (3, (0, y3))], [(0, 0)], w)) 1 rfl ?_
                  refine e_Ok.rets rfl rfl ?_
                  exact ⟨_, rfl, rfl, by omega⟩
                · replace h68 : (1 : Int) = 0 := by have q : ¬ ((1 : Int) ≠ 0) := h68; omega
                  exfalso; omega
              · show e_Ok 20 elay kcode eI (d + 1) 134 (54, [(0, (1, 1)), (1, (0, p)), (2, (0, x)), (3, (0, y3))], [(0, 0)], w) _
                refine e_Ok.if1 rfl (fun h69 => ?_) (fun h69 => ?_)
                · replace h69 : (0 : Int) ≠ 0 := h69
                  exfalso; omega
                · replace h69 : (0 : Int) = 0 := by have q : ¬ ((0 : Int) ≠ 0) := h69; omega
                  refine e_Ok.run (t' := (60, [(0, (1, 1)), (1, (0, p)), (2, (0, x)), (3, (0, y3))], [(0, y3), (0, x), (1, 1)], w)) 3 rfl ?_
                  refine e_Ok.any rfl (eF_add_any _ _) (fun z70 z70a z70b => ?_)
                  refine e_Ok.callV rfl (by omega) rfl rfl rfl rfl (c_120 hT hH (by omega)) (fun r71 w72 h73 => ?_)
                  obtain ⟨z74, rfl, rfl, q75r, q75x⟩ := h73
                  replace q75x : (0 ≤ z70 ∧ z70 < (w 1 0) ∧ z74 = (w 5 z70) % 256) ∨ ((z70 < 0 ∨ (w 1 0) ≤ z70) ∧ z74 = 0) := by rw [show w 1 0 = w 1 0 from rfl, show w 5 z70 = w 5 z70 from rfl] at q75x; exact q75x
                  show e_Ok 20 elay kcode eI (d + 1) 134 (64, [(0, (1, 1)), (1, (0, p)), (2, (0, x)), (3, (0, y3))], [(0, z74)], w) _
                  refine e_Ok.callS rfl (by omega) rfl rfl (c_122 (by omega)) (fun r76 w77 h78 => ?_)
                  obtain ⟨z79, rfl, rfl, q80⟩ := h78
                  obtain ⟨rfl, q80⟩ | ⟨rfl, q80⟩ := q80
                  · show e_Ok 20 elay kcode eI (d + 1) 134 (67, [(0, (1, 1)), (1, (0, p)), (2, (0, x)), (3, (0, y3))], [(0, 1)], w) _
                    refine e_Ok.if1 rfl (fun h81 => ?_) (fun h81 => ?_)
                    · replace h81 : (1 : Int) ≠ 0 := h81
                      refine e_Ok.run (t' := (75, [(0, (1, 1)), (1, (0, p)), (2, (0, x)), (3, (0, y3))], [(0, 0)], w)) 1 rfl ?_
                      refine e_Ok.rets rfl rfl ?_
                      exact ⟨_, rfl, rfl, by omega⟩
                    · replace h81 : (1 : Int) = 0 := by have q : ¬ ((1 : Int) ≠ 0) := h81; omega
                      exfalso; omega
                  · show e_Ok 20 elay kcode eI (d + 1) 134 (67, [(0, (1, 1)), (1, (0, p)), (2, (0, x)), (3, (0, y3))], [(0, 0)], w) _
                    refine e_Ok.if1 rfl (fun h82 => ?_) (fun h82 => ?_)
                    · replace h82 : (0 : Int) ≠ 0 := h82
                      exfalso; omega
                    · replace h82 : (0 : Int) = 0 := by have q : ¬ ((0 : Int) ≠ 0) := h82; omega
                      refine e_Ok.run (t' := (75, [(0, (1, 1)), (1, (0, p)), (2, (0, x)), (3, (0, y3))], [(0, 1)], w)) 2 rfl ?_
                      refine e_Ok.rets rfl rfl ?_
                      exact ⟨_, rfl, rfl, by omega⟩
            · replace h56 : (z48 : Int) = z54 := by have q : ¬ ((z48 : Int) ≠ z54) := h56; omega
              refine e_Ok.inc (z := y3 + 1) rfl rfl (by omega) (by omega) ?_
              show e_Ok 20 elay kcode eI (d + 1) 134 (41, [(3, (0, y3 + 1)), (0, (1, 1)), (1, (0, p)), (2, (0, x))], [], w) _
              refine e_Ok.run (t' := (2, [(3, (0, y3 + 1)), (0, (1, 1)), (1, (0, p)), (2, (0, x))], [], w)) 1 rfl ?_
              refine e_Ok.sub kAlk (e_sub_of rfl ?_) (ih2 (y3 + 1) ((by omega)) (by omega))
              exact ⟨rfl, rfl, rfl, rfl, trivial⟩
        · show e_Ok 20 elay kcode eI (d + 1) 134 (18, [(0, (1, 1)), (1, (0, p)), (2, (0, x)), (3, (0, y3))], [(0, 0)], w) _
          refine e_Ok.if1 rfl (fun h83 => ?_) (fun h83 => ?_)
          · replace h83 : (0 : Int) = 0 := h83
            refine e_Ok.run (t' := (47, [(0, (1, 1)), (1, (0, p)), (2, (0, x)), (3, (0, y3))], [(0, y3), (0, p), (1, 1)], w)) 3 rfl ?_
            refine e_Ok.any rfl (eF_add_any _ _) (fun z84 z84a z84b => ?_)
            refine e_Ok.callV rfl (by omega) rfl rfl rfl rfl (c_120 hT hH (by omega)) (fun r85 w86 h87 => ?_)
            obtain ⟨z88, rfl, rfl, q89r, q89x⟩ := h87
            replace q89x : (0 ≤ z84 ∧ z84 < (w 1 0) ∧ z88 = (w 5 z84) % 256) ∨ ((z84 < 0 ∨ (w 1 0) ≤ z84) ∧ z88 = 0) := by rw [show w 1 0 = w 1 0 from rfl, show w 5 z84 = w 5 z84 from rfl] at q89x; exact q89x
            show e_Ok 20 elay kcode eI (d + 1) 134 (51, [(0, (1, 1)), (1, (0, p)), (2, (0, x)), (3, (0, y3))], [(0, z88)], w) _
            refine e_Ok.callS rfl (by omega) rfl rfl (c_122 (by omega)) (fun r90 w91 h92 => ?_)
            obtain ⟨z93, rfl, rfl, q94⟩ := h92
            obtain ⟨rfl, q94⟩ | ⟨rfl, q94⟩ := q94
            · show e_Ok 20 elay kcode eI (d + 1) 134 (54, [(0, (1, 1)), (1, (0, p)), (2, (0, x)), (3, (0, y3))], [(0, 1)], w) _
              refine e_Ok.if1 rfl (fun h95 => ?_) (fun h95 => ?_)
              · replace h95 : (1 : Int) ≠ 0 := h95
                refine e_Ok.run (t' := (75, [(0, (1, 1)), (1, (0, p)), (2, (0, x)), (3, (0, y3))], [(0, 0)], w)) 1 rfl ?_
                refine e_Ok.rets rfl rfl ?_
                exact ⟨_, rfl, rfl, by omega⟩
              · replace h95 : (1 : Int) = 0 := by have q : ¬ ((1 : Int) ≠ 0) := h95; omega
                exfalso; omega
            · show e_Ok 20 elay kcode eI (d + 1) 134 (54, [(0, (1, 1)), (1, (0, p)), (2, (0, x)), (3, (0, y3))], [(0, 0)], w) _
              refine e_Ok.if1 rfl (fun h101 => ?_) (fun h101 => ?_)
              · replace h101 : (0 : Int) ≠ 0 := h101
                exfalso; omega
              · replace h101 : (0 : Int) = 0 := by have q : ¬ ((0 : Int) ≠ 0) := h101; omega
                refine e_Ok.run (t' := (60, [(0, (1, 1)), (1, (0, p)), (2, (0, x)), (3, (0, y3))], [(0, y3), (0, x), (1, 1)], w)) 3 rfl ?_
                refine e_Ok.any rfl (eF_add_any _ _) (fun z103 z103a z103b => ?_)
                refine e_Ok.callV rfl (by omega) rfl rfl rfl rfl (c_120 hT hH (by omega)) (fun r104 w105 h106 => ?_)
                obtain ⟨z107, rfl, rfl, q108r, q108x⟩ := h106
                replace q108x : (0 ≤ z103 ∧ z103 < (w 1 0) ∧ z107 = (w 5 z103) % 256) ∨ ((z103 < 0 ∨ (w 1 0) ≤ z103) ∧ z107 = 0) := by rw [show w 1 0 = w 1 0 from rfl, show w 5 z103 = w 5 z103 from rfl] at q108x; exact q108x
                show e_Ok 20 elay kcode eI (d + 1) 134 (64, [(0, (1, 1)), (1, (0, p)), (2, (0, x)), (3, (0, y3))], [(0, z107)], w) _
                refine e_Ok.callS rfl (by omega) rfl rfl (c_122 (by omega)) (fun r109 w110 h111 => ?_)
                obtain ⟨z112, rfl, rfl, q113⟩ := h111
                obtain ⟨rfl, q113⟩ | ⟨rfl, q113⟩ := q113
                · show e_Ok 20 elay kcode eI (d + 1) 134 (67, [(0, (1, 1)), (1, (0, p)), (2, (0, x)), (3, (0, y3))], [(0, 1)], w) _
                  refine e_Ok.if1 rfl (fun h114 => ?_) (fun h114 => ?_)
                  · replace h114 : (1 : Int) ≠ 0 := h114
                    refine e_Ok.run (t' := (75, [(0, (1, 1)), (1, (0, p)), (2, (0, x)), (3, (0, y3))], [(0, 0)], w)) 1 rfl ?_
                    refine e_Ok.rets rfl rfl ?_
                    exact ⟨_, rfl, rfl, by omega⟩
                  · replace h114 : (1 : Int) = 0 := by have q : ¬ ((1 : Int) ≠ 0) := h114; omega
                    exfalso; omega
                · show e_Ok 20 elay kcode eI (d + 1) 134 (67, [(0, (1, 1)), (1, (0, p)), (2, (0, x)), (3, (0, y3))], [(0, 0)], w) _
                  refine e_Ok.if1 rfl (fun h115 => ?_) (fun h115 => ?_)
                  · replace h115 : (0 : Int) ≠ 0 := h115
                    exfalso; omega
                  · replace h115 : (0 : Int) = 0 := by have q : ¬ ((0 : Int) ≠ 0) := h115; omega
                    refine e_Ok.run (t' := (75, [(0, (1, 1)), (1, (0, p)), (2, (0, x)), (3, (0, y3))], [(0, 1)], w)) 2 rfl ?_
                    refine e_Ok.rets rfl rfl ?_
                    exact ⟨_, rfl, rfl, by omega⟩
          · replace h83 : (0 : Int) ≠ 0 := by have q : ¬ ((0 : Int) = 0) := h83; omega
            exfalso; omega
  refine e_Ok.sub kAlk (e_sub_of rfl ?_) (hL1 (25 + 1 : Int).toNat 0 ((by omega)) (by omega))
  exact ⟨rfl, rfl, rfl, rfl, trivial⟩
theorem c_135 {d : Nat} (hd : 22 ≤ d) {w : eW} (hT : e_Has kTy w) (hH : e_Has kRy w) {cd : Int} (hc : w 1 3 = cd) (hcd : isCd cd) {x : Int} (g_x : (-2147483648) ≤ x ∧ x ≤ 2147483647) : e_Ok 20 elay kcode eI d 135 (0, [(0, (1, 1)), (1, (0, x))], [], w) (fun r w' => ∃ z : Int, r = [(0, z)] ∧ w = w' ∧ (-1 ≤ z ∧ z ≤ 31)) := by
  obtain ⟨d, rfl⟩ : ∃ e, d = e + 1 := ⟨d - 1, by omega⟩
  have hcd2 := hcd; unfold isCd at hcd2
  have hcd3 : 2 ≤ cd ∧ cd ≤ 145 := by omega
  have pV := e_Has.get hT (c := cd) (k := 2) (lo := 0) (hi := 32) (kD_2 hcd) (by decide)
  refine e_Ok.run (t' := (2, [(2, (0, 0)), (0, (1, 1)), (1, (0, x))], [], w)) 2 rfl ?_
  have hL1 : ∀ (nn : Nat) (y2 : Int), (0 ≤ y2 ∧ y2 ≤ 32) → 33 - y2 < nn → e_Ok 20 elay kcode eI (d + 1) 135 (2, [(0, (1, 1)), (1, (0, x)), (2, (0, y2))], [], w) (fun r w' => ∃ z : Int, r = [(0, z)] ∧ w = w' ∧ (-1 ≤ z ∧ z ≤ 31)) := by
    intro nn
    induction nn with
    | zero => intro y2 hj hm; obtain j3 := hj; exfalso; omega
    | succ nn ih2 =>
      intro y2 hj hm
      obtain j3 := hj
      refine e_Ok.run (t' := (4, [(0, (1, 1)), (1, (0, x)), (2, (0, y2))], [(1, 1), (0, y2)], w)) 2 rfl ?_
      refine e_Ok.getr (z := cd) rfl (el_o rfl) rfl rfl hc (by omega) ?_
      have h4 := (e_Has.get hT (c := cd) (k := 2) (lo := 0) (hi := 32) (kD_2 hcd) (by decide))
      refine e_Ok.getf (z := w cd 2) rfl (lD0 hcd) rfl rfl rfl (by omega) ?_
      refine e_Ok.if2 rfl (fun h5 => ?_) (fun h5 => ?_)
      · replace h5 : (y2 : Int) ≥ w cd 2 := h5
        refine e_Ok.run (t' := (36, [(0, (1, 1)), (1, (0, x)), (2, (0, y2))], [(0, (-1))], w)) 1 rfl ?_
        refine e_Ok.rets rfl rfl ?_
        exact ⟨_, rfl, rfl, by omega⟩
      · replace h5 : (y2 : Int) < w cd 2 := by have q : ¬ ((y2 : Int) ≥ w cd 2) := h5; omega
        refine e_Ok.run (t' := (15, [(0, (1, 1)), (1, (0, x)), (2, (0, y2))], [(1, 1), (1, 1)], w)) 2 rfl ?_
        refine e_Ok.getr (z := 6) rfl (el_o rfl) rfl rfl (Eq.trans (e_Has.eq hT rfl) (by omega)) (by omega) ?_
        refine e_Ok.run (t' := (19, [(0, (1, 1)), (1, (0, x)), (2, (0, y2))], [(0, y2), (1, 6), (1, 1)], w)) 1 rfl ?_
        have h6 := (e_Has.get hH (c := 6) (k := y2) (lo := (-2147483648)) (hi := 2147483647) rfl (by decide))
        refine e_Ok.ald (z := w 6 y2) rfl (el_o rfl) rfl (by omega) rfl (by omega) ?_
        refine e_Ok.run (t' := (21, [(0, (1, 1)), (1, (0, x)), (2, (0, y2))], [(0, x), (0, w 6 y2), (1, 1)], w)) 1 rfl ?_
        refine e_Ok.callV rfl (by omega) rfl rfl rfl rfl (c_134 (by omega) hT hH (by omega) (by omega)) (fun r7 w8 h9 => ?_)
        obtain ⟨z10, rfl, rfl, q11⟩ := h9
        show e_Ok 20 elay kcode eI (d + 1) 135 (24, [(0, (1, 1)), (1, (0, x)), (2, (0, y2))], [(0, z10)], w) _
        refine e_Ok.if1 rfl (fun h12 => ?_) (fun h12 => ?_)
        · replace h12 : (z10 : Int) = 0 := h12
          refine e_Ok.inc (z := y2 + 1) rfl rfl (by omega) (by omega) ?_
          show e_Ok 20 elay kcode eI (d + 1) 135 (32, [(2, (0, y2 + 1)), (0, (1, 1)), (1, (0, x))], [], w) _
          refine e_Ok.run (t' := (2, [(2, (0, y2 + 1)), (0, (1, 1)), (1, (0, x))], [], w)) 1 rfl ?_
          refine e_Ok.sub kAlk (e_sub_of rfl ?_) (ih2 (y2 + 1) ((by omega)) (by omega))
          exact ⟨rfl, rfl, rfl, trivial⟩
        · replace h12 : (z10 : Int) ≠ 0 := by have q : ¬ ((z10 : Int) = 0) := h12; omega
          refine e_Ok.run (t' := (28, [(0, (1, 1)), (1, (0, x)), (2, (0, y2))], [(0, y2)], w)) 1 rfl ?_
          refine e_Ok.rets rfl rfl ?_
          exact ⟨_, rfl, rfl, by omega⟩
  refine e_Ok.sub kAlk (e_sub_of rfl ?_) (hL1 (33 + 1 : Int).toNat 0 ((by omega)) (by omega))
  exact ⟨rfl, rfl, rfl, trivial⟩
theorem c_136 {d : Nat} (hd : 22 ≤ d) {w : eW} (hT : e_Has kTy w) (hH : e_Has kRy w) {x : Int} (g_x : (-2147483648) ≤ x ∧ x ≤ 2147483647) : e_Ok 20 elay kcode eI d 136 (0, [(0, (1, 1)), (1, (0, x))], [], w) (fun r w' => ∃ z : Int, r = [(0, z)] ∧ w = w' ∧ (-1 ≤ z ∧ z ≤ 499 ∧ z < w 1 14)) := by
  obtain ⟨d, rfl⟩ : ∃ e, d = e + 1 := ⟨d - 1, by omega⟩
  have p14 := e_Has.get hH (c := 1) (k := 14) (lo := 0) (hi := 500) rfl (by decide)
  refine e_Ok.run (t' := (2, [(2, (0, 0)), (0, (1, 1)), (1, (0, x))], [], w)) 2 rfl ?_
  have hL1 : ∀ (nn : Nat) (y2 : Int), (0 ≤ y2 ∧ y2 ≤ 500) → 501 - y2 < nn → e_Ok 20 elay kcode eI (d + 1) 136 (2, [(0, (1, 1)), (1, (0, x)), (2, (0, y2))], [], w) (fun r w' => ∃ z : Int, r = [(0, z)] ∧ w = w' ∧ (-1 ≤ z ∧ z ≤ 499 ∧ z < w 1 14)) := by
    intro nn
    induction nn with
    | zero => intro y2 hj hm; obtain j3 := hj; exfalso; omega
    | succ nn ih2 =>
      intro y2 hj hm
      obtain j3 := hj
      refine e_Ok.run (t' := (4, [(0, (1, 1)), (1, (0, x)), (2, (0, y2))], [(1, 1), (0, y2)], w)) 2 rfl ?_
      have h4 := (e_Has.get hH (c := 1) (k := 14) (lo := 0) (hi := 500) rfl (by decide))
      refine e_Ok.getf (z := w 1 14) rfl (el_o rfl) rfl rfl rfl (by omega) ?_
      refine e_Ok.if2 rfl (fun h5 => ?_) (fun h5 => ?_)
      · replace h5 : (y2 : Int) ≥ w 1 14 := h5
        refine e_Ok.run (t' := (33, [(0, (1, 1)), (1, (0, x)), (2, (0, y2))], [(0, (-1))], w)) 1 rfl ?_
        refine e_Ok.rets rfl rfl ?_
        exact ⟨_, rfl, rfl, by omega⟩
      · replace h5 : (y2 : Int) < w 1 14 := by have q : ¬ ((y2 : Int) ≥ w 1 14) := h5; omega
        refine e_Ok.run (t' := (12, [(0, (1, 1)), (1, (0, x)), (2, (0, y2))], [(1, 1), (1, 1)], w)) 2 rfl ?_
        refine e_Ok.getr (z := 7) rfl (el_o rfl) rfl rfl (Eq.trans (e_Has.eq hT rfl) (by omega)) (by omega) ?_
        refine e_Ok.run (t' := (16, [(0, (1, 1)), (1, (0, x)), (2, (0, y2))], [(0, y2), (1, 7), (1, 1)], w)) 1 rfl ?_
        have h6 := (e_Has.get hH (c := 7) (k := y2) (lo := (-2147483648)) (hi := 2147483647) rfl (by decide))
        refine e_Ok.ald (z := w 7 y2) rfl (el_o rfl) rfl (by omega) rfl (by omega) ?_
        refine e_Ok.run (t' := (18, [(0, (1, 1)), (1, (0, x)), (2, (0, y2))], [(0, x), (0, w 7 y2), (1, 1)], w)) 1 rfl ?_
        refine e_Ok.callV rfl (by omega) rfl rfl rfl rfl (c_134 (by omega) hT hH (by omega) (by omega)) (fun r7 w8 h9 => ?_)
        obtain ⟨z10, rfl, rfl, q11⟩ := h9
        show e_Ok 20 elay kcode eI (d + 1) 136 (21, [(0, (1, 1)), (1, (0, x)), (2, (0, y2))], [(0, z10)], w) _
        refine e_Ok.if1 rfl (fun h12 => ?_) (fun h12 => ?_)
        · replace h12 : (z10 : Int) = 0 := h12
          refine e_Ok.inc (z := y2 + 1) rfl rfl (by omega) (by omega) ?_
          show e_Ok 20 elay kcode eI (d + 1) 136 (29, [(2, (0, y2 + 1)), (0, (1, 1)), (1, (0, x))], [], w) _
          refine e_Ok.run (t' := (2, [(2, (0, y2 + 1)), (0, (1, 1)), (1, (0, x))], [], w)) 1 rfl ?_
          refine e_Ok.sub kAlk (e_sub_of rfl ?_) (ih2 (y2 + 1) ((by omega)) (by omega))
          exact ⟨rfl, rfl, rfl, trivial⟩
        · replace h12 : (z10 : Int) ≠ 0 := by have q : ¬ ((z10 : Int) = 0) := h12; omega
          refine e_Ok.run (t' := (25, [(0, (1, 1)), (1, (0, x)), (2, (0, y2))], [(0, y2)], w)) 1 rfl ?_
          refine e_Ok.rets rfl rfl ?_
          exact ⟨_, rfl, rfl, by omega⟩
  refine e_Ok.sub kAlk (e_sub_of rfl ?_) (hL1 (501 + 1 : Int).toNat 0 ((by omega)) (by omega))
  exact ⟨rfl, rfl, rfl, trivial⟩
theorem c_137 {d : Nat} (hd : 23 ≤ d) {w : eW} (hT : e_Has kTy w) (hH : e_Has kRy w) (hk : tkR w) {cd : Int} (hc : w 1 3 = cd) (hcd : isCd cd) : e_Ok 20 elay kcode eI d 137 (0, [(0, (1, 1))], [], w) (fun r w' => ∃ z : Int, r = [(0, z)] ∧ e_fr kRc w w' ∧ e_Has kTy w' ∧ e_Has kRy w' ∧ tkR w' ∧ (nF w' → nF w) ∧ (0 ≤ z ∧ z ≤ 31)) := by
  obtain ⟨d, rfl⟩ : ∃ e, d = e + 1 := ⟨d - 1, by omega⟩
  have hcd2 := hcd; unfold isCd at hcd2
  have hcd3 : 2 ≤ cd ∧ cd ≤ 145 := by omega
  have p1 := e_Has.get hH (c := 1) (k := 1) (lo := (-2147483648)) (hi := 2147483647) rfl (by decide)
  have p5 := e_Has.get hH (c := 1) (k := 5) (lo := 0) (hi := 53) rfl (by decide)
  have p6 := e_Has.get hH (c := 1) (k := 6) (lo := 0) (hi := 4000) rfl (by decide)
  have p9 := e_Has.get hH (c := 1) (k := 9) (lo := (-2147483648)) (hi := 2147483647) rfl (by decide)
  refine e_Ok.run (t' := (2, [(0, (1, 1))], [(1, 1), (1, 1)], w)) 2 rfl ?_
  have h1 := (e_Has.get hH (c := 1) (k := 6) (lo := 0) (hi := 4000) rfl (by decide))
  refine e_Ok.getf (z := w 1 6) rfl (el_o rfl) rfl rfl rfl (by omega) ?_
  refine e_Ok.callV rfl (by omega) rfl rfl rfl rfl (c_135 (by omega) hT hH hc hcd (by omega)) (fun r2 w3 h4 => ?_)
  obtain ⟨z5, rfl, rfl, q6⟩ := h4
  show e_Ok 20 elay kcode eI (d + 1) 137 (8, [(0, (1, 1))], [(0, z5)], w) _
  refine e_Ok.run (t' := (10, [(1, (0, z5)), (0, (1, 1))], [(0, z5)], w)) 2 rfl ?_
  refine e_Ok.if1 rfl (fun h7 => ?_) (fun h7 => ?_)
  · replace h7 : (z5 : Int) ≥ 0 := h7
    refine e_Ok.run (t' := (24, [(1, (0, z5)), (0, (1, 1))], [(0, 0), (0, z5)], w)) 2 rfl ?_
    refine e_Ok.mmax rfl rfl (fun z8 hz8 => ?_)
    replace hz8 : (z5 < 0 ∧ z8 = 0) ∨ (0 ≤ z5 ∧ z8 = z5) := hz8
    refine e_Ok.rets rfl rfl ?_
    exact ⟨_, rfl, e_fr.refl w, hT, hH, hk, fun h => h, by omega⟩
  · replace h7 : (z5 : Int) < 0 := by have q : ¬ ((z5 : Int) ≥ 0) := h7; omega
    refine e_Ok.run (t' := (16, [(1, (0, z5)), (0, (1, 1))], [(1, 1), (0, 5), (1, 1)], w)) 3 rfl ?_
    refine e_Ok.getf (z := w 1 6) rfl (el_o rfl) rfl rfl rfl (by omega) ?_
    refine e_Ok.callV rfl (by omega) rfl rfl rfl rfl (c_133 hT hH hk (by omega) (by omega)) (fun r9 w10 h11 => ?_)
    obtain ⟨rfl, q12f, q12T, q12H, q12k, q12n⟩ := h11
    have f13 : e_fr kRc w w10 := e_fr.trans (e_fr.refl w) (e_fr.mono q12f (fun c k q => by exact q))
    show e_Ok 20 elay kcode eI (d + 1) 137 (22, [(1, (0, z5)), (0, (1, 1))], [], w10) _
    refine e_Ok.run (t' := (24, [(1, (0, z5)), (0, (1, 1))], [(0, 0), (0, z5)], w10)) 2 rfl ?_
    refine e_Ok.mmax rfl rfl (fun z14 hz14 => ?_)
    replace hz14 : (z5 < 0 ∧ z14 = 0) ∨ (0 ≤ z5 ∧ z14 = z5) := hz14
    refine e_Ok.rets rfl rfl ?_
    exact ⟨_, rfl, f13, q12T, q12H, q12k, (fun h => absurd h q12n), by omega⟩
theorem c_139 {d : Nat} (hd : 23 ≤ d) {w : eW} (hT : e_Has kTy w) (hH : e_Has kRy w) (hk : tkR w) {cd : Int} (hc : w 1 3 = cd) (hcd : isCd cd) : e_Ok 20 elay kcode eI d 139 (0, [(0, (1, 1))], [], w) (fun r w' => r = [] ∧ e_fr kRc w w' ∧ e_Has kTy w' ∧ e_Has kRy w' ∧ tkR w' ∧ (nF w' → nF w)) := by
  obtain ⟨d, rfl⟩ : ∃ e, d = e + 1 := ⟨d - 1, by omega⟩
  have hcd2 := hcd; unfold isCd at hcd2
  have hcd3 : 2 ≤ cd ∧ cd ≤ 145 := by omega
  have p1 := e_Has.get hH (c := 1) (k := 1) (lo := (-2147483648)) (hi := 2147483647) rfl (by decide)
  have p5 := e_Has.get hH (c := 1) (k := 5) (lo := 0) (hi := 53) rfl (by decide)
  have p6 := e_Has.get hH (c := 1) (k := 6) (lo := 0) (hi := 4000) rfl (by decide)
  have p9 := e_Has.get hH (c := 1) (k := 9) (lo := (-2147483648)) (hi := 2147483647) rfl (by decide)
  refine e_Ok.run (t' := (2, [(0, (1, 1))], [(1, 1), (1, 1)], w)) 2 rfl ?_
  have h1 := (e_Has.get hH (c := 1) (k := 6) (lo := 0) (hi := 4000) rfl (by decide))
  refine e_Ok.getf (z := w 1 6) rfl (el_o rfl) rfl rfl rfl (by omega) ?_
  refine e_Ok.callV rfl (by omega) rfl rfl rfl rfl (c_135 (by omega) hT hH hc hcd (by omega)) (fun r2 w3 h4 => ?_)
  obtain ⟨z5, rfl, rfl, q6⟩ := h4
  show e_Ok 20 elay kcode eI (d + 1) 139 (8, [(0, (1, 1))], [(0, z5)], w) _
  refine e_Ok.if1 rfl (fun h7 => ?_) (fun h7 => ?_)
  · replace h7 : (z5 : Int) ≥ 0 := h7
    refine e_Ok.run (t' := (25, [(0, (1, 1))], [(1, 1), (0, 4), (1, 1)], w)) 3 rfl ?_
    refine e_Ok.getf (z := w 1 6) rfl (el_o rfl) rfl rfl rfl (by omega) ?_
    refine e_Ok.callV rfl (by omega) rfl rfl rfl rfl (c_133 hT hH hk (by omega) (by omega)) (fun r8 w9 h10 => ?_)
    obtain ⟨rfl, q11f, q11T, q11H, q11k, q11n⟩ := h10
    have f12 : e_fr kRc w w9 := e_fr.trans (e_fr.refl w) (e_fr.mono q11f (fun c k q => by exact q))
    show e_Ok 20 elay kcode eI (d + 1) 139 (31, [(0, (1, 1))], [], w9) _
    refine e_Ok.rets rfl rfl ?_
    exact ⟨rfl, f12, q11T, q11H, q11k, (fun h => absurd h q11n)⟩
  · replace h7 : (z5 : Int) < 0 := by have q : ¬ ((z5 : Int) ≥ 0) := h7; omega
    refine e_Ok.run (t' := (13, [(0, (1, 1))], [(1, 1), (1, 1)], w)) 2 rfl ?_
    refine e_Ok.getf (z := w 1 6) rfl (el_o rfl) rfl rfl rfl (by omega) ?_
    refine e_Ok.callV rfl (by omega) rfl rfl rfl rfl (c_136 (by omega) hT hH (by omega)) (fun r13 w14 h15 => ?_)
    obtain ⟨z16, rfl, rfl, q17⟩ := h15
    show e_Ok 20 elay kcode eI (d + 1) 139 (19, [(0, (1, 1))], [(0, z16)], w) _
    refine e_Ok.if1 rfl (fun h18 => ?_) (fun h18 => ?_)
    · replace h18 : (z16 : Int) < 0 := h18
      refine e_Ok.rets rfl rfl ?_
      exact ⟨rfl, e_fr.refl w, hT, hH, hk, fun h => h⟩
    · replace h18 : (z16 : Int) ≥ 0 := by have q : ¬ ((z16 : Int) < 0) := h18; omega
      refine e_Ok.run (t' := (25, [(0, (1, 1))], [(1, 1), (0, 4), (1, 1)], w)) 3 rfl ?_
      refine e_Ok.getf (z := w 1 6) rfl (el_o rfl) rfl rfl rfl (by omega) ?_
      refine e_Ok.callV rfl (by omega) rfl rfl rfl rfl (c_133 hT hH hk (by omega) (by omega)) (fun r19 w20 h21 => ?_)
      obtain ⟨rfl, q22f, q22T, q22H, q22k, q22n⟩ := h21
      have f23 : e_fr kRc w w20 := e_fr.trans (e_fr.refl w) (e_fr.mono q22f (fun c k q => by exact q))
      show e_Ok 20 elay kcode eI (d + 1) 139 (31, [(0, (1, 1))], [], w20) _
      refine e_Ok.rets rfl rfl ?_
      exact ⟨rfl, f23, q22T, q22H, q22k, (fun h => absurd h q22n)⟩
theorem c_21 {d : Nat} {w : eW} (hT : e_Has kTy w) {cd : Int} (hcd : isCd cd) {op : Int} (g_op : 0 ≤ op ∧ op ≤ 63) {od : Int} (g_od : 0 ≤ od ∧ od ≤ 33554431) : e_Ok 20 elay kcode eI d 21 (0, [(0, (1, cd)), (1, (0, op)), (2, (0, od))], [], w) (fun r w' => ∃ z : Int, r = [(0, z)] ∧ e_fr (kEm cd) w w' ∧ e_Has kTy w' ∧ emQ w w' cd op od z) := by
  have hcd2 := hcd; unfold isCd at hcd2
  have hcd3 : 2 ≤ cd ∧ cd ≤ 145 := by omega
  have pL := e_Has.get hT (c := cd) (k := 0) (lo := 0) (hi := 4000) (kD_0 hcd) (by decide)
  refine e_Ok.run (t' := (1, [(0, (1, cd)), (1, (0, op)), (2, (0, od))], [(1, cd)], w)) 1 rfl ?_
  have h1 := (e_Has.get hT (c := cd) (k := 0) (lo := 0) (hi := 4000) (kD_0 hcd) (by decide))
  refine e_Ok.getf (z := w cd 0) rfl (lD0 hcd) rfl rfl rfl (by omega) ?_
  refine e_Ok.run (t' := (7, [(0, (1, cd)), (1, (0, op)), (2, (0, od))], [(0, 4000), (0, w cd 0)], w)) 1 rfl ?_
  refine e_Ok.if2 rfl (fun h2 => ?_) (fun h2 => ?_)
  · replace h2 : (w cd 0 : Int) < 4000 := h2
    refine e_Ok.run (t' := (18, [(0, (1, cd)), (1, (0, op)), (2, (0, od))], [(1, cd)], w)) 1 rfl ?_
    refine e_Ok.getr (z := cd + 2) rfl (lD0 hcd) rfl rfl (Eq.trans (e_Has.eq hT (kD_4 hcd)) (by omega)) (by omega) ?_
    refine e_Ok.run (t' := (22, [(0, (1, cd)), (1, (0, op)), (2, (0, od))], [(1, cd), (1, cd + 2)], w)) 1 rfl ?_
    refine e_Ok.getf (z := w cd 0) rfl (lD0 hcd) rfl rfl rfl (by omega) ?_
    refine e_Ok.run (t' := (28, [(0, (1, cd)), (1, (0, op)), (2, (0, od))], [(0, 6), (0, od), (0, w cd 0), (1, cd + 2)], w)) 2 rfl ?_
    refine e_Ok.shl6 rfl (by omega) (fun z3 hz3 => ?_)
    replace hz3 : z3 = od * 64 := hz3
    refine e_Ok.run (t' := (30, [(0, (1, cd)), (1, (0, op)), (2, (0, od))], [(0, op), (0, z3), (0, w cd 0), (1, cd + 2)], w)) 1 rfl ?_
    refine e_Ok.or6 rfl (by omega) (by omega) (fun z4 hz4 => ?_)
    replace hz4 : z4 = z3 + op := hz4
    refine e_Ok.ast rfl (lD2 (d := cd) (by omega) hcd) rfl rfl (by omega) ?_
    generalize hw5 : e_up w (cd + 2) (w cd 0) z4 = w5
    have f6 : e_fr (kEm cd) w w5 := e_fr.up (e_fr.refl w) hw5 (by unfold kEm; omega)
    have hT7 : e_Has kTy w5 := e_Has.upr hT hw5 (kD2 (d := cd) _ (by omega) hcd) (by omega)
    refine e_Ok.run (t' := (34, [(0, (1, cd)), (1, (0, op)), (2, (0, od))], [(1, cd), (1, cd)], w5)) 2 rfl ?_
    refine e_Ok.getf (z := w cd 0) rfl (lD0 hcd) rfl rfl (by rw [← hw5]; exact (e_up_ne _ _ (Or.inl (by omega))).trans rfl) (by omega) ?_
    refine e_Ok.run (t' := (38, [(0, (1, cd)), (1, (0, op)), (2, (0, od))], [(0, 1), (0, w cd 0), (1, cd)], w5)) 1 rfl ?_
    refine e_Ok.add (z := w cd 0 + 1) rfl (by omega) (by omega) ?_
    refine e_Ok.putf rfl (lD0 hcd) rfl rfl ?_
    generalize hw8 : e_up w5 cd 0 (w cd 0 + 1) = w8
    have f9 : e_fr (kEm cd) w w8 := e_fr.up f6 hw8 (by unfold kEm; omega)
    have hT10 : e_Has kTy w8 := e_Has.upr hT7 hw8 (kD_0 hcd) (by omega)
    refine e_Ok.run (t' := (43, [(0, (1, cd)), (1, (0, op)), (2, (0, od))], [(1, cd)], w8)) 1 rfl ?_
    refine e_Ok.getf (z := w cd 0 + 1) rfl (lD0 hcd) rfl rfl (by rw [← hw8]; exact e_up_eq _ _ _ _) (by omega) ?_
    refine e_Ok.run (t' := (47, [(0, (1, cd)), (1, (0, op)), (2, (0, od))], [(0, 1), (0, w cd 0 + 1)], w8)) 1 rfl ?_
    refine e_Ok.sub' (z := w cd 0) rfl (by omega) (by omega) ?_
    refine e_Ok.rets rfl rfl ?_
    exact ⟨_, rfl, f9, hT10, Or.inl ⟨by omega, (by rw [← hw8]; exact e_up_eq _ _ _ _), by omega, (by have g : w8 (cd + 2) (w cd 0) = z4 := (by rw [← hw8]; exact (e_up_ne _ _ (Or.inl (by omega))).trans (by rw [← hw5]; exact e_up_eq _ _ _ _)); omega), fun k hk => by rw [← hw8, e_up_ne _ _ (by omega), ← hw5, e_up_ne _ _ (by omega)]⟩⟩
  · replace h2 : (w cd 0 : Int) ≥ 4000 := by have q : ¬ ((w cd 0 : Int) < 4000) := h2; omega
    refine e_Ok.run (t' := (11, [(0, (1, cd)), (1, (0, op)), (2, (0, od))], [(1, cd)], w)) 1 rfl ?_
    refine e_Ok.getf (z := w cd 0) rfl (lD0 hcd) rfl rfl rfl (by omega) ?_
    refine e_Ok.run (t' := (15, [(0, (1, cd)), (1, (0, op)), (2, (0, od))], [(0, 1), (0, w cd 0)], w)) 1 rfl ?_
    refine e_Ok.sub' (z := w cd 0 - 1) rfl (by omega) (by omega) ?_
    refine e_Ok.rets rfl rfl ?_
    exact ⟨_, rfl, e_fr.refl w, hT, Or.inr ⟨by omega, rfl, by omega⟩⟩
theorem c_22 {d : Nat} {w : eW} (hT : e_Has kTy w) {cd : Int} (hcd : isCd cd) {x : Int} (g_x : (-2147483648) ≤ x ∧ x ≤ 2147483647) {od : Int} (g_od : 0 ≤ od ∧ od ≤ 33554431) : e_Ok 20 elay kcode eI d 22 (0, [(0, (1, cd)), (1, (0, x)), (2, (0, od))], [], w) (fun r w' => r = [] ∧ e_fr (kPa cd) w w' ∧ e_Has kTy w' ∧ paQ w w' cd x od) := by
  have hcd2 := hcd; unfold isCd at hcd2
  have hcd3 : 2 ≤ cd ∧ cd ≤ 145 := by omega
  have pL := e_Has.get hT (c := cd) (k := 0) (lo := 0) (hi := 4000) (kD_0 hcd) (by decide)
  refine e_Ok.run (t' := (1, [(0, (1, cd)), (1, (0, x)), (2, (0, od))], [(0, x)], w)) 1 rfl ?_
  refine e_Ok.if1 rfl (fun h1 => ?_) (fun h1 => ?_)
  · replace h1 : (x : Int) < 0 := h1
    refine e_Ok.rets rfl rfl ?_
    exact ⟨rfl, e_fr.refl w, hT, Or.inr ⟨by omega, rfl⟩⟩
  · replace h1 : (x : Int) ≥ 0 := by have q : ¬ ((x : Int) < 0) := h1; omega
    refine e_Ok.run (t' := (6, [(0, (1, cd)), (1, (0, x)), (2, (0, od))], [(1, cd), (0, x)], w)) 2 rfl ?_
    have h2 := (e_Has.get hT (c := cd) (k := 0) (lo := 0) (hi := 4000) (kD_0 hcd) (by decide))
    refine e_Ok.getf (z := w cd 0) rfl (lD0 hcd) rfl rfl rfl (by omega) ?_
    refine e_Ok.if2 rfl (fun h3 => ?_) (fun h3 => ?_)
    · replace h3 : (x : Int) ≥ w cd 0 := h3
      refine e_Ok.rets rfl rfl ?_
      exact ⟨rfl, e_fr.refl w, hT, Or.inr ⟨by omega, rfl⟩⟩
    · replace h3 : (x : Int) < w cd 0 := by have q : ¬ ((x : Int) ≥ w cd 0) := h3; omega
      refine e_Ok.run (t' := (13, [(0, (1, cd)), (1, (0, x)), (2, (0, od))], [(1, cd)], w)) 1 rfl ?_
      refine e_Ok.getr (z := cd + 2) rfl (lD0 hcd) rfl rfl (Eq.trans (e_Has.eq hT (kD_4 hcd)) (by omega)) (by omega) ?_
      refine e_Ok.run (t' := (20, [(0, (1, cd)), (1, (0, x)), (2, (0, od))], [(0, 6), (0, od), (0, x), (1, cd + 2)], w)) 3 rfl ?_
      refine e_Ok.shl6 rfl (by omega) (fun z4 hz4 => ?_)
      replace hz4 : z4 = od * 64 := hz4
      refine e_Ok.run (t' := (22, [(0, (1, cd)), (1, (0, x)), (2, (0, od))], [(1, cd), (0, z4), (0, x), (1, cd + 2)], w)) 1 rfl ?_
      refine e_Ok.getr (z := cd + 2) rfl (lD0 hcd) rfl rfl (Eq.trans (e_Has.eq hT (kD_4 hcd)) (by omega)) (by omega) ?_
      refine e_Ok.run (t' := (26, [(0, (1, cd)), (1, (0, x)), (2, (0, od))], [(0, x), (1, cd + 2), (0, z4), (0, x), (1, cd + 2)], w)) 1 rfl ?_
      have h5 := (e_Has.get hT (c := cd + 2) (k := x) (lo := (-2147483648)) (hi := 2147483647) (kD2 (d := cd) _ (by omega) hcd) (by decide))
      refine e_Ok.ald (z := w (cd + 2) x) rfl (lD2 (d := cd) (by omega) hcd) rfl (by omega) rfl (by omega) ?_
      refine e_Ok.run (t' := (29, [(0, (1, cd)), (1, (0, x)), (2, (0, od))], [(0, 63), (0, w (cd + 2) x), (0, z4), (0, x), (1, cd + 2)], w)) 1 rfl ?_
      refine e_Ok.andm 63 6 rfl (by decide) (fun z6 hz6 => ?_)
      replace hz6 : z6 = (w (cd + 2) x) % 64 := hz6
      have hz6r : 0 ≤ z6 ∧ z6 ≤ 63 := by omega
      refine e_Ok.or6 rfl (by omega) (by omega) (fun z7 hz7 => ?_)
      replace hz7 : z7 = z4 + z6 := hz7
      refine e_Ok.ast rfl (lD2 (d := cd) (by omega) hcd) rfl rfl (by omega) ?_
      generalize hw8 : e_up w (cd + 2) x z7 = w8
      have f9 : e_fr (kPa cd) w w8 := e_fr.up (e_fr.refl w) hw8 (by unfold kPa; omega)
      have hT10 : e_Has kTy w8 := e_Has.upr hT hw8 (kD2 (d := cd) _ (by omega) hcd) (by omega)
      refine e_Ok.rets rfl rfl ?_
      exact ⟨rfl, f9, hT10, Or.inl ⟨by omega, by omega, (by have g : w8 (cd + 2) x = z7 := (by rw [← hw8]; exact e_up_eq _ _ _ _); omega), fun k hk => by rw [← hw8, e_up_ne _ _ (by omega)]⟩⟩
end
