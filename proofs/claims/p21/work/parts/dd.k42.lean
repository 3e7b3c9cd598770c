noncomputable section
/-! the class: a way is kept -/
def kKp (y : Int) (c k : Int) : Prop := (c = 269 ∧ 1000 * y ≤ k ∧ k < 1000 * y + 1000) ∨ ((c = 270 ∨ c = 271) ∧ k = y)
theorem bmod8 {x : Int} (hx : -128 ≤ x ∧ x ≤ 127) : x.bmod 256 = x := by
  show (if x % ((256 : Nat) : Int) < (((256 : Nat) : Int) + 1) / 2 then x % ((256 : Nat) : Int) else x % ((256 : Nat) : Int) - ((256 : Nat) : Int)) = x
  split <;> omega
theorem nar2x {x z : Int} (h : e_nar 2 x = some z) (hx : -128 ≤ x ∧ x ≤ 127) : z = x := by
  have h2 : x.bmod 256 = z := Option.some.inj h
  rw [← h2]
  exact bmod8 hx
section Dd
variable {w w' : eW} {a n m : Int}
theorem e_Ok.i2bx {d M p nx a b : Nat} {l : eL} {r : List eV} {x : Int} {Q : List eV → eW → Prop} (hc : kcode M p = (0, ei_un (fun x => (0, x.bmod 256)) nx, a, b)) (hx : -128 ≤ x ∧ x ≤ 127) (h : e_Ok 20 elay kcode eI d M (nx, l, (0, x) :: r, w) Q) : e_Ok 20 elay kcode eI d M (p, l, (0, x) :: r, w) Q :=
  e_Ok.step (t' := (nx, l, (0, x.bmod 256) :: r, w)) hc rfl (by rw [bmod8 hx]; exact h)
theorem bf_eq {p x s j z : Int} (hL : lyI w a n m) (hs : 0 ≤ s ∧ s < 2 * m) (hj : j = s / 2) (hk : kln (w 265) p x s) (h : (s % 2 = 0 ∧ z = x - w 266 j) ∨ (s % 2 = 1 ∧ z = x + w 266 j)) : z = p := by
  have hst := (hL.str (j := j) (by omega)).2
  unfold kln at hk
  rw [← hj, ← hst] at hk
  rcases hk with ⟨k1, k2, -⟩ | ⟨k1, k2, -⟩ <;> rcases h with ⟨h1, h2⟩ | ⟨h1, h2⟩ <;> omega
/-- the way back from g -/
def pth (w : eW) (f : Int → Int) (m N : Int) (P : Int → Int) (g l : Int) : Prop := P 0 = g ∧ ∀ k, 0 ≤ k → k < l → (0 ≤ P k ∧ P k < N) ∧ (1 ≤ w 268 (P k) ∧ w 268 (P k) ≤ 2 * m) ∧ kln f (P (k + 1)) (P k) (w 268 (P k) - 1)
theorem pth.snoc {f : Int → Int} {N g l x z : Int} {P : Int → Int} (h : pth w f m N P g l) (hl : 0 ≤ l) (hx : P l = x) (h1 : 0 ≤ x ∧ x < N) (h2 : 1 ≤ w 268 x ∧ w 268 x ≤ 2 * m) (h3 : kln f z x (w 268 x - 1)) : pth w f m N (fun k => if k = l + 1 then z else P k) g (l + 1) := by
  refine ⟨by show (if (0 : Int) = l + 1 then z else P 0) = g; rw [if_neg (by omega)]; exact h.1, fun k g1 g2 => ?_⟩
  show (0 ≤ (if k = l + 1 then z else P k) ∧ (if k = l + 1 then z else P k) < N) ∧ (1 ≤ w 268 (if k = l + 1 then z else P k) ∧ w 268 (if k = l + 1 then z else P k) ≤ 2 * m) ∧ kln f (if k + 1 = l + 1 then z else P (k + 1)) (if k = l + 1 then z else P k) (w 268 (if k = l + 1 then z else P k) - 1)
  rw [if_neg (by omega)]
  by_cases e : k = l
  · rw [if_pos (by omega), e, hx]
    exact ⟨h1, h2, h3⟩
  · rw [if_neg (by omega)]
    exact h.2 k g1 (by omega)
/-- what is kept is a way -/
theorem kp_fin {y g l : Int} {P : Int → Int} (hL : lyI w a n m) (h : pth w (w 265) m (kpr (w 265) m.toNat) P g l) (hl : 0 ≤ l ∧ l ≤ 999) (ho : P l = w 262 3) (hy : 0 ≤ y) (h0 : w' 270 y = l) (h1 : w' 271 y = n) (h9 : ∀ k, 0 ≤ k → k < l → w' 269 (1000 * y + k) = w 268 (P (l - 1 - k)) - 1) (hJ : ∀ j k, 0 ≤ j → j < m → (k = 1 ∨ k = 2) → w' (17 * a + j + 97) k = w (17 * a + j + 97) k) : yD w' m y ∧ yP w' a m y 0 (fun j => w 263 j) := by
  have hm := hL.1.2.1
  have hn := hL.1.1
  refine ⟨⟨by rw [h0]; omega, by rw [h1]; exact hn, fun k g1 g2 => ?_⟩, fun k j => tvV w n (P (l - k)) j, fun j g1 g2 => ?_, fun k g1 g2 j g3 g4 => ?_⟩
  · rw [h0] at g2
    rw [h9 k g1 g2]
    have z := (h.2 (l - 1 - k) (by omega) (by omega)).2.1
    omega
  · show tvV w n (P (l - 0)) j = w 263 j
    rw [Int.sub_zero, ho]
    exact hL.ogv ⟨g1, g2⟩
  · rw [h0] at g2
    have z := h.2 (l - 1 - k) (by omega) (by omega)
    rw [show l - 1 - k + 1 = l - k by omega] at z
    rw [h9 k g1 g2, h1, hJ j 1 g3 g4 (by omega), hJ j 2 g3 g4 (by omega)]
    show tvV w n (P (l - (k + 1))) j = tvV w n (P (l - k)) j + dlt (w 268 (P (l - 1 - k)) - 1) j n ∧ w (17 * a + j + 97) 1 ≤ tvV w n (P (l - (k + 1))) j ∧ tvV w n (P (l - (k + 1))) j ≤ w (17 * a + j + 97) 2
    refine ⟨?_, hL.val ⟨g3, g4⟩⟩
    rw [show l - (k + 1) = l - 1 - k by omega]
    have zd := z.2.2.dgt (n := m.toNat) (i := j.toNat) (by have := z.2.1; omega) (by omega) hL.one
    rw [show ((j.toNat : Nat) : Int) = j by omega] at zd
    unfold tvV dlt
    by_cases e1 : w 268 (P (l - 1 - k)) - 1 = 2 * j
    · rw [if_pos e1, zd.1 e1, show kdg (w 265) (P (l - k)) j.toNat + 1 - w 264 j = kdg (w 265) (P (l - k)) j.toNat - w 264 j + 1 by omega, Int.add_mul, Int.one_mul]
      omega
    · rw [if_neg e1]
      by_cases e2 : w 268 (P (l - 1 - k)) - 1 = 2 * j + 1
      · rw [if_pos e2, zd.2.1 e2, show kdg (w 265) (P (l - k)) j.toNat - 1 - w 264 j = kdg (w 265) (P (l - k)) j.toNat - w 264 j - 1 by omega, Int.sub_mul (kdg (w 265) (P (l - k)) j.toNat - w 264 j), Int.one_mul]
        omega
      · rw [if_neg e2, zd.2.2 e1 e2]
        omega
end Dd
theorem c_106 {d : Nat} (hd : 21 ≤ d) {w : eW} (hT : e_Has kTy w) {a n m : Int} (hL : lyI w a n m) {x : Int} (gx : 0 ≤ x ∧ x ≤ 999) (hc : 1 ≤ w 268 x ∧ w 268 x ≤ 2 * m) : e_Ok 20 elay kcode eI d 106 (0, [(0, (1, 262)), (1, (0, x))], [], w) (fun r w' => ∃ z : Int, r = [(0, z)] ∧ w = w' ∧ ∀ p, kln (w 265) p x (w 268 x - 1) → z = p) := by
  obtain ⟨d, rfl⟩ : ∃ e, d = e + 1 := ⟨d - 1, by omega⟩
  have hm := hL.1.2.1
  refine e_Ok.run (t' := (1, [(0, (1, 262)), (1, (0, x))], [(1, 262)], w)) 1 rfl ?_
  refine e_Ok.getr (z := 268) rfl (el_o rfl) rfl rfl (Eq.trans (e_Has.eq hT rfl) (by omega)) (by omega) ?_
  refine e_Ok.run (t' := (5, [(0, (1, 262)), (1, (0, x))], [(0, x), (1, 268)], w)) 1 rfl ?_
  refine e_Ok.ald (z := w 268 x) rfl (el_o rfl) rfl (by omega) rfl (by omega) ?_
  refine e_Ok.run (t' := (7, [(0, (1, 262)), (1, (0, x))], [(0, 1), (0, w 268 x)], w)) 1 rfl ?_
  refine e_Ok.sub' (z := w 268 x - 1) rfl (by omega) (by omega) ?_
  refine e_Ok.run (t' := (13, [(2, (0, w 268 x - 1)), (0, (1, 262)), (1, (0, x))], [(0, 11), (0, 0), (0, w 268 x - 1)], w)) 4 rfl ?_
  refine e_Ok.callS rfl (by omega) rfl rfl (c_242 (by omega) (by omega) (by omega)) (fun r1 w2 h3 => ?_)
  obtain ⟨z4, rfl, rfl, q5⟩ := h3
  obtain ⟨rfl, q5⟩ | ⟨rfl, q5⟩ := q5
  · show e_Ok 20 elay kcode eI (d + 1) 106 (16, [(2, (0, w 268 x - 1)), (0, (1, 262)), (1, (0, x))], [(0, 1)], w) _
    refine e_Ok.if1 rfl (fun h6 => ?_) (fun h6 => ?_)
    · replace h6 : (1 : Int) ≠ 0 := h6
      refine e_Ok.run (t' := (23, [(2, (0, w 268 x - 1)), (0, (1, 262)), (1, (0, x))], [(0, 2), (0, w 268 x - 1)], w)) 2 rfl ?_
      refine e_Ok.remn (fun z7 hz7 => ?_) rfl (by omega) (by omega)
      replace hz7 : z7 = (w 268 x - 1) % 2 := hz7
      have z7r : 0 ≤ z7 ∧ z7 ≤ 1 := by omega
      refine e_Ok.if1 rfl (fun h8 => ?_) (fun h8 => ?_)
      · replace h8 : (z7 : Int) ≠ 0 := h8
        refine e_Ok.run (t' := (42, [(2, (0, w 268 x - 1)), (0, (1, 262)), (1, (0, x))], [(1, 262), (0, x)], w)) 2 rfl ?_
        refine e_Ok.getr (z := 266) rfl (el_o rfl) rfl rfl (Eq.trans (e_Has.eq hT rfl) (by omega)) (by omega) ?_
        refine e_Ok.run (t' := (47, [(2, (0, w 268 x - 1)), (0, (1, 262)), (1, (0, x))], [(0, 2), (0, w 268 x - 1), (1, 266), (0, x)], w)) 2 rfl ?_
        refine e_Ok.divn (fun z9 hz9 => ?_) rfl (by omega) (by omega)
        replace hz9 : z9 = (w 268 x - 1) / 2 := hz9
        have z9r : 0 ≤ z9 ∧ z9 ≤ 5 := by omega
        have hst := (hL.str (j := z9) (by omega)).1
        refine e_Ok.ald (z := w 266 z9) rfl (el_o rfl) rfl (by omega) rfl (by omega) ?_
        refine e_Ok.add (z := x + w 266 z9) rfl (by omega) (by omega) ?_
        refine e_Ok.rets rfl rfl ?_
        exact ⟨_, rfl, rfl, fun p hp => bf_eq hL (by omega) (show z9 = (w 268 x - 1) / 2 by omega) hp (by omega)⟩
      · replace h8 : (z7 : Int) = 0 := by have q : ¬ ((z7 : Int) ≠ 0) := h8; omega
        refine e_Ok.run (t' := (29, [(2, (0, w 268 x - 1)), (0, (1, 262)), (1, (0, x))], [(1, 262), (0, x)], w)) 2 rfl ?_
        refine e_Ok.getr (z := 266) rfl (el_o rfl) rfl rfl (Eq.trans (e_Has.eq hT rfl) (by omega)) (by omega) ?_
        refine e_Ok.run (t' := (34, [(2, (0, w 268 x - 1)), (0, (1, 262)), (1, (0, x))], [(0, 2), (0, w 268 x - 1), (1, 266), (0, x)], w)) 2 rfl ?_
        refine e_Ok.divn (fun z10 hz10 => ?_) rfl (by omega) (by omega)
        replace hz10 : z10 = (w 268 x - 1) / 2 := hz10
        have z10r : 0 ≤ z10 ∧ z10 ≤ 5 := by omega
        have hst := (hL.str (j := z10) (by omega)).1
        refine e_Ok.ald (z := w 266 z10) rfl (el_o rfl) rfl (by omega) rfl (by omega) ?_
        refine e_Ok.sub' (z := x - w 266 z10) rfl (by omega) (by omega) ?_
        refine e_Ok.run (t' := (50, [(2, (0, w 268 x - 1)), (0, (1, 262)), (1, (0, x))], [(0, x - w 266 z10)], w)) 1 rfl ?_
        refine e_Ok.rets rfl rfl ?_
        exact ⟨_, rfl, rfl, fun p hp => bf_eq hL (by omega) (show z10 = (w 268 x - 1) / 2 by omega) hp (by omega)⟩
    · replace h6 : (1 : Int) = 0 := by have q : ¬ ((1 : Int) ≠ 0) := h6; omega
      exfalso; omega
  · show e_Ok 20 elay kcode eI (d + 1) 106 (16, [(2, (0, w 268 x - 1)), (0, (1, 262)), (1, (0, x))], [(0, 0)], w) _
    refine e_Ok.if1 rfl (fun h11 => ?_) (fun h11 => ?_)
    · replace h11 : (0 : Int) ≠ 0 := h11
      exfalso; omega
    · replace h11 : (0 : Int) = 0 := by have q : ¬ ((0 : Int) ≠ 0) := h11; omega
      refine e_Ok.run (t' := (20, [(2, (0, w 268 x - 1)), (0, (1, 262)), (1, (0, x))], [(0, x)], w)) 1 rfl ?_
      refine e_Ok.rets rfl rfl ?_
      exfalso; omega
set_option maxHeartbeats 4000000 in
theorem c_105 {d : Nat} (hd : 23 ≤ d) {w : eW} (hT : e_Has kTy w) {a n m : Int} (hL : lyI w a n m) (ga : 0 ≤ a ∧ a ≤ 3) {y g t : Int} (gy : 0 ≤ y ∧ y ≤ 59) (gg : 0 ≤ g ∧ g < kpr (w 265) m.toNat) (hB : BF w (w 265) m (kpr (w 265) m.toNat) t (w 262 3)) (hg1 : 1 ≤ w 268 g) : e_Ok 20 elay kcode eI d 105 (0, [(0, (1, 262)), (1, (0, y)), (2, (0, g))], [], w) (fun r w' => r = [] ∧ e_fr (kKp y) w w' ∧ e_Has kTy w' ∧ yD w' m y ∧ yP w' a m y 0 (fun j => w 263 j)) := by
  obtain ⟨d, rfl⟩ : ∃ e, d = e + 1 := ⟨d - 1, by omega⟩
  have hm := hL.1.2.1
  have hm8 : w (17 * a + 86) 8 = m := hL.1.2.2.1
  have hn1 := hL.1.1
  have hw1 : w 262 1 = n := hL.1.2.2.2.1
  have hw2 := hL.1.2.2.2.2; unfold kn1 at hw2
  have hNk := hL.2.2.1
  obtain ⟨i0, hi00, hg0⟩ : ∃ i, (0 ≤ i ∧ i < t) ∧ w 267 i = g := by rcases hB.2.2.2.2 g gg.1 gg.2 with q | q | q; (exfalso; omega); (exfalso; omega); exact q
  have ht := hB.1
  refine e_Ok.run (t' := (5, [(4, (0, g)), (3, (0, 0)), (0, (1, 262)), (1, (0, y)), (2, (0, g))], [], w)) 4 rfl ?_
  have hL1 : ∀ (nn : Nat) (y3 : Int) (y4 : Int) (ix : Int) (P1 : Int → Int), pth w (w 265) m (kpr (w 265) m.toNat) P1 g y3 ∧ P1 y3 = y4 ∧ ((0 ≤ ix ∧ ix < t)) ∧ w 267 ix = y4 ∧ ix + y3 ≤ 999 ∧ ((0 ≤ y3 ∧ y3 ≤ 999)) ∧ ((0 ≤ y4 ∧ y4 ≤ 999)) → 999 - y3 < nn → e_Ok 20 elay kcode eI (d + 1) 105 (5, [(0, (1, 262)), (1, (0, y)), (2, (0, g)), (3, (0, y3)), (4, (0, y4))], [], w) (fun r w' => r = [] ∧ e_fr (kKp y) w w' ∧ e_Has kTy w' ∧ yD w' m y ∧ yP w' a m y 0 (fun j => w 263 j)) := by
    intro nn
    induction nn with
    | zero => intro y3 y4 ix P1 hj hm; obtain ⟨j3, j4, j5, j6, j7, j8, j9⟩ := hj; exfalso; omega
    | succ nn ih2 =>
      intro y3 y4 ix P1 hj hm
      obtain ⟨j3, j4, j5, j6, j7, j8, j9⟩ := hj
      have hp := hB.pos (i := ix) j5
      rw [j6] at hp
      have hyr : 0 ≤ y4 ∧ y4 < kpr (w 265) m.toNat := by have z := hB.2.1 ix j5.1 j5.2; rw [j6] at z; exact z
      have hcr := hB.came (by omega) hyr
      refine e_Ok.run (t' := (6, [(0, (1, 262)), (1, (0, y)), (2, (0, g)), (3, (0, y3)), (4, (0, y4))], [(1, 262)], w)) 1 rfl ?_
      refine e_Ok.getr (z := 268) rfl (el_o rfl) rfl rfl (Eq.trans (e_Has.eq hT rfl) (by omega)) (by omega) ?_
      refine e_Ok.run (t' := (11, [(0, (1, 262)), (1, (0, y)), (2, (0, g)), (3, (0, y3)), (4, (0, y4))], [(0, y4), (1, 268)], w)) 1 rfl ?_
      refine e_Ok.ald (z := w 268 y4) rfl (el_o rfl) rfl (by omega) rfl (by omega) ?_
      refine e_Ok.run (t' := (14, [(0, (1, 262)), (1, (0, y)), (2, (0, g)), (3, (0, y3)), (4, (0, y4))], [(0, 100), (0, w 268 y4)], w)) 1 rfl ?_
      refine e_Ok.if2 rfl (fun h10 => ?_) (fun h10 => ?_)
      · replace h10 : (w 268 y4 : Int) = 100 := h10
        have hi0 : ix = 0 := by by_cases g : ix = 0; exact g; (have g2 := hp.2.2 (by omega); omega)
        have hog : P1 y3 = w 262 3 := by rw [j4, ← j6, hi0]; exact hB.2.2.1.1
        refine e_Ok.run (t' := (43, [(4, (0, g)), (0, (1, 262)), (1, (0, y)), (2, (0, g)), (3, (0, y3))], [(0, 1), (0, y3)], w)) 4 rfl ?_
        refine e_Ok.sub' (z := y3 - 1) rfl (by omega) (by omega) ?_
        refine e_Ok.run (t' := (46, [(5, (0, y3 - 1)), (4, (0, g)), (0, (1, 262)), (1, (0, y)), (2, (0, g)), (3, (0, y3))], [], w)) 1 rfl ?_
        have hL11 : ∀ (nn : Nat) (y4b : Int) (y5 : Int) (v1 : eW), e_fr (kKp y) w v1 ∧ e_Has kTy v1 ∧ y4b = P1 (y3 - 1 - y5) ∧ (∀ k, y5 < k → k < y3 → v1 269 (1000 * y + k) = w 268 (P1 (y3 - 1 - k)) - 1) ∧ (∀ c k, c ≠ 269 → v1 c k = w c k) ∧ ((-1 ≤ y5 ∧ y5 < y3)) ∧ ((0 ≤ y5 → 0 ≤ y4b ∧ y4b ≤ 999)) → y5 + 1 < nn → e_Ok 20 elay kcode eI (d + 1) 105 (46, [(0, (1, 262)), (1, (0, y)), (3, (0, y3)), (4, (0, y4b)), (5, (0, y5))], [], v1) (fun r w' => r = [] ∧ e_fr (kKp y) w w' ∧ e_Has kTy w' ∧ yD w' m y ∧ yP w' a m y 0 (fun j => w 263 j)) := by
          intro nn
          induction nn with
          | zero => intro y4b y5 v1 hj hm; obtain ⟨j13, j14, j15, j16, j17, j18, j19⟩ := hj; exfalso; omega
          | succ nn ih12 =>
            intro y4b y5 v1 hj hm
            obtain ⟨j13, j14, j15, j16, j17, j18, j19⟩ := hj
            refine e_Ok.run (t' := (48, [(0, (1, 262)), (1, (0, y)), (3, (0, y3)), (4, (0, y4b)), (5, (0, y5))], [(0, y5)], v1)) 1 rfl ?_
            refine e_Ok.if1 rfl (fun h20 => ?_) (fun h20 => ?_)
            · replace h20 : (y5 : Int) < 0 := h20
              refine e_Ok.run (t' := (89, [(0, (1, 262)), (1, (0, y)), (3, (0, y3)), (4, (0, y4b)), (5, (0, y5))], [(1, 262)], v1)) 1 rfl ?_
              refine e_Ok.getr (z := 270) rfl (el_o rfl) rfl rfl ((j13 262 11 (by unfold kKp; omega)).trans (Eq.trans (e_Has.eq hT rfl) (by omega))) (by omega) ?_
              refine e_Ok.run (t' := (94, [(0, (1, 262)), (1, (0, y)), (3, (0, y3)), (4, (0, y4b)), (5, (0, y5))], [(0, y3), (0, y), (1, 270)], v1)) 2 rfl ?_
              refine e_Ok.ast rfl (el_o rfl) rfl rfl (by omega) ?_
              generalize hw21 : e_up v1 270 y y3 = w21
              have f22 : e_fr (kKp y) w w21 := e_fr.up j13 hw21 (by unfold kKp; omega)
              have hT23 : e_Has kTy w21 := e_Has.ups j14 hw21 rfl
              refine e_Ok.run (t' := (96, [(0, (1, 262)), (1, (0, y)), (3, (0, y3)), (4, (0, y4b)), (5, (0, y5))], [(1, 262)], w21)) 1 rfl ?_
              refine e_Ok.getr (z := 271) rfl (el_o rfl) rfl rfl (by rw [← hw21]; exact (e_up_ne _ _ (Or.inl (by omega))).trans ((j13 262 12 (by unfold kKp; omega)).trans (Eq.trans (e_Has.eq hT rfl) (by omega)))) (by omega) ?_
              refine e_Ok.run (t' := (101, [(0, (1, 262)), (1, (0, y)), (3, (0, y3)), (4, (0, y4b)), (5, (0, y5))], [(1, 262), (0, y), (1, 271)], w21)) 2 rfl ?_
              refine e_Ok.getf (z := w 262 1) rfl (el_o rfl) rfl rfl (by rw [← hw21]; exact (e_up_ne _ _ (Or.inl (by omega))).trans ((j13 262 1 (by unfold kKp; omega)).trans rfl)) (by omega) ?_
              refine e_Ok.ast rfl (el_o rfl) rfl rfl (by omega) ?_
              generalize hw24 : e_up w21 271 y (w 262 1) = w24
              have f25 : e_fr (kKp y) w w24 := e_fr.up f22 hw24 (by unfold kKp; omega)
              have hT26 : e_Has kTy w24 := e_Has.ups hT23 hw24 rfl
              refine e_Ok.rets rfl rfl ?_
              have eZ : ∀ c k, ¬ ((c = 270 ∨ c = 271) ∧ k = y) → w24 c k = v1 c k := fun c k g => by rw [← hw24, e_up_ne _ _ (by omega), ← hw21, e_up_ne _ _ (by omega)]
              exact ⟨rfl, f25, hT26, kp_fin (w' := w24) hL j3 (by omega) hog gy.1 (by rw [← hw24]; exact (e_up_ne _ _ (Or.inl (by omega))).trans (by rw [← hw21]; exact e_up_eq _ _ _ _)) (Eq.trans (by rw [← hw24]; exact e_up_eq _ _ _ _) hw1) (fun k g1 g2 => by rw [eZ _ _ (by omega)]; exact j16 k (by omega) g2) (fun j k g1 g2 g3 => by rw [eZ _ _ (by omega)]; exact j17 _ _ (by omega))⟩
            · replace h20 : (y5 : Int) ≥ 0 := by have q : ¬ ((y5 : Int) < 0) := h20; omega
              have hk := (j3).2 (y3 - 1 - y5) (by omega) (by omega)
              rw [← j15] at hk
              have hk1 := hk.1; have hk2 := hk.2.1
              refine e_Ok.run (t' := (52, [(0, (1, 262)), (1, (0, y)), (3, (0, y3)), (4, (0, y4b)), (5, (0, y5))], [(1, 262)], v1)) 1 rfl ?_
              refine e_Ok.getr (z := 269) rfl (el_o rfl) rfl rfl ((j13 262 10 (by unfold kKp; omega)).trans (Eq.trans (e_Has.eq hT rfl) (by omega))) (by omega) ?_
              refine e_Ok.run (t' := (59, [(0, (1, 262)), (1, (0, y)), (3, (0, y3)), (4, (0, y4b)), (5, (0, y5))], [(0, 1000), (0, y), (1, 269)], v1)) 2 rfl ?_
              refine e_Ok.mul (z := 1000 * y) rfl (by omega) (by omega) ?_
              refine e_Ok.run (t' := (62, [(0, (1, 262)), (1, (0, y)), (3, (0, y3)), (4, (0, y4b)), (5, (0, y5))], [(0, y5), (0, 1000 * y), (1, 269)], v1)) 1 rfl ?_
              refine e_Ok.add (z := 1000 * y + y5) rfl (by omega) (by omega) ?_
              refine e_Ok.run (t' := (64, [(0, (1, 262)), (1, (0, y)), (3, (0, y3)), (4, (0, y4b)), (5, (0, y5))], [(1, 262), (0, 1000 * y + y5), (1, 269)], v1)) 1 rfl ?_
              refine e_Ok.getr (z := 268) rfl (el_o rfl) rfl rfl ((j13 262 9 (by unfold kKp; omega)).trans (Eq.trans (e_Has.eq hT rfl) (by omega))) (by omega) ?_
              refine e_Ok.run (t' := (69, [(0, (1, 262)), (1, (0, y)), (3, (0, y3)), (4, (0, y4b)), (5, (0, y5))], [(0, y4b), (1, 268), (0, 1000 * y + y5), (1, 269)], v1)) 1 rfl ?_
              refine e_Ok.ald (z := w 268 y4b) rfl (el_o rfl) rfl (by omega) ((j13 268 y4b (by unfold kKp; omega)).trans rfl) (by omega) ?_
              refine e_Ok.run (t' := (71, [(0, (1, 262)), (1, (0, y)), (3, (0, y3)), (4, (0, y4b)), (5, (0, y5))], [(0, 1), (0, w 268 y4b), (0, 1000 * y + y5), (1, 269)], v1)) 1 rfl ?_
              refine e_Ok.sub' (z := w 268 y4b - 1) rfl (by omega) (by omega) ?_
              refine e_Ok.i2bx rfl (by omega) ?_
              obtain ⟨z27, hz27, z27r⟩ := e_nar_2 (w 268 y4b - 1)
              refine e_Ok.ast rfl (el_o rfl) rfl hz27 (by omega) ?_
              generalize hw28 : e_up v1 269 (1000 * y + y5) z27 = w28
              have f29 : e_fr (kKp y) w w28 := e_fr.up j13 hw28 (by unfold kKp; omega)
              have hT30 : e_Has kTy w28 := e_Has.ups j14 hw28 rfl
              refine e_Ok.run (t' := (77, [(0, (1, 262)), (1, (0, y)), (3, (0, y3)), (4, (0, y4b)), (5, (0, y5))], [(0, y4b), (1, 262)], w28)) 2 rfl ?_
              have e46 : ∀ c k, c ≠ 269 → w28 c k = w c k := fun c k g => by rw [← hw28, e_up_ne _ _ (by omega)]; exact j17 c k g
              have hL4 : lyI w28 a n m := hL.eq (fun c k g => e46 c k (by omega))
              refine e_Ok.callV rfl (by omega) rfl rfl rfl rfl (c_106 (by omega) hT30 hL4 (x := y4b) (by omega) (by rw [e46 _ _ (by omega)]; exact hk2)) (fun r31 w32 h33 => ?_)
              obtain ⟨z34, rfl, rfl, q35x⟩ := h33
              have hz2 : z34 = P1 (y3 - 1 - (y5 - 1)) := by rw [show y3 - 1 - (y5 - 1) = y3 - 1 - y5 + 1 by omega]; refine q35x _ ?_; rw [e46 _ _ (by omega), show w28 265 = w 265 from funext (fun k => e46 265 k (by omega))]; exact hk.2.2
              have hk9 : 0 ≤ y5 - 1 → 0 ≤ z34 ∧ z34 ≤ 999 := fun g => by have z9 := ((j3).2 (y3 - 1 - (y5 - 1)) (by omega) (by omega)).1; rw [← hz2] at z9; omega
              show e_Ok 20 elay kcode eI (d + 1) 105 (80, [(0, (1, 262)), (1, (0, y)), (3, (0, y3)), (4, (0, y4b)), (5, (0, y5))], [(0, z34)], w28) _
              refine e_Ok.run (t' := (82, [(4, (0, z34)), (0, (1, 262)), (1, (0, y)), (3, (0, y3)), (5, (0, y5))], [], w28)) 1 rfl ?_
              refine e_Ok.inc (z := y5 - 1) rfl rfl (by omega) (by omega) ?_
              show e_Ok 20 elay kcode eI (d + 1) 105 (85, [(5, (0, y5 - 1)), (4, (0, z34)), (0, (1, 262)), (1, (0, y)), (3, (0, y3))], [], w28) _
              refine e_Ok.run (t' := (46, [(5, (0, y5 - 1)), (4, (0, z34)), (0, (1, 262)), (1, (0, y)), (3, (0, y3))], [], w28)) 1 rfl ?_
              refine e_Ok.sub kAlk (e_sub_of rfl ?_) (ih12 z34 (y5 - 1) w28 ⟨f29, hT30, hz2, (fun k g1 g2 => by by_cases e : k = y5; (rw [e, ← hw28, e_up_eq, ← j15]; exact nar2x hz27 (by omega)); (rw [← hw28, e_up_ne _ _ (by omega)]; exact j16 k (by omega) g2)), e46, by omega, hk9⟩ (by omega))
              exact ⟨rfl, rfl, rfl, rfl, rfl, trivial⟩
        refine e_Ok.sub kAlk (e_sub_of rfl ?_) (hL11 (1000 + 1 : Int).toNat g (y3 - 1) w ⟨(e_fr.refl w), hT, (by rw [show y3 - 1 - (y3 - 1) = 0 by omega]; exact (j3).1.symm), (fun k g1 g2 => by omega), (fun _ _ _ => rfl), by omega, by omega⟩ (by omega))
        exact ⟨rfl, rfl, rfl, rfl, rfl, trivial⟩
      · replace h10 : (w 268 y4 : Int) ≠ 100 := by have q : ¬ ((w 268 y4 : Int) = 100) := h10; omega
        refine e_Ok.run (t' := (21, [(0, (1, 262)), (1, (0, y)), (2, (0, g)), (3, (0, y3)), (4, (0, y4))], [(0, 1000), (0, y3)], w)) 2 rfl ?_
        refine e_Ok.if2 rfl (fun h36 => ?_) (fun h36 => ?_)
        · replace h36 : (y3 : Int) ≥ 1000 := h36
          exfalso; omega
        · replace h36 : (y3 : Int) < 1000 := by have q : ¬ ((y3 : Int) ≥ 1000) := h36; omega
          refine e_Ok.inc (z := y3 + 1) rfl rfl (by omega) (by omega) ?_
          show e_Ok 20 elay kcode eI (d + 1) 105 (27, [(3, (0, y3 + 1)), (0, (1, 262)), (1, (0, y)), (2, (0, g)), (4, (0, y4))], [], w) _
          refine e_Ok.run (t' := (30, [(3, (0, y3 + 1)), (0, (1, 262)), (1, (0, y)), (2, (0, g)), (4, (0, y4))], [(0, y4), (1, 262)], w)) 2 rfl ?_
          have hix : 1 ≤ ix := by by_cases g : ix = 0; (have g2 := hp.2.1 g; omega); omega
          obtain ⟨hc1, jx, hjx, hkx⟩ := hB.2.2.2.1 ix hix (by omega)
          rw [j6] at hc1 hkx
          refine e_Ok.callV rfl (by omega) rfl rfl rfl rfl (c_106 (by omega) hT hL (by omega) hc1) (fun r37 w38 h40 => ?_)
          obtain ⟨z41, rfl, rfl, q42x⟩ := h40
          have hz := q42x _ hkx
          have hzr := hB.2.1 jx (by omega) (by omega)
          show e_Ok 20 elay kcode eI (d + 1) 105 (33, [(3, (0, y3 + 1)), (0, (1, 262)), (1, (0, y)), (2, (0, g)), (4, (0, y4))], [(0, z41)], w) _
          refine e_Ok.run (t' := (5, [(4, (0, z41)), (3, (0, y3 + 1)), (0, (1, 262)), (1, (0, y)), (2, (0, g))], [], w)) 2 rfl ?_
          refine e_Ok.sub kAlk (e_sub_of rfl ?_) (ih2 (y3 + 1) z41 jx (fun k => if k = y3 + 1 then z41 else P1 k) ⟨(pth.snoc j3 (by omega) j4 hyr hc1 (by rw [hz]; exact hkx)), (by show (if y3 + 1 = y3 + 1 then z41 else _) = _; rw [if_pos rfl]), (by omega), hz.symm, (by omega), by omega, by omega⟩ (by omega))
          exact ⟨rfl, rfl, rfl, rfl, rfl, trivial⟩
  refine e_Ok.sub kAlk (e_sub_of rfl ?_) (hL1 (999 + 1 : Int).toNat 0 g i0 (fun _ => g) ⟨⟨rfl, fun k g1 g2 => by omega⟩, rfl, hi00, hg0, (by omega), by omega, by omega⟩ (by omega))
  exact ⟨rfl, rfl, rfl, rfl, rfl, trivial⟩
end
