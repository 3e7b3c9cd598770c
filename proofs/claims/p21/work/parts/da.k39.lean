noncomputable section
/-! the class: the nodes of a plan -/
def kLy (c k : Int) : Prop := (c = 262 ∧ 1 ≤ k ∧ k ≤ 3) ∨ (263 ≤ c ∧ c ≤ 266)
def kJv (a m : Int) (c k : Int) : Prop := 17 * a + 97 ≤ c ∧ c < 17 * a + m + 97 ∧ k = 7
section Da
variable {w w' : eW}
theorem mulb {x y A B : Int} (hx : 0 ≤ x ∧ x ≤ A) (hy : 0 ≤ y ∧ y ≤ B) : 0 ≤ x * y ∧ x * y ≤ A * B := ⟨Int.mul_nonneg hx.1 hy.1, Int.mul_le_mul hx.2 hy.2 hy.1 (by omega)⟩
/-- a joint of a plan: its grid -/
def lyJ (w : eW) (a n j : Int) : Prop := (w (17 * a + j + 97) 1 ≤ w 263 j ∧ w 263 j ≤ w (17 * a + j + 97) 2) ∧ (-100000 ≤ w (17 * a + j + 97) 1 ∧ w (17 * a + j + 97) 2 ≤ 100000) ∧ w 264 j = (w 263 j - w (17 * a + j + 97) 1) / n ∧ w 265 j = w 264 j + (w (17 * a + j + 97) 2 - w 263 j) / n + 1 ∧ w 266 j = kpr (w 265) j.toNat
def lyI (w : eW) (a n m : Int) : Prop := ((1 ≤ n ∧ n ≤ 16) ∧ (0 ≤ m ∧ m ≤ 6) ∧ w (17 * a + 86) 8 = m ∧ w 262 1 = n ∧ kn1 (w 262 2)) ∧ w 262 3 = ksm (w 265) (w 264) m.toNat ∧ kpr (w 265) m.toNat ≤ 1000 ∧ ∀ j, 0 ≤ j → j < m → lyJ w a n j
theorem lyJ.eq {a n j : Int} (h : ∀ c k, ((263 ≤ c ∧ c ≤ 266) ∧ 0 ≤ k ∧ k ≤ j) ∨ (c = 17 * a + j + 97 ∧ (k = 1 ∨ k = 2)) → w' c k = w c k) (hj : 0 ≤ j) (q : lyJ w a n j) : lyJ w' a n j := by
  unfold lyJ at q ⊢
  rw [h 263 j (by omega), h 264 j (by omega), h 265 j (by omega), h 266 j (by omega), h (17 * a + j + 97) 1 (by omega), h (17 * a + j + 97) 2 (by omega), kpr_cg (f := w' 265) (g := w 265) (fun k g1 g2 => h 265 k (by omega))]
  exact q
theorem lyJ.bd {a n j : Int} (hn : 1 ≤ n ∧ n ≤ 16) (q : lyJ w a n j) : (0 ≤ w 264 j ∧ w 264 j ≤ 200000) ∧ (1 ≤ w 265 j ∧ w 265 j ≤ 200001) ∧ w 264 j < w 265 j ∧ (-100000 ≤ w 263 j ∧ w 263 j ≤ 100000) := by
  obtain ⟨q1, q2, q3, q4, -⟩ := q
  have h1 : 0 ≤ (w 263 j - w (17 * a + j + 97) 1) / n := Int.ediv_nonneg (by omega) (by omega)
  have h2 : (w 263 j - w (17 * a + j + 97) 1) / n ≤ w 263 j - w (17 * a + j + 97) 1 := Int.ediv_le_self n (by omega)
  have h3 : 0 ≤ (w (17 * a + j + 97) 2 - w 263 j) / n := Int.ediv_nonneg (by omega) (by omega)
  have h4 : (w (17 * a + j + 97) 2 - w 263 j) / n ≤ w (17 * a + j + 97) 2 - w 263 j := Int.ediv_le_self n (by omega)
  omega
theorem lyI.eq {a n m : Int} (h : ∀ c k, (c = 262 ∧ 1 ≤ k ∧ k ≤ 3) ∨ (263 ≤ c ∧ c ≤ 266) ∨ (c = 17 * a + 86 ∧ k = 8) ∨ (17 * a + 97 ≤ c ∧ c ≤ 17 * a + 102 ∧ (k = 1 ∨ k = 2)) → w' c k = w c k) (q : lyI w a n m) : lyI w' a n m := by
  obtain ⟨q1, q2, q3, q4⟩ := q
  have e5 : w' 265 = w 265 := funext (fun k => h 265 k (by omega))
  have e4 : w' 264 = w 264 := funext (fun k => h 264 k (by omega))
  refine ⟨?_, by rw [h 262 3 (by omega), e5, e4]; exact q2, by rw [e5]; exact q3, fun j g1 g2 => (q4 j g1 g2).eq (fun c k g => h c k (by omega)) g1⟩
  rw [h (17 * a + 86) 8 (by omega), h 262 1 (by omega), h 262 2 (by omega)]
  exact q1
theorem lyI.str {a n m j : Int} (q : lyI w a n m) (hj : 0 ≤ j ∧ j < m) : (1 ≤ w 266 j ∧ w 266 j ≤ 1000) ∧ w 266 j = kpr (w 265) j.toNat := by
  have hq := (q.2.2.2 j hj.1 hj.2).2.2.2.2
  have z := kpb (f := w 265) (m := m) (j := j) (by omega) (by omega) (fun k g1 g2 => by have z := (q.2.2.2 k g1 g2).bd q.1.1; omega) q.2.2.1
  rw [hq]
  exact ⟨z, rfl⟩
theorem lyI.one {a n m : Int} (q : lyI w a n m) : ∀ k : Int, 0 ≤ k → k < (m.toNat : Int) → 1 ≤ w 265 k := fun k g1 g2 => by
  have z := (q.2.2.2 k g1 (by omega)).bd q.1.1
  omega
/-- where the arm stands, is a node -/
theorem lyI.og {a n m : Int} (q : lyI w a n m) : (0 ≤ w 262 3 ∧ w 262 3 < kpr (w 265) m.toNat) ∧ ∀ j, 0 ≤ j → j < m → kdg (w 265) (w 262 3) j.toNat = w 264 j := by
  have hd : ∀ k : Int, 0 ≤ k → k < (m.toNat : Int) → 0 ≤ w 264 k ∧ w 264 k < w 265 k := fun k g1 g2 => by
    have z := (q.2.2.2 k g1 (by omega)).bd q.1.1
    omega
  rw [q.2.1]
  refine ⟨ksmi hd, fun j g1 g2 => ?_⟩
  have z := ksmd (f := w 265) (d := w 264) (j := j.toNat) (n := m.toNat) (by omega) hd
  rw [show ((j.toNat : Nat) : Int) = j by omega] at z
  exact z
/-- the value of the joint j at a node -/
def tvV (w : eW) (n x j : Int) : Int := w 263 j + (kdg (w 265) x j.toNat - w 264 j) * n
theorem lyI.val {a n m x j : Int} (q : lyI w a n m) (hj : 0 ≤ j ∧ j < m) : w (17 * a + j + 97) 1 ≤ tvV w n x j ∧ tvV w n x j ≤ w (17 * a + j + 97) 2 := by
  have z := q.2.2.2 j hj.1 hj.2
  have zb := z.bd q.1.1
  obtain ⟨z1, z2, z3, z4, -⟩ := z
  have hd := kdgi (f := w 265) (x := x) (j := j.toNat) (by rw [show ((j.toNat : Nat) : Int) = j by omega]; omega)
  rw [show ((j.toNat : Nat) : Int) = j by omega] at hd
  have g := kvg (v := w 263 j) (lo := w (17 * a + j + 97) 1) (hi := w (17 * a + j + 97) 2) (n := n) (first := w 263 j - w 264 j * n) (down := w 264 j) (up := (w (17 * a + j + 97) 2 - w 263 j) / n) (nodes := w 265 j) (d := kdg (w 265) x j.toNat) q.1.1.1 z1 z3 rfl rfl z4 hd
  have e : tvV w n x j = w 263 j - w 264 j * n + n * kdg (w 265) x j.toNat := by
    unfold tvV
    rw [Int.sub_mul, Int.mul_comm n]
    omega
  rw [e]
  exact g
theorem lyI.ogv {a n m j : Int} (q : lyI w a n m) (hj : 0 ≤ j ∧ j < m) : tvV w n (w 262 3) j = w 263 j := by
  unfold tvV
  rw [q.og.2 j hj.1 hj.2, Int.sub_self, Int.zero_mul]
  omega
end Da
theorem nb_fin {w : eW} {a n m x s j z d : Int} (hL : lyI w a n m) (gx : 0 ≤ x ∧ x < kpr (w 265) m.toNat) (gs : 0 ≤ s ∧ s < 2 * m) (hj : j = s / 2) (hd : d = kdg (w 265) x j.toNat) (h : (s % 2 = 0 ∧ z = x + w 266 j ∧ d + 1 < w 265 j) ∨ (s % 2 = 1 ∧ z = x - w 266 j ∧ 0 < d)) : (0 ≤ z ∧ z < kpr (w 265) m.toNat) ∧ kln (w 265) x z s := by
  have hs := (hL.str (j := j) (by omega)).2
  have e2 : ((j.toNat : Nat) : Int) = j := by omega
  have hl : kln (w 265) x z s := by
    unfold kln
    rw [← hj]
    rcases h with ⟨h1, h2, h3⟩ | ⟨h1, h2, h3⟩
    · exact Or.inl ⟨h1, by rw [← hs]; exact h2, by rw [← hd]; exact h3⟩
    · exact Or.inr ⟨h1, by rw [← hs]; exact h2, by rw [← hd]; exact h3⟩
  have hm := hL.1.2.1
  exact ⟨hl.in (n := m.toNat) (by omega) hL.one gx, hl⟩
def qN (w : eW) (n j : Int) : Int := w 264 j + (w 272 j - w 263 j) / n
theorem no_q {w : eW} {a n m j q f : Int} (hL : lyI w a n m) (hj : 0 ≤ j ∧ j < m) (hlo : w (17 * a + j + 97) 1 ≤ w 272 j) (hhi : w 272 j ≤ w (17 * a + j + 97) 2) (hq : f = q * w 262 1) (hf : f = w 272 j - w 263 j) : (0 ≤ w 264 j + q ∧ w 264 j + q < w 265 j) ∧ w 264 j + q = qN w n j := by
  obtain ⟨z1, z2, z3, z4, -⟩ := hL.2.2.2 j hj.1 hj.2
  have hn := hL.1.1
  rw [hL.1.2.2.2.1] at hq
  refine ⟨kag (v := w 263 j) (lo := w (17 * a + j + 97) 1) (hi := w (17 * a + j + 97) 2) (n := n) (a := w 272 j) (first := w 263 j - w 264 j * n) (down := w 264 j) (up := (w (17 * a + j + 97) 2 - w 263 j) / n) (nodes := w 265 j) hn.1 z1 z3 rfl rfl z4 ⟨hlo, hhi⟩ (by rw [Int.add_mul]; omega), ?_⟩
  unfold qN
  rw [← hf, hq, Int.mul_ediv_cancel q (by omega)]
theorem no_st {w : eW} {a n m j y : Int} (hL : lyI w a n m) (hj : 0 ≤ j ∧ j < m) (hy : y = ksm (w 265) (qN w n) j.toNat) (hq : ∀ i, 0 ≤ i → i < j + 1 → 0 ≤ qN w n i ∧ qN w n i < w 265 i) : y + qN w n j * w 266 j = ksm (w 265) (qN w n) (j + 1).toNat ∧ y + qN w n j * w 266 j < 1000 := by
  have e1 : (j + 1).toNat = j.toNat + 1 := by omega
  have e2 : ((j.toNat : Nat) : Int) = j := by omega
  have e : y + qN w n j * w 266 j = ksm (w 265) (qN w n) (j + 1).toNat := by
    rw [e1]
    show _ = ksm (w 265) (qN w n) j.toNat + kpr (w 265) j.toNat * qN w n (j.toNat : Int)
    rw [e2, (hL.str hj).2, ← hy, Int.mul_comm]
  refine ⟨e, ?_⟩
  rw [e]
  have h1 := (ksmi (f := w 265) (d := qN w n) (n := (j + 1).toNat) (fun k g1 g2 => hq k g1 (by omega))).2
  have h2 := kprl (f := w 265) (m := (j + 1).toNat) (n := m.toNat) (by omega) hL.one
  have h3 := hL.2.2.1
  omega
set_option maxHeartbeats 4000000 in
theorem c_98 {d : Nat} {w : eW} (hT : e_Has kTy w) {a n r : Int} (ga : 0 ≤ a ∧ a ≤ 3) (gn : 1 ≤ n ∧ n ≤ 16) (gr : -2147483648 ≤ r ∧ r ≤ 2147483647) (hv : ∀ j, 0 ≤ j → j < w (17 * a + 86) 8 → (-100000 ≤ w (17 * a + j + 97) 1 ∧ w (17 * a + j + 97) 2 ≤ 100000) ∧ w (17 * a + j + 97) 1 ≤ w (17 * a + j + 97) 7 ∧ w (17 * a + j + 97) 7 ≤ w (17 * a + j + 97) 2) : e_Ok 20 elay kcode eI d 98 (0, [(0, (1, 262)), (1, (1, 17 * a + 86)), (2, (0, n)), (3, (0, r))], [], w) (fun r' w' => ∃ z : Int, r' = [(0, z)] ∧ e_fr kLy w w' ∧ e_Has kTy w' ∧ (0 ≤ z ∧ z ≤ 1) ∧ (z = 1 → lyI w' a n (w (17 * a + 86) 8) ∧ ∀ j, 0 ≤ j → j < w (17 * a + 86) 8 → w' 263 j = w (17 * a + j + 97) 7)) := by
  have hjn := kn_joints hT (a := a) (by omega)
  refine e_Ok.run (t' := (2, [(0, (1, 262)), (1, (1, 17 * a + 86)), (2, (0, n)), (3, (0, r))], [(0, 1), (0, n)], w)) 2 rfl ?_
  refine e_Ok.if2 rfl (fun h1 => ?_) (fun h1 => ?_)
  · replace h1 : (n : Int) ≥ 1 := h1
    refine e_Ok.run (t' := (9, [(0, (1, 262)), (1, (1, 17 * a + 86)), (2, (0, n)), (3, (0, r))], [(0, n), (1, 262)], w)) 2 rfl ?_
    refine e_Ok.putf rfl (el_o rfl) rfl rfl ?_
    generalize hw2 : e_up w 262 1 n = w2
    have f3 : e_fr kLy w w2 := e_fr.up (e_fr.refl w) hw2 (by unfold kLy; omega)
    have hT4 : e_Has kTy w2 := e_Has.ups hT hw2 rfl
    refine e_Ok.run (t' := (14, [(0, (1, 262)), (1, (1, 17 * a + 86)), (2, (0, n)), (3, (0, r))], [(0, r), (1, 262)], w2)) 2 rfl ?_
    refine e_Ok.putf rfl (el_o rfl) rfl rfl ?_
    generalize hw5 : e_up w2 262 2 r = w5
    have f6 : e_fr kLy w w5 := e_fr.up f3 hw5 (by unfold kLy; omega)
    have hT7 : e_Has kTy w5 := e_Has.ups hT4 hw5 rfl
    refine e_Ok.run (t' := (19, [(0, (1, 262)), (1, (1, 17 * a + 86)), (2, (0, n)), (3, (0, r))], [(0, 0), (1, 262)], w5)) 2 rfl ?_
    refine e_Ok.putf rfl (el_o rfl) rfl rfl ?_
    generalize hw8 : e_up w5 262 3 0 = w8
    have f9 : e_fr kLy w w8 := e_fr.up f6 hw8 (by unfold kLy; omega)
    have hT10 : e_Has kTy w8 := e_Has.ups hT7 hw8 rfl
    refine e_Ok.run (t' := (28, [(5, (0, 0)), (4, (0, 1)), (0, (1, 262)), (1, (1, 17 * a + 86)), (2, (0, n)), (3, (0, r))], [], w8)) 4 rfl ?_
    have hL11 : ∀ (nn : Nat) (y4 : Int) (y5 : Int) (v1 : eW), e_fr kLy w v1 ∧ e_Has kTy v1 ∧ (∀ i, 0 ≤ i → i < y5 → lyJ v1 a n i) ∧ y4 = kpr (v1 265) y5.toNat ∧ v1 262 3 = ksm (v1 265) (v1 264) y5.toNat ∧ ((0 ≤ v1 262 3 ∧ v1 262 3 ≤ 200000000 * y5)) ∧ v1 262 1 = n ∧ v1 262 2 = r ∧ ((1 ≤ y4 ∧ y4 ≤ 1000)) ∧ ((0 ≤ y5 ∧ y5 ≤ w (17 * a + 86) 8)) ∧ (∀ i, 0 ≤ i → i < y5 → v1 263 i = w (17 * a + i + 97) 7) → 6 - y5 < nn → e_Ok 20 elay kcode eI d 98 (28, [(0, (1, 262)), (1, (1, 17 * a + 86)), (2, (0, n)), (3, (0, r)), (4, (0, y4)), (5, (0, y5))], [], v1) (fun r' w' => ∃ z : Int, r' = [(0, z)] ∧ e_fr kLy w w' ∧ e_Has kTy w' ∧ (0 ≤ z ∧ z ≤ 1) ∧ (z = 1 → lyI w' a n (w (17 * a + 86) 8) ∧ ∀ j, 0 ≤ j → j < w (17 * a + 86) 8 → w' 263 j = w (17 * a + j + 97) 7)) := by
      intro nn
      induction nn with
      | zero => intro y4 y5 v1 hj hm; obtain ⟨j13, j14, j15, j16, j17, j18, j19, j20, j21, j22, j23⟩ := hj; exfalso; omega
      | succ nn ih12 =>
        intro y4 y5 v1 hj hm
        obtain ⟨j13, j14, j15, j16, j17, j18, j19, j20, j21, j22, j23⟩ := hj
        refine e_Ok.run (t' := (31, [(0, (1, 262)), (1, (1, 17 * a + 86)), (2, (0, n)), (3, (0, r)), (4, (0, y4)), (5, (0, y5))], [(1, 17 * a + 86), (0, y5)], v1)) 2 rfl ?_
        have h24 := (e_Has.get hT (c := 17 * a + 86) (k := 8) (lo := 0) (hi := 6) (kA_8 (a := a) (by omega) (by omega)) (by decide))
        refine e_Ok.getf (z := w (17 * a + 86) 8) rfl (lA0 (a := a) (by omega) (by omega)) rfl rfl ((j13 (17 * a + 86) 8 (by unfold kLy; omega)).trans rfl) (by omega) ?_
        refine e_Ok.if2 rfl (fun h25 => ?_) (fun h25 => ?_)
        · replace h25 : (y5 : Int) ≥ w (17 * a + 86) 8 := h25
          refine e_Ok.run (t' := (165, [(0, (1, 262)), (1, (1, 17 * a + 86)), (2, (0, n)), (3, (0, r)), (4, (0, y4)), (5, (0, y5))], [(0, 1)], v1)) 1 rfl ?_
          refine e_Ok.rets rfl rfl ?_
          have hm : y5 = w (17 * a + 86) 8 := by omega
          exact ⟨_, rfl, j13, j14, by omega, fun _ => ⟨⟨⟨by omega, by omega, j13 _ _ (by unfold kLy; omega), j19, by rw [j20]; unfold kn1; omega⟩, by rw [← hm]; exact j17, by rw [← hm, ← j16]; omega, fun j g1 g2 => j15 j g1 (by omega)⟩, fun j g1 g2 => j23 j g1 (by omega)⟩⟩
        · replace h25 : (y5 : Int) < w (17 * a + 86) 8 := by have q : ¬ ((y5 : Int) ≥ w (17 * a + 86) 8) := h25; omega
          have hv5 := hv y5 (by omega) (by omega)
          refine e_Ok.run (t' := (38, [(0, (1, 262)), (1, (1, 17 * a + 86)), (2, (0, n)), (3, (0, r)), (4, (0, y4)), (5, (0, y5))], [(1, 17 * a + 86)], v1)) 1 rfl ?_
          refine e_Ok.getr (z := 17 * a + 87) rfl (lA0 (a := a) (by omega) (by omega)) rfl rfl ((j13 (17 * a + 86) 0 (by unfold kLy; omega)).trans (Eq.trans (e_Has.eq hT (kA_0 (a := a) (by omega) (by omega))) (by omega))) (by omega) ?_
          refine e_Ok.run (t' := (43, [(0, (1, 262)), (1, (1, 17 * a + 86)), (2, (0, n)), (3, (0, r)), (4, (0, y4)), (5, (0, y5))], [(0, y5), (1, 17 * a + 87)], v1)) 1 rfl ?_
          refine e_Ok.aald (z := 17 * a + y5 + 97) rfl (lA1 (a := a) (by omega) (by omega)) rfl (by omega) ((j13 (17 * a + 87) y5 (by unfold kLy; omega)).trans (Eq.trans (e_Has.eq hT (kA87 (a := a) (by omega) (by omega) (by omega))) (by omega))) (by omega) ?_
          refine e_Ok.run (t' := (47, [(6, (1, 17 * a + y5 + 97)), (0, (1, 262)), (1, (1, 17 * a + 86)), (2, (0, n)), (3, (0, r)), (4, (0, y4)), (5, (0, y5))], [(1, 262)], v1)) 2 rfl ?_
          refine e_Ok.getr (z := 263) rfl (el_o rfl) rfl rfl ((j13 262 4 (by unfold kLy; omega)).trans (Eq.trans (e_Has.eq hT rfl) (by omega))) (by omega) ?_
          refine e_Ok.run (t' := (54, [(6, (1, 17 * a + y5 + 97)), (0, (1, 262)), (1, (1, 17 * a + 86)), (2, (0, n)), (3, (0, r)), (4, (0, y4)), (5, (0, y5))], [(1, 17 * a + y5 + 97), (0, y5), (1, 263)], v1)) 2 rfl ?_
          refine e_Ok.getf (z := w (17 * a + y5 + 97) 7) rfl (lJ (a := a) (j := y5) (by omega) (by omega) (by omega)) rfl rfl ((j13 (17 * a + y5 + 97) 7 (by unfold kLy; omega)).trans rfl) (by omega) ?_
          refine e_Ok.ast rfl (el_o rfl) rfl rfl (by omega) ?_
          generalize hw26 : e_up v1 263 y5 (w (17 * a + y5 + 97) 7) = w26
          have f27 : e_fr kLy w w26 := e_fr.up j13 hw26 (by unfold kLy; omega)
          have hT28 : e_Has kTy w26 := e_Has.ups j14 hw26 rfl
          refine e_Ok.run (t' := (59, [(6, (1, 17 * a + y5 + 97)), (0, (1, 262)), (1, (1, 17 * a + 86)), (2, (0, n)), (3, (0, r)), (4, (0, y4)), (5, (0, y5))], [(1, 262)], w26)) 1 rfl ?_
          refine e_Ok.getr (z := 264) rfl (el_o rfl) rfl rfl (by rw [← hw26]; exact (e_up_ne _ _ (Or.inl (by omega))).trans ((j13 262 5 (by unfold kLy; omega)).trans (Eq.trans (e_Has.eq hT rfl) (by omega)))) (by omega) ?_
          refine e_Ok.run (t' := (66, [(6, (1, 17 * a + y5 + 97)), (0, (1, 262)), (1, (1, 17 * a + 86)), (2, (0, n)), (3, (0, r)), (4, (0, y4)), (5, (0, y5))], [(1, 17 * a + y5 + 97), (0, y5), (1, 264)], w26)) 2 rfl ?_
          refine e_Ok.getf (z := w (17 * a + y5 + 97) 7) rfl (lJ (a := a) (j := y5) (by omega) (by omega) (by omega)) rfl rfl (by rw [← hw26]; exact (e_up_ne _ _ (Or.inl (by omega))).trans ((j13 (17 * a + y5 + 97) 7 (by unfold kLy; omega)).trans rfl)) (by omega) ?_
          refine e_Ok.run (t' := (71, [(6, (1, 17 * a + y5 + 97)), (0, (1, 262)), (1, (1, 17 * a + 86)), (2, (0, n)), (3, (0, r)), (4, (0, y4)), (5, (0, y5))], [(1, 17 * a + y5 + 97), (0, w (17 * a + y5 + 97) 7), (0, y5), (1, 264)], w26)) 1 rfl ?_
          refine e_Ok.getf (z := w (17 * a + y5 + 97) 1) rfl (lJ (a := a) (j := y5) (by omega) (by omega) (by omega)) rfl rfl (by rw [← hw26]; exact (e_up_ne _ _ (Or.inl (by omega))).trans ((j13 (17 * a + y5 + 97) 1 (by unfold kLy; omega)).trans rfl)) (by omega) ?_
          refine e_Ok.sub' (z := w (17 * a + y5 + 97) 7 - w (17 * a + y5 + 97) 1) rfl (by omega) (by omega) ?_
          refine e_Ok.run (t' := (76, [(6, (1, 17 * a + y5 + 97)), (0, (1, 262)), (1, (1, 17 * a + 86)), (2, (0, n)), (3, (0, r)), (4, (0, y4)), (5, (0, y5))], [(0, n), (0, w (17 * a + y5 + 97) 7 - w (17 * a + y5 + 97) 1), (0, y5), (1, 264)], w26)) 1 rfl ?_
          refine e_Ok.divn (fun z29 hz29 => ?_) rfl (by omega) (by omega)
          replace hz29 : z29 = (w (17 * a + y5 + 97) 7 - w (17 * a + y5 + 97) 1) / n := hz29
          have z29r : 0 ≤ z29 ∧ z29 ≤ w (17 * a + y5 + 97) 7 - w (17 * a + y5 + 97) 1 := by have g1 : 0 ≤ (w (17 * a + y5 + 97) 7 - w (17 * a + y5 + 97) 1) / n := Int.ediv_nonneg (by omega) (by omega); have g2 : (w (17 * a + y5 + 97) 7 - w (17 * a + y5 + 97) 1) / n ≤ w (17 * a + y5 + 97) 7 - w (17 * a + y5 + 97) 1 := Int.ediv_le_self n (by omega); omega
          refine e_Ok.ast rfl (el_o rfl) rfl rfl (by omega) ?_
          generalize hw30 : e_up w26 264 y5 z29 = w30
          have f31 : e_fr kLy w w30 := e_fr.up f27 hw30 (by unfold kLy; omega)
          have hT32 : e_Has kTy w30 := e_Has.ups hT28 hw30 rfl
          refine e_Ok.run (t' := (79, [(6, (1, 17 * a + y5 + 97)), (0, (1, 262)), (1, (1, 17 * a + 86)), (2, (0, n)), (3, (0, r)), (4, (0, y4)), (5, (0, y5))], [(1, 262)], w30)) 1 rfl ?_
          refine e_Ok.getr (z := 265) rfl (el_o rfl) rfl rfl (by rw [← hw30]; exact (e_up_ne _ _ (Or.inl (by omega))).trans (by rw [← hw26]; exact (e_up_ne _ _ (Or.inl (by omega))).trans ((j13 262 6 (by unfold kLy; omega)).trans (Eq.trans (e_Has.eq hT rfl) (by omega))))) (by omega) ?_
          refine e_Ok.run (t' := (85, [(6, (1, 17 * a + y5 + 97)), (0, (1, 262)), (1, (1, 17 * a + 86)), (2, (0, n)), (3, (0, r)), (4, (0, y4)), (5, (0, y5))], [(1, 262), (0, y5), (1, 265)], w30)) 2 rfl ?_
          refine e_Ok.getr (z := 264) rfl (el_o rfl) rfl rfl (by rw [← hw30]; exact (e_up_ne _ _ (Or.inl (by omega))).trans (by rw [← hw26]; exact (e_up_ne _ _ (Or.inl (by omega))).trans ((j13 262 5 (by unfold kLy; omega)).trans (Eq.trans (e_Has.eq hT rfl) (by omega))))) (by omega) ?_
          refine e_Ok.run (t' := (90, [(6, (1, 17 * a + y5 + 97)), (0, (1, 262)), (1, (1, 17 * a + 86)), (2, (0, n)), (3, (0, r)), (4, (0, y4)), (5, (0, y5))], [(0, y5), (1, 264), (0, y5), (1, 265)], w30)) 1 rfl ?_
          refine e_Ok.ald (z := z29) rfl (el_o rfl) rfl (by omega) (by rw [← hw30]; exact e_up_eq _ _ _ _) (by omega) ?_
          refine e_Ok.run (t' := (93, [(6, (1, 17 * a + y5 + 97)), (0, (1, 262)), (1, (1, 17 * a + 86)), (2, (0, n)), (3, (0, r)), (4, (0, y4)), (5, (0, y5))], [(1, 17 * a + y5 + 97), (0, z29), (0, y5), (1, 265)], w30)) 1 rfl ?_
          refine e_Ok.getf (z := w (17 * a + y5 + 97) 2) rfl (lJ (a := a) (j := y5) (by omega) (by omega) (by omega)) rfl rfl (by rw [← hw30]; exact (e_up_ne _ _ (Or.inl (by omega))).trans (by rw [← hw26]; exact (e_up_ne _ _ (Or.inl (by omega))).trans ((j13 (17 * a + y5 + 97) 2 (by unfold kLy; omega)).trans rfl))) (by omega) ?_
          refine e_Ok.run (t' := (98, [(6, (1, 17 * a + y5 + 97)), (0, (1, 262)), (1, (1, 17 * a + 86)), (2, (0, n)), (3, (0, r)), (4, (0, y4)), (5, (0, y5))], [(1, 17 * a + y5 + 97), (0, w (17 * a + y5 + 97) 2), (0, z29), (0, y5), (1, 265)], w30)) 1 rfl ?_
          refine e_Ok.getf (z := w (17 * a + y5 + 97) 7) rfl (lJ (a := a) (j := y5) (by omega) (by omega) (by omega)) rfl rfl (by rw [← hw30]; exact (e_up_ne _ _ (Or.inl (by omega))).trans (by rw [← hw26]; exact (e_up_ne _ _ (Or.inl (by omega))).trans ((j13 (17 * a + y5 + 97) 7 (by unfold kLy; omega)).trans rfl))) (by omega) ?_
          refine e_Ok.sub' (z := w (17 * a + y5 + 97) 2 - w (17 * a + y5 + 97) 7) rfl (by omega) (by omega) ?_
          refine e_Ok.run (t' := (103, [(6, (1, 17 * a + y5 + 97)), (0, (1, 262)), (1, (1, 17 * a + 86)), (2, (0, n)), (3, (0, r)), (4, (0, y4)), (5, (0, y5))], [(0, n), (0, w (17 * a + y5 + 97) 2 - w (17 * a + y5 + 97) 7), (0, z29), (0, y5), (1, 265)], w30)) 1 rfl ?_
          refine e_Ok.divn (fun z33 hz33 => ?_) rfl (by omega) (by omega)
          replace hz33 : z33 = (w (17 * a + y5 + 97) 2 - w (17 * a + y5 + 97) 7) / n := hz33
          have z33r : 0 ≤ z33 ∧ z33 ≤ w (17 * a + y5 + 97) 2 - w (17 * a + y5 + 97) 7 := by have g1 : 0 ≤ (w (17 * a + y5 + 97) 2 - w (17 * a + y5 + 97) 7) / n := Int.ediv_nonneg (by omega) (by omega); have g2 : (w (17 * a + y5 + 97) 2 - w (17 * a + y5 + 97) 7) / n ≤ w (17 * a + y5 + 97) 2 - w (17 * a + y5 + 97) 7 := Int.ediv_le_self n (by omega); omega
          refine e_Ok.add (z := z29 + z33) rfl (by omega) (by omega) ?_
          refine e_Ok.run (t' := (106, [(6, (1, 17 * a + y5 + 97)), (0, (1, 262)), (1, (1, 17 * a + 86)), (2, (0, n)), (3, (0, r)), (4, (0, y4)), (5, (0, y5))], [(0, 1), (0, z29 + z33), (0, y5), (1, 265)], w30)) 1 rfl ?_
          refine e_Ok.add (z := z29 + z33 + 1) rfl (by omega) (by omega) ?_
          refine e_Ok.ast rfl (el_o rfl) rfl rfl (by omega) ?_
          generalize hw34 : e_up w30 265 y5 (z29 + z33 + 1) = w34
          have f35 : e_fr kLy w w34 := e_fr.up f31 hw34 (by unfold kLy; omega)
          have hT36 : e_Has kTy w34 := e_Has.ups hT32 hw34 rfl
          refine e_Ok.run (t' := (109, [(6, (1, 17 * a + y5 + 97)), (0, (1, 262)), (1, (1, 17 * a + 86)), (2, (0, n)), (3, (0, r)), (4, (0, y4)), (5, (0, y5))], [(1, 262)], w34)) 1 rfl ?_
          refine e_Ok.getr (z := 266) rfl (el_o rfl) rfl rfl (by rw [← hw34]; exact (e_up_ne _ _ (Or.inl (by omega))).trans (by rw [← hw30]; exact (e_up_ne _ _ (Or.inl (by omega))).trans (by rw [← hw26]; exact (e_up_ne _ _ (Or.inl (by omega))).trans ((j13 262 7 (by unfold kLy; omega)).trans (Eq.trans (e_Has.eq hT rfl) (by omega)))))) (by omega) ?_
          refine e_Ok.run (t' := (116, [(6, (1, 17 * a + y5 + 97)), (0, (1, 262)), (1, (1, 17 * a + 86)), (2, (0, n)), (3, (0, r)), (4, (0, y4)), (5, (0, y5))], [(0, y4), (0, y5), (1, 266)], w34)) 2 rfl ?_
          refine e_Ok.ast rfl (el_o rfl) rfl rfl (by omega) ?_
          generalize hw37 : e_up w34 266 y5 y4 = w37
          have f38 : e_fr kLy w w37 := e_fr.up f35 hw37 (by unfold kLy; omega)
          have hT40 : e_Has kTy w37 := e_Has.ups hT36 hw37 rfl
          refine e_Ok.run (t' := (119, [(6, (1, 17 * a + y5 + 97)), (0, (1, 262)), (1, (1, 17 * a + 86)), (2, (0, n)), (3, (0, r)), (4, (0, y4)), (5, (0, y5))], [(1, 262), (1, 262)], w37)) 2 rfl ?_
          refine e_Ok.getf (z := v1 262 3) rfl (el_o rfl) rfl rfl (by rw [← hw37]; exact (e_up_ne _ _ (Or.inl (by omega))).trans (by rw [← hw34]; exact (e_up_ne _ _ (Or.inl (by omega))).trans (by rw [← hw30]; exact (e_up_ne _ _ (Or.inl (by omega))).trans (by rw [← hw26]; exact (e_up_ne _ _ (Or.inl (by omega))).trans rfl)))) (by omega) ?_
          refine e_Ok.run (t' := (123, [(6, (1, 17 * a + y5 + 97)), (0, (1, 262)), (1, (1, 17 * a + 86)), (2, (0, n)), (3, (0, r)), (4, (0, y4)), (5, (0, y5))], [(1, 262), (0, v1 262 3), (1, 262)], w37)) 1 rfl ?_
          refine e_Ok.getr (z := 264) rfl (el_o rfl) rfl rfl (by rw [← hw37]; exact (e_up_ne _ _ (Or.inl (by omega))).trans (by rw [← hw34]; exact (e_up_ne _ _ (Or.inl (by omega))).trans (by rw [← hw30]; exact (e_up_ne _ _ (Or.inl (by omega))).trans (by rw [← hw26]; exact (e_up_ne _ _ (Or.inl (by omega))).trans ((j13 262 5 (by unfold kLy; omega)).trans (Eq.trans (e_Has.eq hT rfl) (by omega))))))) (by omega) ?_
          refine e_Ok.run (t' := (128, [(6, (1, 17 * a + y5 + 97)), (0, (1, 262)), (1, (1, 17 * a + 86)), (2, (0, n)), (3, (0, r)), (4, (0, y4)), (5, (0, y5))], [(0, y5), (1, 264), (0, v1 262 3), (1, 262)], w37)) 1 rfl ?_
          refine e_Ok.ald (z := z29) rfl (el_o rfl) rfl (by omega) (by rw [← hw37]; exact (e_up_ne _ _ (Or.inl (by omega))).trans (by rw [← hw34]; exact (e_up_ne _ _ (Or.inl (by omega))).trans (by rw [← hw30]; exact e_up_eq _ _ _ _))) (by omega) ?_
          refine e_Ok.run (t' := (131, [(6, (1, 17 * a + y5 + 97)), (0, (1, 262)), (1, (1, 17 * a + 86)), (2, (0, n)), (3, (0, r)), (4, (0, y4)), (5, (0, y5))], [(0, y4), (0, z29), (0, v1 262 3), (1, 262)], w37)) 1 rfl ?_
          have hm41 := mulb (x := z29) (y := y4) (A := 200000) (B := 1000) (by omega) (by omega)
          refine e_Ok.mul (z := z29 * y4) rfl (by omega) (by omega) ?_
          refine e_Ok.add (z := v1 262 3 + z29 * y4) rfl (by omega) (by omega) ?_
          refine e_Ok.putf rfl (el_o rfl) rfl rfl ?_
          generalize hw42 : e_up w37 262 3 (v1 262 3 + z29 * y4) = w42
          have f43 : e_fr kLy w w42 := e_fr.up f38 hw42 (by unfold kLy; omega)
          have hT44 : e_Has kTy w42 := e_Has.ups hT40 hw42 rfl
          refine e_Ok.run (t' := (139, [(6, (1, 17 * a + y5 + 97)), (0, (1, 262)), (1, (1, 17 * a + 86)), (2, (0, n)), (3, (0, r)), (4, (0, y4)), (5, (0, y5))], [(1, 262), (0, y4)], w42)) 2 rfl ?_
          refine e_Ok.getr (z := 265) rfl (el_o rfl) rfl rfl (by rw [← hw42]; exact (e_up_ne _ _ (Or.inr (by omega))).trans (by rw [← hw37]; exact (e_up_ne _ _ (Or.inl (by omega))).trans (by rw [← hw34]; exact (e_up_ne _ _ (Or.inl (by omega))).trans (by rw [← hw30]; exact (e_up_ne _ _ (Or.inl (by omega))).trans (by rw [← hw26]; exact (e_up_ne _ _ (Or.inl (by omega))).trans ((j13 262 6 (by unfold kLy; omega)).trans (Eq.trans (e_Has.eq hT rfl) (by omega)))))))) (by omega) ?_
          refine e_Ok.run (t' := (144, [(6, (1, 17 * a + y5 + 97)), (0, (1, 262)), (1, (1, 17 * a + 86)), (2, (0, n)), (3, (0, r)), (4, (0, y4)), (5, (0, y5))], [(0, y5), (1, 265), (0, y4)], w42)) 1 rfl ?_
          refine e_Ok.ald (z := z29 + z33 + 1) rfl (el_o rfl) rfl (by omega) (by rw [← hw42]; exact (e_up_ne _ _ (Or.inl (by omega))).trans (by rw [← hw37]; exact (e_up_ne _ _ (Or.inl (by omega))).trans (by rw [← hw34]; exact e_up_eq _ _ _ _))) (by omega) ?_
          have hm45 := mulb (x := y4) (y := z29 + z33 + 1) (A := 1000) (B := 200001) (by omega) (by omega)
          refine e_Ok.mul (z := y4 * (z29 + z33 + 1)) rfl (by omega) (by omega) ?_
          refine e_Ok.run (t' := (153, [(4, (0, y4 * (z29 + z33 + 1))), (6, (1, 17 * a + y5 + 97)), (0, (1, 262)), (1, (1, 17 * a + 86)), (2, (0, n)), (3, (0, r)), (5, (0, y5))], [(0, 1000), (0, y4 * (z29 + z33 + 1))], w42)) 3 rfl ?_
          refine e_Ok.if2 rfl (fun h46 => ?_) (fun h46 => ?_)
          · replace h46 : (y4 * (z29 + z33 + 1) : Int) ≤ 1000 := h46
            have eC : ∀ c k, ¬ ((263 ≤ c ∧ c ≤ 266) ∧ k = y5) → ¬ (c = 262 ∧ k = 3) → w42 c k = v1 c k := fun c k g1 g2 => by rw [← hw42, e_up_ne _ _ (by omega), ← hw37, e_up_ne _ _ (by omega), ← hw34, e_up_ne _ _ (by omega), ← hw30, e_up_ne _ _ (by omega), ← hw26, e_up_ne _ _ (by omega)]
            have e263 : w42 263 y5 = w (17 * a + y5 + 97) 7 := (by rw [← hw42]; exact (e_up_ne _ _ (Or.inl (by omega))).trans (by rw [← hw37]; exact (e_up_ne _ _ (Or.inl (by omega))).trans (by rw [← hw34]; exact (e_up_ne _ _ (Or.inl (by omega))).trans (by rw [← hw30]; exact (e_up_ne _ _ (Or.inl (by omega))).trans (by rw [← hw26]; exact e_up_eq _ _ _ _)))))
            have e264 : w42 264 y5 = z29 := (by rw [← hw42]; exact (e_up_ne _ _ (Or.inl (by omega))).trans (by rw [← hw37]; exact (e_up_ne _ _ (Or.inl (by omega))).trans (by rw [← hw34]; exact (e_up_ne _ _ (Or.inl (by omega))).trans (by rw [← hw30]; exact e_up_eq _ _ _ _))))
            have e265 : w42 265 y5 = z29 + z33 + 1 := (by rw [← hw42]; exact (e_up_ne _ _ (Or.inl (by omega))).trans (by rw [← hw37]; exact (e_up_ne _ _ (Or.inl (by omega))).trans (by rw [← hw34]; exact e_up_eq _ _ _ _)))
            have e266 : w42 266 y5 = y4 := (by rw [← hw42]; exact (e_up_ne _ _ (Or.inl (by omega))).trans (by rw [← hw37]; exact e_up_eq _ _ _ _))
            have e3 : w42 262 3 = v1 262 3 + z29 * y4 := (by rw [← hw42]; exact e_up_eq _ _ _ _)
            have e5f : kpr (w42 265) y5.toNat = kpr (v1 265) y5.toNat := kpr_cg (fun k g1 g2 => eC _ _ (by omega) (by omega))
            have e4f : ksm (w42 265) (w42 264) y5.toNat = ksm (v1 265) (v1 264) y5.toNat := ksm_cg (fun k g1 g2 => ⟨eC _ _ (by omega) (by omega), eC _ _ (by omega) (by omega)⟩)
            have eJc : ∀ k, (k = 1 ∨ k = 2) → w42 (17 * a + y5 + 97) k = w (17 * a + y5 + 97) k := fun k g => by rw [eC _ _ (by omega) (by omega)]; exact j13 _ _ (by unfold kLy; omega)
            have hJ : lyJ w42 a n y5 := ⟨by rw [e263, eJc 1 (by omega), eJc 2 (by omega)]; omega, by rw [eJc 1 (by omega), eJc 2 (by omega)]; omega, by rw [e264, e263, eJc 1 (by omega)]; omega, by rw [e265, e264, e263, eJc 2 (by omega)]; omega, by rw [e266, e5f]; exact j16⟩
            have hpos := Int.mul_pos (show (0 : Int) < y4 by omega) (show (0 : Int) < z29 + z33 + 1 by omega)
            have hN : (y5 + 1).toNat = y5.toNat + 1 := by omega
            have hN2 : ((y5.toNat : Nat) : Int) = y5 := by omega
            have hK3 : kpr (w42 265) (y5 + 1).toNat = y4 * (z29 + z33 + 1) := by rw [hN]; show kpr (w42 265) y5.toNat * w42 265 (y5.toNat : Int) = _; rw [hN2, e5f, e265, ← j16]
            have hK4 : w42 262 3 = ksm (w42 265) (w42 264) (y5 + 1).toNat := by rw [hN]; show _ = ksm (w42 265) (w42 264) y5.toNat + kpr (w42 265) y5.toNat * w42 264 (y5.toNat : Int); rw [hN2, e3, e4f, e5f, e264, ← j16, ← j17, Int.mul_comm y4]
            refine e_Ok.inc (z := y5 + 1) rfl rfl (by omega) (by omega) ?_
            show e_Ok 20 elay kcode eI d 98 (161, [(5, (0, y5 + 1)), (4, (0, y4 * (z29 + z33 + 1))), (6, (1, 17 * a + y5 + 97)), (0, (1, 262)), (1, (1, 17 * a + 86)), (2, (0, n)), (3, (0, r))], [], w42) _
            refine e_Ok.run (t' := (28, [(5, (0, y5 + 1)), (4, (0, y4 * (z29 + z33 + 1))), (6, (1, 17 * a + y5 + 97)), (0, (1, 262)), (1, (1, 17 * a + 86)), (2, (0, n)), (3, (0, r))], [], w42)) 1 rfl ?_
            refine e_Ok.sub kAlk (e_sub_of rfl ?_) (ih12 (y4 * (z29 + z33 + 1)) (y5 + 1) w42 ⟨f43, hT44, (fun i g1 g2 => by by_cases e : i = y5; (rw [e]; exact hJ); (exact (j15 i g1 (by omega)).eq (fun c k g => eC c k (by omega) (by omega)) g1)), hK3.symm, hK4, (by rw [e3]; omega), (by rw [eC _ _ (by omega) (by omega)]; exact j19), (by rw [eC _ _ (by omega) (by omega)]; exact j20), by omega, by omega, (fun i g1 g2 => by by_cases e : i = y5; (rw [e, e263]); (rw [eC _ _ (by omega) (by omega)]; exact j23 i g1 (by omega)))⟩ (by omega))
            exact ⟨rfl, rfl, rfl, rfl, rfl, rfl, trivial⟩
          · replace h46 : (y4 * (z29 + z33 + 1) : Int) > 1000 := by have q : ¬ ((y4 * (z29 + z33 + 1) : Int) ≤ 1000) := h46; omega
            refine e_Ok.run (t' := (157, [(4, (0, y4 * (z29 + z33 + 1))), (6, (1, 17 * a + y5 + 97)), (0, (1, 262)), (1, (1, 17 * a + 86)), (2, (0, n)), (3, (0, r)), (5, (0, y5))], [(0, 0)], w42)) 1 rfl ?_
            refine e_Ok.rets rfl rfl ?_
            exact ⟨_, rfl, f43, hT44, by omega, fun g => absurd g (by decide)⟩
    refine e_Ok.sub kAlk (e_sub_of rfl ?_) (hL11 (6 + 1 : Int).toNat 1 0 w8 ⟨f9, hT10, (fun i g1 g2 => by omega), rfl, (by rw [← hw8]; exact e_up_eq _ _ _ _), (by have z : w8 262 3 = 0 := (by rw [← hw8]; exact e_up_eq _ _ _ _); omega), (by rw [← hw8]; exact (e_up_ne _ _ (Or.inr (by omega))).trans (by rw [← hw5]; exact (e_up_ne _ _ (Or.inr (by omega))).trans (by rw [← hw2]; exact e_up_eq _ _ _ _))), (by rw [← hw8]; exact (e_up_ne _ _ (Or.inr (by omega))).trans (by rw [← hw5]; exact e_up_eq _ _ _ _)), by omega, by omega, (fun i g1 g2 => by omega)⟩ (by omega))
    exact ⟨rfl, rfl, rfl, rfl, rfl, rfl, trivial⟩
  · replace h1 : (n : Int) < 1 := by have q : ¬ ((n : Int) ≥ 1) := h1; omega
    exfalso; omega
theorem c_101 {d : Nat} {w : eW} (hT : e_Has kTy w) {a n m : Int} (hL : lyI w a n m) {x j : Int} (gx : 0 ≤ x ∧ x ≤ 999) (gj : 0 ≤ j ∧ j < m) : e_Ok 20 elay kcode eI d 101 (0, [(0, (1, 262)), (1, (0, x)), (2, (0, j))], [], w) (fun r w' => ∃ z : Int, r = [(0, z)] ∧ w = w' ∧ z = kdg (w 265) x j.toNat ∧ (0 ≤ z ∧ z < w 265 j)) := by
  have hm := hL.1.2.1
  have hs := hL.str (j := j) gj
  have hb := (hL.2.2.2 j gj.1 gj.2).bd hL.1.1
  refine e_Ok.run (t' := (1, [(0, (1, 262)), (1, (0, x)), (2, (0, j))], [(1, 262)], w)) 1 rfl ?_
  refine e_Ok.getr (z := 266) rfl (el_o rfl) rfl rfl (Eq.trans (e_Has.eq hT rfl) (by omega)) (by omega) ?_
  refine e_Ok.run (t' := (5, [(0, (1, 262)), (1, (0, x)), (2, (0, j))], [(0, j), (1, 266)], w)) 1 rfl ?_
  refine e_Ok.ald (z := w 266 j) rfl (el_o rfl) rfl (by omega) rfl (by omega) ?_
  refine e_Ok.run (t' := (7, [(0, (1, 262)), (1, (0, x)), (2, (0, j))], [(0, 1), (0, w 266 j)], w)) 1 rfl ?_
  refine e_Ok.if2 rfl (fun h1 => ?_) (fun h1 => ?_)
  · replace h1 : (w 266 j : Int) < 1 := h1
    exfalso; omega
  · replace h1 : (w 266 j : Int) ≥ 1 := by have q : ¬ ((w 266 j : Int) < 1) := h1; omega
    refine e_Ok.run (t' := (11, [(0, (1, 262)), (1, (0, x)), (2, (0, j))], [(1, 262)], w)) 1 rfl ?_
    refine e_Ok.getr (z := 265) rfl (el_o rfl) rfl rfl (Eq.trans (e_Has.eq hT rfl) (by omega)) (by omega) ?_
    refine e_Ok.run (t' := (15, [(0, (1, 262)), (1, (0, x)), (2, (0, j))], [(0, j), (1, 265)], w)) 1 rfl ?_
    refine e_Ok.ald (z := w 265 j) rfl (el_o rfl) rfl (by omega) rfl (by omega) ?_
    refine e_Ok.run (t' := (17, [(0, (1, 262)), (1, (0, x)), (2, (0, j))], [(0, 1), (0, w 265 j)], w)) 1 rfl ?_
    refine e_Ok.if2 rfl (fun h2 => ?_) (fun h2 => ?_)
    · replace h2 : (w 265 j : Int) ≥ 1 := h2
      refine e_Ok.run (t' := (24, [(0, (1, 262)), (1, (0, x)), (2, (0, j))], [(1, 262), (0, x)], w)) 2 rfl ?_
      refine e_Ok.getr (z := 266) rfl (el_o rfl) rfl rfl (Eq.trans (e_Has.eq hT rfl) (by omega)) (by omega) ?_
      refine e_Ok.run (t' := (28, [(0, (1, 262)), (1, (0, x)), (2, (0, j))], [(0, j), (1, 266), (0, x)], w)) 1 rfl ?_
      refine e_Ok.ald (z := w 266 j) rfl (el_o rfl) rfl (by omega) rfl (by omega) ?_
      refine e_Ok.divn (fun z3 hz3 => ?_) rfl (by omega) (by omega)
      replace hz3 : z3 = x / w 266 j := hz3
      have z3r : 0 ≤ z3 ∧ z3 ≤ x := by have g1 : 0 ≤ x / w 266 j := Int.ediv_nonneg (by omega) (by omega); have g2 : x / w 266 j ≤ x := Int.ediv_le_self _ (by omega); omega
      refine e_Ok.run (t' := (31, [(0, (1, 262)), (1, (0, x)), (2, (0, j))], [(1, 262), (0, z3)], w)) 1 rfl ?_
      refine e_Ok.getr (z := 265) rfl (el_o rfl) rfl rfl (Eq.trans (e_Has.eq hT rfl) (by omega)) (by omega) ?_
      refine e_Ok.run (t' := (35, [(0, (1, 262)), (1, (0, x)), (2, (0, j))], [(0, j), (1, 265), (0, z3)], w)) 1 rfl ?_
      refine e_Ok.ald (z := w 265 j) rfl (el_o rfl) rfl (by omega) rfl (by omega) ?_
      refine e_Ok.remn (fun z4 hz4 => ?_) rfl (by omega) (by omega)
      replace hz4 : z4 = z3 % (w 265 j) := hz4
      refine e_Ok.rets rfl rfl ?_
      have hz : z4 = kdg (w 265) x j.toNat := by unfold kdg; rw [kdve (fun k g1 g2 => hL.one k g1 (by omega)), show ((j.toNat : Nat) : Int) = j by omega, ← hs.2, ← hz3]; exact hz4
      have hd := kdgi (f := w 265) (x := x) (j := j.toNat) (by rw [show ((j.toNat : Nat) : Int) = j by omega]; omega)
      rw [show ((j.toNat : Nat) : Int) = j by omega] at hd
      exact ⟨_, rfl, rfl, hz, by rw [hz]; exact hd⟩
    · replace h2 : (w 265 j : Int) < 1 := by have q : ¬ ((w 265 j : Int) ≥ 1) := h2; omega
      exfalso; omega
set_option maxHeartbeats 4000000 in
theorem c_102 {d : Nat} (hd : 21 ≤ d) {w : eW} (hT : e_Has kTy w) {a n m : Int} (hL : lyI w a n m) {x : Int} (ga : 0 ≤ a ∧ a ≤ 3) (gx : 0 ≤ x ∧ x ≤ 999) : e_Ok 20 elay kcode eI d 102 (0, [(0, (1, 262)), (1, (1, 17 * a + 86)), (2, (0, x))], [], w) (fun r w' => r = [] ∧ e_fr (kJv a m) w w' ∧ e_Has kTy w' ∧ ∀ j, 0 ≤ j → j < m → w' (17 * a + j + 97) 7 = tvV w n x j) := by
  obtain ⟨d, rfl⟩ : ∃ e, d = e + 1 := ⟨d - 1, by omega⟩
  have hm := hL.1.2.1
  have hm8 : w (17 * a + 86) 8 = m := hL.1.2.2.1
  have hjn := kn_joints hT (a := a) (by omega)
  have hn1 := hL.1.1
  have hw1 : w 262 1 = n := hL.1.2.2.2.1
  refine e_Ok.run (t' := (2, [(3, (0, 0)), (0, (1, 262)), (1, (1, 17 * a + 86)), (2, (0, x))], [], w)) 2 rfl ?_
  have hL1 : ∀ (nn : Nat) (y3 : Int) (v1 : eW), e_fr (kJv a m) w v1 ∧ e_Has kTy v1 ∧ (∀ i, 0 ≤ i → i < y3 → v1 (17 * a + i + 97) 7 = tvV w n x i) ∧ (y3 ≤ w (17 * a + 86) 8) ∧ (0 ≤ y3 ∧ y3 ≤ 6) → 6 - y3 < nn → e_Ok 20 elay kcode eI (d + 1) 102 (2, [(0, (1, 262)), (1, (1, 17 * a + 86)), (2, (0, x)), (3, (0, y3))], [], v1) (fun r w' => r = [] ∧ e_fr (kJv a m) w w' ∧ e_Has kTy w' ∧ ∀ j, 0 ≤ j → j < m → w' (17 * a + j + 97) 7 = tvV w n x j) := by
    intro nn
    induction nn with
    | zero => intro y3 v1 hj hm; obtain ⟨j3, j4, j5, j6, j7⟩ := hj; exfalso; omega
    | succ nn ih2 =>
      intro y3 v1 hj hm
      obtain ⟨j3, j4, j5, j6, j7⟩ := hj
      refine e_Ok.run (t' := (4, [(0, (1, 262)), (1, (1, 17 * a + 86)), (2, (0, x)), (3, (0, y3))], [(1, 17 * a + 86), (0, y3)], v1)) 2 rfl ?_
      have h8 := (e_Has.get hT (c := 17 * a + 86) (k := 8) (lo := 0) (hi := 6) (kA_8 (a := a) (by omega) (by omega)) (by decide))
      refine e_Ok.getf (z := w (17 * a + 86) 8) rfl (lA0 (a := a) (by omega) (by omega)) rfl rfl ((j3 (17 * a + 86) 8 (by unfold kJv; omega)).trans rfl) (by omega) ?_
      refine e_Ok.if2 rfl (fun h9 => ?_) (fun h9 => ?_)
      · replace h9 : (y3 : Int) ≥ w (17 * a + 86) 8 := h9
        refine e_Ok.rets rfl rfl ?_
        exact ⟨rfl, j3, j4, fun j g1 g2 => j5 j g1 (by omega)⟩
      · replace h9 : (y3 : Int) < w (17 * a + 86) 8 := by have q : ¬ ((y3 : Int) ≥ w (17 * a + 86) 8) := h9; omega
        have hb0 := (hL.2.2.2 y3 (by omega) (by omega)).bd hL.1.1
        refine e_Ok.run (t' := (11, [(0, (1, 262)), (1, (1, 17 * a + 86)), (2, (0, x)), (3, (0, y3))], [(1, 17 * a + 86)], v1)) 1 rfl ?_
        refine e_Ok.getr (z := 17 * a + 87) rfl (lA0 (a := a) (by omega) (by omega)) rfl rfl ((j3 (17 * a + 86) 0 (by unfold kJv; omega)).trans (Eq.trans (e_Has.eq hT (kA_0 (a := a) (by omega) (by omega))) (by omega))) (by omega) ?_
        refine e_Ok.run (t' := (15, [(0, (1, 262)), (1, (1, 17 * a + 86)), (2, (0, x)), (3, (0, y3))], [(0, y3), (1, 17 * a + 87)], v1)) 1 rfl ?_
        refine e_Ok.aald (z := 17 * a + y3 + 97) rfl (lA1 (a := a) (by omega) (by omega)) rfl (by omega) ((j3 (17 * a + 87) y3 (by unfold kJv; omega)).trans (Eq.trans (e_Has.eq hT (kA87 (a := a) (by omega) (by omega) (by omega))) (by omega))) (by omega) ?_
        refine e_Ok.run (t' := (17, [(0, (1, 262)), (1, (1, 17 * a + 86)), (2, (0, x)), (3, (0, y3))], [(1, 262), (1, 17 * a + y3 + 97)], v1)) 1 rfl ?_
        refine e_Ok.getr (z := 263) rfl (el_o rfl) rfl rfl ((j3 262 4 (by unfold kJv; omega)).trans (Eq.trans (e_Has.eq hT rfl) (by omega))) (by omega) ?_
        refine e_Ok.run (t' := (21, [(0, (1, 262)), (1, (1, 17 * a + 86)), (2, (0, x)), (3, (0, y3))], [(0, y3), (1, 263), (1, 17 * a + y3 + 97)], v1)) 1 rfl ?_
        refine e_Ok.ald (z := w 263 y3) rfl (el_o rfl) rfl (by omega) ((j3 263 y3 (by unfold kJv; omega)).trans rfl) (by omega) ?_
        refine e_Ok.run (t' := (25, [(0, (1, 262)), (1, (1, 17 * a + 86)), (2, (0, x)), (3, (0, y3))], [(0, y3), (0, x), (1, 262), (0, w 263 y3), (1, 17 * a + y3 + 97)], v1)) 3 rfl ?_
        have hL1 : lyI v1 a n m := hL.eq (fun c k g => j3 c k (by unfold kJv; omega))
        have e5 : v1 265 = w 265 := funext (fun k => j3 265 k (by unfold kJv; omega))
        have hb := (hL.2.2.2 y3 (by omega) (by omega)).bd hL.1.1
        have e5b : v1 265 y3 = w 265 y3 := congrFun e5 y3
        refine e_Ok.callV rfl (by omega) rfl rfl rfl rfl (c_101 j4 hL1 (by omega) (by omega)) (fun r10 w11 h12 => ?_)
        obtain ⟨z13, rfl, rfl, q14x, q14r⟩ := h12
        show e_Ok 20 elay kcode eI (d + 1) 102 (28, [(0, (1, 262)), (1, (1, 17 * a + 86)), (2, (0, x)), (3, (0, y3))], [(0, z13), (0, w 263 y3), (1, 17 * a + y3 + 97)], v1) _
        refine e_Ok.run (t' := (29, [(0, (1, 262)), (1, (1, 17 * a + 86)), (2, (0, x)), (3, (0, y3))], [(1, 262), (0, z13), (0, w 263 y3), (1, 17 * a + y3 + 97)], v1)) 1 rfl ?_
        refine e_Ok.getr (z := 264) rfl (el_o rfl) rfl rfl ((j3 262 5 (by unfold kJv; omega)).trans (Eq.trans (e_Has.eq hT rfl) (by omega))) (by omega) ?_
        refine e_Ok.run (t' := (33, [(0, (1, 262)), (1, (1, 17 * a + 86)), (2, (0, x)), (3, (0, y3))], [(0, y3), (1, 264), (0, z13), (0, w 263 y3), (1, 17 * a + y3 + 97)], v1)) 1 rfl ?_
        refine e_Ok.ald (z := w 264 y3) rfl (el_o rfl) rfl (by omega) ((j3 264 y3 (by unfold kJv; omega)).trans rfl) (by omega) ?_
        refine e_Ok.sub' (z := z13 - w 264 y3) rfl (by omega) (by omega) ?_
        refine e_Ok.run (t' := (36, [(0, (1, 262)), (1, (1, 17 * a + 86)), (2, (0, x)), (3, (0, y3))], [(1, 262), (0, z13 - w 264 y3), (0, w 263 y3), (1, 17 * a + y3 + 97)], v1)) 1 rfl ?_
        refine e_Ok.getf (z := w 262 1) rfl (el_o rfl) rfl rfl ((j3 262 1 (by unfold kJv; omega)).trans rfl) (by omega) ?_
        have hm1 : w 262 1 = n := hL.1.2.2.2.1
        have hmu : -3200000 ≤ (z13 - w 264 y3) * w 262 1 ∧ (z13 - w 264 y3) * w 262 1 ≤ 6400016 := by rw [hm1]; have g1 := mulb (x := z13) (y := n) (A := 200001) (B := 16) (by omega) (by omega); have g2 := mulb (x := w 264 y3) (y := n) (A := 200000) (B := 16) (by omega) (by omega); rw [Int.sub_mul]; omega
        refine e_Ok.mul (z := (z13 - w 264 y3) * (w 262 1)) rfl (by omega) (by omega) ?_
        refine e_Ok.add (z := w 263 y3 + (z13 - w 264 y3) * (w 262 1)) rfl (by omega) (by omega) ?_
        refine e_Ok.putf rfl (lJ (a := a) (j := y3) (by omega) (by omega) (by omega)) rfl rfl ?_
        generalize hw15 : e_up v1 (17 * a + y3 + 97) 7 (w 263 y3 + (z13 - w 264 y3) * (w 262 1)) = w15
        have f16 : e_fr (kJv a m) w w15 := e_fr.up j3 hw15 (by unfold kJv; omega)
        have hT17 : e_Has kTy w15 := e_Has.upr j4 hw15 (kJ_7 (a := a) (j := y3) (by omega) (by omega) (by omega)) (by omega)
        refine e_Ok.inc (z := y3 + 1) rfl rfl (by omega) (by omega) ?_
        show e_Ok 20 elay kcode eI (d + 1) 102 (47, [(3, (0, y3 + 1)), (0, (1, 262)), (1, (1, 17 * a + 86)), (2, (0, x))], [], w15) _
        refine e_Ok.run (t' := (2, [(3, (0, y3 + 1)), (0, (1, 262)), (1, (1, 17 * a + 86)), (2, (0, x))], [], w15)) 1 rfl ?_
        refine e_Ok.sub kAlk (e_sub_of rfl ?_) (ih2 (y3 + 1) w15 ⟨f16, hT17, (fun i g1 g2 => by by_cases e : i = y3; (rw [e, ← hw15, e_up_eq]; unfold tvV; rw [q14x, e5, hm1]); (rw [← hw15, e_up_ne _ _ (by omega)]; exact j5 i g1 (by omega))), by omega, by omega⟩ (by omega))
        exact ⟨rfl, rfl, rfl, rfl, trivial⟩
  refine e_Ok.sub kAlk (e_sub_of rfl ?_) (hL1 (6 + 1 : Int).toNat 0 w ⟨(e_fr.refl w), hT, (fun i g1 g2 => by omega), by omega, by omega⟩ (by omega))
  exact ⟨rfl, rfl, rfl, rfl, trivial⟩
theorem c_103 {d : Nat} (hd : 22 ≤ d) {w : eW} (hT : e_Has kTy w) {a n m : Int} (hL : lyI w a n m) {x s : Int} (gx : 0 ≤ x ∧ x < kpr (w 265) m.toNat) (gs : 0 ≤ s ∧ s < 2 * m) : e_Ok 20 elay kcode eI d 103 (0, [(0, (1, 262)), (1, (0, x)), (2, (0, s))], [], w) (fun r w' => ∃ z : Int, r = [(0, z)] ∧ w = w' ∧ (z = -1 ∨ ((0 ≤ z ∧ z < kpr (w 265) m.toNat) ∧ kln (w 265) x z s))) := by
  obtain ⟨d, rfl⟩ : ∃ e, d = e + 1 := ⟨d - 1, by omega⟩
  have hm := hL.1.2.1
  have hN := hL.2.2.1
  refine e_Ok.run (t' := (2, [(0, (1, 262)), (1, (0, x)), (2, (0, s))], [(0, 2), (0, s)], w)) 2 rfl ?_
  refine e_Ok.divn (fun z1 hz1 => ?_) rfl (by omega) (by omega)
  replace hz1 : z1 = s / 2 := hz1
  have z1r : 0 ≤ z1 ∧ z1 ≤ 5 := by omega
  refine e_Ok.run (t' := (7, [(3, (0, z1)), (0, (1, 262)), (1, (0, x)), (2, (0, s))], [(0, z1), (0, x), (1, 262)], w)) 4 rfl ?_
  have hj2 : z1 = s / 2 := by omega
  have hb := (hL.2.2.2 z1 (by omega) (by omega)).bd hL.1.1
  have hst := hL.str (j := z1) (by omega)
  refine e_Ok.callV rfl (by omega) rfl rfl rfl rfl (c_101 hT hL (by omega) (by omega)) (fun r2 w3 h4 => ?_)
  obtain ⟨z5, rfl, rfl, q6x, q6r⟩ := h4
  show e_Ok 20 elay kcode eI (d + 1) 103 (10, [(3, (0, z1)), (0, (1, 262)), (1, (0, x)), (2, (0, s))], [(0, z5)], w) _
  refine e_Ok.run (t' := (12, [(3, (0, z1)), (0, (1, 262)), (1, (0, x)), (2, (0, s))], [(0, 2), (0, s), (0, z5)], w)) 2 rfl ?_
  refine e_Ok.remn (fun z7 hz7 => ?_) rfl (by omega) (by omega)
  replace hz7 : z7 = s % 2 := hz7
  have z7r : 0 ≤ z7 ∧ z7 ≤ 1 := by omega
  refine e_Ok.if1 rfl (fun h8 => ?_) (fun h8 => ?_)
  · replace h8 : (z7 : Int) ≠ 0 := h8
    refine e_Ok.run (t' := (21, [(3, (0, z1)), (0, (1, 262)), (1, (0, x)), (2, (0, s))], [(0, (-1)), (0, z5)], w)) 1 rfl ?_
    refine e_Ok.add (z := z5 - 1) rfl (by omega) (by omega) ?_
    refine e_Ok.run (t' := (28, [(4, (0, z5 - 1)), (3, (0, z1)), (0, (1, 262)), (1, (0, x)), (2, (0, s))], [(1, 262), (0, 0), (0, z5 - 1)], w)) 4 rfl ?_
    refine e_Ok.getr (z := 265) rfl (el_o rfl) rfl rfl (Eq.trans (e_Has.eq hT rfl) (by omega)) (by omega) ?_
    refine e_Ok.run (t' := (32, [(4, (0, z5 - 1)), (3, (0, z1)), (0, (1, 262)), (1, (0, x)), (2, (0, s))], [(0, z1), (1, 265), (0, 0), (0, z5 - 1)], w)) 1 rfl ?_
    refine e_Ok.ald (z := w 265 z1) rfl (el_o rfl) rfl (by omega) rfl (by omega) ?_
    refine e_Ok.run (t' := (34, [(4, (0, z5 - 1)), (3, (0, z1)), (0, (1, 262)), (1, (0, x)), (2, (0, s))], [(0, 1), (0, w 265 z1), (0, 0), (0, z5 - 1)], w)) 1 rfl ?_
    refine e_Ok.sub' (z := w 265 z1 - 1) rfl (by omega) (by omega) ?_
    refine e_Ok.callS rfl (by omega) rfl rfl (c_242 (by omega) (by omega) (by omega)) (fun r9 w10 h11 => ?_)
    obtain ⟨z12, rfl, rfl, q13⟩ := h11
    obtain ⟨rfl, q13⟩ | ⟨rfl, q13⟩ := q13
    · show e_Ok 20 elay kcode eI (d + 1) 103 (38, [(4, (0, z5 - 1)), (3, (0, z1)), (0, (1, 262)), (1, (0, x)), (2, (0, s))], [(0, 1)], w) _
      refine e_Ok.if1 rfl (fun h14 => ?_) (fun h14 => ?_)
      · replace h14 : (1 : Int) ≠ 0 := h14
        refine e_Ok.run (t' := (45, [(4, (0, z5 - 1)), (3, (0, z1)), (0, (1, 262)), (1, (0, x)), (2, (0, s))], [(0, 2), (0, s)], w)) 2 rfl ?_
        refine e_Ok.remn (fun z15 hz15 => ?_) rfl (by omega) (by omega)
        replace hz15 : z15 = s % 2 := hz15
        have z15r : 0 ≤ z15 ∧ z15 ≤ 1 := by omega
        refine e_Ok.if1 rfl (fun h16 => ?_) (fun h16 => ?_)
        · replace h16 : (z15 : Int) ≠ 0 := h16
          refine e_Ok.run (t' := (62, [(4, (0, z5 - 1)), (3, (0, z1)), (0, (1, 262)), (1, (0, x)), (2, (0, s))], [(1, 262), (0, x)], w)) 2 rfl ?_
          refine e_Ok.getr (z := 266) rfl (el_o rfl) rfl rfl (Eq.trans (e_Has.eq hT rfl) (by omega)) (by omega) ?_
          refine e_Ok.run (t' := (66, [(4, (0, z5 - 1)), (3, (0, z1)), (0, (1, 262)), (1, (0, x)), (2, (0, s))], [(0, z1), (1, 266), (0, x)], w)) 1 rfl ?_
          refine e_Ok.ald (z := w 266 z1) rfl (el_o rfl) rfl (by omega) rfl (by omega) ?_
          refine e_Ok.sub' (z := x - w 266 z1) rfl (by omega) (by omega) ?_
          refine e_Ok.rets rfl rfl ?_
          exact ⟨_, rfl, rfl, Or.inr (nb_fin hL gx gs hj2 q6x (by omega))⟩
        · replace h16 : (z15 : Int) = 0 := by have q : ¬ ((z15 : Int) ≠ 0) := h16; omega
          refine e_Ok.run (t' := (51, [(4, (0, z5 - 1)), (3, (0, z1)), (0, (1, 262)), (1, (0, x)), (2, (0, s))], [(1, 262), (0, x)], w)) 2 rfl ?_
          refine e_Ok.getr (z := 266) rfl (el_o rfl) rfl rfl (Eq.trans (e_Has.eq hT rfl) (by omega)) (by omega) ?_
          refine e_Ok.run (t' := (55, [(4, (0, z5 - 1)), (3, (0, z1)), (0, (1, 262)), (1, (0, x)), (2, (0, s))], [(0, z1), (1, 266), (0, x)], w)) 1 rfl ?_
          refine e_Ok.ald (z := w 266 z1) rfl (el_o rfl) rfl (by omega) rfl (by omega) ?_
          refine e_Ok.add (z := x + w 266 z1) rfl (by omega) (by omega) ?_
          refine e_Ok.run (t' := (68, [(4, (0, z5 - 1)), (3, (0, z1)), (0, (1, 262)), (1, (0, x)), (2, (0, s))], [(0, x + w 266 z1)], w)) 1 rfl ?_
          refine e_Ok.rets rfl rfl ?_
          exact ⟨_, rfl, rfl, Or.inr (nb_fin hL gx gs hj2 q6x (by omega))⟩
      · replace h14 : (1 : Int) = 0 := by have q : ¬ ((1 : Int) ≠ 0) := h14; omega
        exfalso; omega
    · show e_Ok 20 elay kcode eI (d + 1) 103 (38, [(4, (0, z5 - 1)), (3, (0, z1)), (0, (1, 262)), (1, (0, x)), (2, (0, s))], [(0, 0)], w) _
      refine e_Ok.if1 rfl (fun h17 => ?_) (fun h17 => ?_)
      · replace h17 : (0 : Int) ≠ 0 := h17
        exfalso; omega
      · replace h17 : (0 : Int) = 0 := by have q : ¬ ((0 : Int) ≠ 0) := h17; omega
        refine e_Ok.run (t' := (42, [(4, (0, z5 - 1)), (3, (0, z1)), (0, (1, 262)), (1, (0, x)), (2, (0, s))], [(0, (-1))], w)) 1 rfl ?_
        refine e_Ok.rets rfl rfl ?_
        exact ⟨_, rfl, rfl, Or.inl rfl⟩
  · replace h8 : (z7 : Int) = 0 := by have q : ¬ ((z7 : Int) ≠ 0) := h8; omega
    refine e_Ok.run (t' := (21, [(3, (0, z1)), (0, (1, 262)), (1, (0, x)), (2, (0, s))], [(0, 1), (0, z5)], w)) 2 rfl ?_
    refine e_Ok.add (z := z5 + 1) rfl (by omega) (by omega) ?_
    refine e_Ok.run (t' := (28, [(4, (0, z5 + 1)), (3, (0, z1)), (0, (1, 262)), (1, (0, x)), (2, (0, s))], [(1, 262), (0, 0), (0, z5 + 1)], w)) 4 rfl ?_
    refine e_Ok.getr (z := 265) rfl (el_o rfl) rfl rfl (Eq.trans (e_Has.eq hT rfl) (by omega)) (by omega) ?_
    refine e_Ok.run (t' := (32, [(4, (0, z5 + 1)), (3, (0, z1)), (0, (1, 262)), (1, (0, x)), (2, (0, s))], [(0, z1), (1, 265), (0, 0), (0, z5 + 1)], w)) 1 rfl ?_
    refine e_Ok.ald (z := w 265 z1) rfl (el_o rfl) rfl (by omega) rfl (by omega) ?_
    refine e_Ok.run (t' := (34, [(4, (0, z5 + 1)), (3, (0, z1)), (0, (1, 262)), (1, (0, x)), (2, (0, s))], [(0, 1), (0, w 265 z1), (0, 0), (0, z5 + 1)], w)) 1 rfl ?_
    refine e_Ok.sub' (z := w 265 z1 - 1) rfl (by omega) (by omega) ?_
    refine e_Ok.callS rfl (by omega) rfl rfl (c_242 (by omega) (by omega) (by omega)) (fun r18 w19 h20 => ?_)
    obtain ⟨z21, rfl, rfl, q22⟩ := h20
    obtain ⟨rfl, q22⟩ | ⟨rfl, q22⟩ := q22
    · show e_Ok 20 elay kcode eI (d + 1) 103 (38, [(4, (0, z5 + 1)), (3, (0, z1)), (0, (1, 262)), (1, (0, x)), (2, (0, s))], [(0, 1)], w) _
      refine e_Ok.if1 rfl (fun h23 => ?_) (fun h23 => ?_)
      · replace h23 : (1 : Int) ≠ 0 := h23
        refine e_Ok.run (t' := (45, [(4, (0, z5 + 1)), (3, (0, z1)), (0, (1, 262)), (1, (0, x)), (2, (0, s))], [(0, 2), (0, s)], w)) 2 rfl ?_
        refine e_Ok.remn (fun z24 hz24 => ?_) rfl (by omega) (by omega)
        replace hz24 : z24 = s % 2 := hz24
        have z24r : 0 ≤ z24 ∧ z24 ≤ 1 := by omega
        refine e_Ok.if1 rfl (fun h25 => ?_) (fun h25 => ?_)
        · replace h25 : (z24 : Int) ≠ 0 := h25
          refine e_Ok.run (t' := (62, [(4, (0, z5 + 1)), (3, (0, z1)), (0, (1, 262)), (1, (0, x)), (2, (0, s))], [(1, 262), (0, x)], w)) 2 rfl ?_
          refine e_Ok.getr (z := 266) rfl (el_o rfl) rfl rfl (Eq.trans (e_Has.eq hT rfl) (by omega)) (by omega) ?_
          refine e_Ok.run (t' := (66, [(4, (0, z5 + 1)), (3, (0, z1)), (0, (1, 262)), (1, (0, x)), (2, (0, s))], [(0, z1), (1, 266), (0, x)], w)) 1 rfl ?_
          refine e_Ok.ald (z := w 266 z1) rfl (el_o rfl) rfl (by omega) rfl (by omega) ?_
          refine e_Ok.sub' (z := x - w 266 z1) rfl (by omega) (by omega) ?_
          refine e_Ok.rets rfl rfl ?_
          exact ⟨_, rfl, rfl, Or.inr (nb_fin hL gx gs hj2 q6x (by omega))⟩
        · replace h25 : (z24 : Int) = 0 := by have q : ¬ ((z24 : Int) ≠ 0) := h25; omega
          refine e_Ok.run (t' := (51, [(4, (0, z5 + 1)), (3, (0, z1)), (0, (1, 262)), (1, (0, x)), (2, (0, s))], [(1, 262), (0, x)], w)) 2 rfl ?_
          refine e_Ok.getr (z := 266) rfl (el_o rfl) rfl rfl (Eq.trans (e_Has.eq hT rfl) (by omega)) (by omega) ?_
          refine e_Ok.run (t' := (55, [(4, (0, z5 + 1)), (3, (0, z1)), (0, (1, 262)), (1, (0, x)), (2, (0, s))], [(0, z1), (1, 266), (0, x)], w)) 1 rfl ?_
          refine e_Ok.ald (z := w 266 z1) rfl (el_o rfl) rfl (by omega) rfl (by omega) ?_
          refine e_Ok.add (z := x + w 266 z1) rfl (by omega) (by omega) ?_
          refine e_Ok.run (t' := (68, [(4, (0, z5 + 1)), (3, (0, z1)), (0, (1, 262)), (1, (0, x)), (2, (0, s))], [(0, x + w 266 z1)], w)) 1 rfl ?_
          refine e_Ok.rets rfl rfl ?_
          exact ⟨_, rfl, rfl, Or.inr (nb_fin hL gx gs hj2 q6x (by omega))⟩
      · replace h23 : (1 : Int) = 0 := by have q : ¬ ((1 : Int) ≠ 0) := h23; omega
        exfalso; omega
    · show e_Ok 20 elay kcode eI (d + 1) 103 (38, [(4, (0, z5 + 1)), (3, (0, z1)), (0, (1, 262)), (1, (0, x)), (2, (0, s))], [(0, 0)], w) _
      refine e_Ok.if1 rfl (fun h26 => ?_) (fun h26 => ?_)
      · replace h26 : (0 : Int) ≠ 0 := h26
        exfalso; omega
      · replace h26 : (0 : Int) = 0 := by have q : ¬ ((0 : Int) ≠ 0) := h26; omega
        refine e_Ok.run (t' := (42, [(4, (0, z5 + 1)), (3, (0, z1)), (0, (1, 262)), (1, (0, x)), (2, (0, s))], [(0, (-1))], w)) 1 rfl ?_
        refine e_Ok.rets rfl rfl ?_
        exact ⟨_, rfl, rfl, Or.inl rfl⟩
set_option maxHeartbeats 4000000 in
theorem c_99 {d : Nat} (hd : 22 ≤ d) {w : eW} (hT : e_Has kTy w) {a n m : Int} (hL : lyI w a n m) (ga : 0 ≤ a ∧ a ≤ 3) : e_Ok 20 elay kcode eI d 99 (0, [(0, (1, 262)), (1, (1, 17 * a + 86)), (2, (1, 272))], [], w) (fun r w' => ∃ z : Int, r = [(0, z)] ∧ w = w' ∧ (z = -1 ∨ (0 ≤ z ∧ z < kpr (w 265) m.toNat))) := by
  obtain ⟨d, rfl⟩ : ∃ e, d = e + 1 := ⟨d - 1, by omega⟩
  have hm := hL.1.2.1
  have hm8 : w (17 * a + 86) 8 = m := hL.1.2.2.1
  have hjn := kn_joints hT (a := a) (by omega)
  have hn1 := hL.1.1
  have hw1 : w 262 1 = n := hL.1.2.2.2.1
  refine e_Ok.run (t' := (5, [(4, (0, 0)), (3, (0, 0)), (0, (1, 262)), (1, (1, 17 * a + 86)), (2, (1, 272))], [], w)) 4 rfl ?_
  have hL1 : ∀ (nn : Nat) (y3 : Int) (y4 : Int), (∀ i, 0 ≤ i → i < y4 → 0 ≤ qN w n i ∧ qN w n i < w 265 i) ∧ y3 = ksm (w 265) (qN w n) y4.toNat ∧ ((0 ≤ y3 ∧ y3 ≤ 999)) ∧ ((0 ≤ y4 ∧ y4 ≤ w (17 * a + 86) 8)) → 6 - y4 < nn → e_Ok 20 elay kcode eI (d + 1) 99 (5, [(0, (1, 262)), (1, (1, 17 * a + 86)), (2, (1, 272)), (3, (0, y3)), (4, (0, y4))], [], w) (fun r w' => ∃ z : Int, r = [(0, z)] ∧ w = w' ∧ (z = -1 ∨ (0 ≤ z ∧ z < kpr (w 265) m.toNat))) := by
    intro nn
    induction nn with
    | zero => intro y3 y4 hj hm; obtain ⟨j3, j4, j5, j6⟩ := hj; exfalso; omega
    | succ nn ih2 =>
      intro y3 y4 hj hm
      obtain ⟨j3, j4, j5, j6⟩ := hj
      refine e_Ok.run (t' := (8, [(0, (1, 262)), (1, (1, 17 * a + 86)), (2, (1, 272)), (3, (0, y3)), (4, (0, y4))], [(1, 17 * a + 86), (0, y4)], w)) 2 rfl ?_
      have h7 := (e_Has.get hT (c := 17 * a + 86) (k := 8) (lo := 0) (hi := 6) (kA_8 (a := a) (by omega) (by omega)) (by decide))
      refine e_Ok.getf (z := w (17 * a + 86) 8) rfl (lA0 (a := a) (by omega) (by omega)) rfl rfl rfl (by omega) ?_
      refine e_Ok.if2 rfl (fun h8 => ?_) (fun h8 => ?_)
      · replace h8 : (y4 : Int) ≥ w (17 * a + 86) 8 := h8
        refine e_Ok.run (t' := (100, [(0, (1, 262)), (1, (1, 17 * a + 86)), (2, (1, 272)), (3, (0, y3)), (4, (0, y4))], [(0, y3)], w)) 1 rfl ?_
        refine e_Ok.rets rfl rfl ?_
        have g := ksmi (f := w 265) (d := qN w n) (n := m.toNat) (fun k g1 g2 => j3 k g1 (by omega))
        have hy : y3 = ksm (w 265) (qN w n) m.toNat := by have g := j4; rw [show y4 = m by omega] at g; exact g
        exact ⟨_, rfl, rfl, Or.inr (by rw [hy]; exact g)⟩
      · replace h8 : (y4 : Int) < w (17 * a + 86) 8 := by have q : ¬ ((y4 : Int) ≥ w (17 * a + 86) 8) := h8; omega
        have hb := (hL.2.2.2 y4 (by omega) (by omega)).bd hL.1.1
        have hst := hL.str (j := y4) (by omega)
        have hlj := hL.2.2.2 y4 (by omega) (by omega)
        have hl1 := hlj.1; have hl2 := hlj.2.1
        refine e_Ok.run (t' := (15, [(0, (1, 262)), (1, (1, 17 * a + 86)), (2, (1, 272)), (3, (0, y3)), (4, (0, y4))], [(1, 17 * a + 86)], w)) 1 rfl ?_
        refine e_Ok.getr (z := 17 * a + 87) rfl (lA0 (a := a) (by omega) (by omega)) rfl rfl (Eq.trans (e_Has.eq hT (kA_0 (a := a) (by omega) (by omega))) (by omega)) (by omega) ?_
        refine e_Ok.run (t' := (20, [(0, (1, 262)), (1, (1, 17 * a + 86)), (2, (1, 272)), (3, (0, y3)), (4, (0, y4))], [(0, y4), (1, 17 * a + 87)], w)) 1 rfl ?_
        refine e_Ok.aald (z := 17 * a + y4 + 97) rfl (lA1 (a := a) (by omega) (by omega)) rfl (by omega) (Eq.trans (e_Has.eq hT (kA87 (a := a) (by omega) (by omega) (by omega))) (by omega)) (by omega) ?_
        refine e_Ok.run (t' := (24, [(0, (1, 262)), (1, (1, 17 * a + 86)), (2, (1, 272)), (3, (0, y3)), (4, (0, y4))], [(0, y4), (1, 272), (1, 17 * a + y4 + 97)], w)) 2 rfl ?_
        have h9 := (e_Has.get hT (c := 272) (k := y4) (lo := (-2147483648)) (hi := 2147483647) rfl (by decide))
        refine e_Ok.ald (z := w 272 y4) rfl (el_o rfl) rfl (by omega) rfl (by omega) ?_
        refine e_Ok.callV rfl (by omega) rfl (lJ (a := a) (j := y4) (by omega) (by omega) (by omega)) rfl rfl (c_89 (by omega) (a := a) (j := y4) hT (by omega) (by omega) (by omega)) (fun r10 w11 h12 => ?_)
        obtain ⟨z13, rfl, rfl, q14⟩ := h12
        replace q14 : (z13 = 1 ∧ w (17 * a + y4 + 97) 1 ≤ w 272 y4 ∧ w 272 y4 ≤ w (17 * a + y4 + 97) 2) ∨ (z13 = 0 ∧ ¬ (w (17 * a + y4 + 97) 1 ≤ w 272 y4 ∧ w 272 y4 ≤ w (17 * a + y4 + 97) 2)) := q14
        obtain ⟨rfl, q14⟩ | ⟨rfl, q14⟩ := q14
        · show e_Ok 20 elay kcode eI (d + 1) 99 (28, [(0, (1, 262)), (1, (1, 17 * a + 86)), (2, (1, 272)), (3, (0, y3)), (4, (0, y4))], [(0, 1)], w) _
          refine e_Ok.if1 rfl (fun h15 => ?_) (fun h15 => ?_)
          · replace h15 : (1 : Int) = 0 := h15
            exfalso; omega
          · replace h15 : (1 : Int) ≠ 0 := by have q : ¬ ((1 : Int) = 0) := h15; omega
            refine e_Ok.run (t' := (32, [(0, (1, 262)), (1, (1, 17 * a + 86)), (2, (1, 272)), (3, (0, y3)), (4, (0, y4))], [(1, 262)], w)) 1 rfl ?_
            refine e_Ok.getf (z := w 262 1) rfl (el_o rfl) rfl rfl rfl (by omega) ?_
            refine e_Ok.run (t' := (36, [(0, (1, 262)), (1, (1, 17 * a + 86)), (2, (1, 272)), (3, (0, y3)), (4, (0, y4))], [(0, 1), (0, w 262 1)], w)) 1 rfl ?_
            refine e_Ok.if2 rfl (fun h16 => ?_) (fun h16 => ?_)
            · replace h16 : (w 262 1 : Int) ≥ 1 := h16
              refine e_Ok.run (t' := (44, [(0, (1, 262)), (1, (1, 17 * a + 86)), (2, (1, 272)), (3, (0, y3)), (4, (0, y4))], [(0, y4), (1, 272)], w)) 2 rfl ?_
              refine e_Ok.ald (z := w 272 y4) rfl (el_o rfl) rfl (by omega) rfl (by omega) ?_
              refine e_Ok.run (t' := (46, [(0, (1, 262)), (1, (1, 17 * a + 86)), (2, (1, 272)), (3, (0, y3)), (4, (0, y4))], [(1, 262), (0, w 272 y4)], w)) 1 rfl ?_
              refine e_Ok.getr (z := 263) rfl (el_o rfl) rfl rfl (Eq.trans (e_Has.eq hT rfl) (by omega)) (by omega) ?_
              refine e_Ok.run (t' := (51, [(0, (1, 262)), (1, (1, 17 * a + 86)), (2, (1, 272)), (3, (0, y3)), (4, (0, y4))], [(0, y4), (1, 263), (0, w 272 y4)], w)) 1 rfl ?_
              refine e_Ok.ald (z := w 263 y4) rfl (el_o rfl) rfl (by omega) rfl (by omega) ?_
              refine e_Ok.sub' (z := w 272 y4 - w 263 y4) rfl (by omega) (by omega) ?_
              refine e_Ok.run (t' := (58, [(5, (0, w 272 y4 - w 263 y4)), (0, (1, 262)), (1, (1, 17 * a + 86)), (2, (1, 272)), (3, (0, y3)), (4, (0, y4))], [(1, 262), (0, w 272 y4 - w 263 y4)], w)) 3 rfl ?_
              refine e_Ok.getf (z := w 262 1) rfl (el_o rfl) rfl rfl rfl (by omega) ?_
              refine e_Ok.kremd rfl (by omega) (by omega) (fun z17 hz17 z17a z17b => ?_)
              replace hz17 : z17 = 0 ↔ ∃ q, w 272 y4 - w 263 y4 = q * w 262 1 := hz17
              refine e_Ok.if1 rfl (fun h18 => ?_) (fun h18 => ?_)
              · replace h18 : (z17 : Int) = 0 := h18
                refine e_Ok.run (t' := (69, [(5, (0, w 272 y4 - w 263 y4)), (0, (1, 262)), (1, (1, 17 * a + 86)), (2, (1, 272)), (3, (0, y3)), (4, (0, y4))], [(1, 262), (0, y3)], w)) 2 rfl ?_
                refine e_Ok.getr (z := 264) rfl (el_o rfl) rfl rfl (Eq.trans (e_Has.eq hT rfl) (by omega)) (by omega) ?_
                refine e_Ok.run (t' := (74, [(5, (0, w 272 y4 - w 263 y4)), (0, (1, 262)), (1, (1, 17 * a + 86)), (2, (1, 272)), (3, (0, y3)), (4, (0, y4))], [(0, y4), (1, 264), (0, y3)], w)) 1 rfl ?_
                refine e_Ok.ald (z := w 264 y4) rfl (el_o rfl) rfl (by omega) rfl (by omega) ?_
                refine e_Ok.run (t' := (78, [(5, (0, w 272 y4 - w 263 y4)), (0, (1, 262)), (1, (1, 17 * a + 86)), (2, (1, 272)), (3, (0, y3)), (4, (0, y4))], [(1, 262), (0, w 272 y4 - w 263 y4), (0, w 264 y4), (0, y3)], w)) 2 rfl ?_
                refine e_Ok.getf (z := w 262 1) rfl (el_o rfl) rfl rfl rfl (by omega) ?_
                obtain ⟨q0, hq0⟩ := hz17.mp (by omega)
                have hq1 := no_q hL (j := y4) (by omega) (by omega) (by omega) hq0 (by omega)
                refine e_Ok.divq (q := q0) rfl (by omega) (by omega) hq0 ?_
                refine e_Ok.add (z := w 264 y4 + q0) rfl (by omega) (by omega) ?_
                refine e_Ok.run (t' := (84, [(5, (0, w 272 y4 - w 263 y4)), (0, (1, 262)), (1, (1, 17 * a + 86)), (2, (1, 272)), (3, (0, y3)), (4, (0, y4))], [(1, 262), (0, w 264 y4 + q0), (0, y3)], w)) 1 rfl ?_
                refine e_Ok.getr (z := 266) rfl (el_o rfl) rfl rfl (Eq.trans (e_Has.eq hT rfl) (by omega)) (by omega) ?_
                refine e_Ok.run (t' := (89, [(5, (0, w 272 y4 - w 263 y4)), (0, (1, 262)), (1, (1, 17 * a + 86)), (2, (1, 272)), (3, (0, y3)), (4, (0, y4))], [(0, y4), (1, 266), (0, w 264 y4 + q0), (0, y3)], w)) 1 rfl ?_
                refine e_Ok.ald (z := w 266 y4) rfl (el_o rfl) rfl (by omega) rfl (by omega) ?_
                have hmu := mulb (x := w 264 y4 + q0) (y := w 266 y4) (A := 200001) (B := 1000) (by omega) (by omega)
                refine e_Ok.mul (z := (w 264 y4 + q0) * (w 266 y4)) rfl (by omega) (by omega) ?_
                refine e_Ok.add (z := y3 + (w 264 y4 + q0) * (w 266 y4)) rfl (by omega) (by omega) ?_
                refine e_Ok.run (t' := (93, [(3, (0, y3 + (w 264 y4 + q0) * (w 266 y4))), (5, (0, w 272 y4 - w 263 y4)), (0, (1, 262)), (1, (1, 17 * a + 86)), (2, (1, 272)), (4, (0, y4))], [], w)) 1 rfl ?_
                have hst2 : (y3 + (w 264 y4 + q0) * (w 266 y4) = ksm (w 265) (qN w n) (y4 + 1).toNat) ∧ y3 + (w 264 y4 + q0) * (w 266 y4) < 1000 := by have g := no_st hL (j := y4) (by omega) j4 (fun i g1 g2 => by by_cases e : i = y4; (rw [e, ← hq1.2]; exact hq1.1); (exact j3 i g1 (by omega))); rw [← hq1.2] at g; exact g
                refine e_Ok.inc (z := y4 + 1) rfl rfl (by omega) (by omega) ?_
                show e_Ok 20 elay kcode eI (d + 1) 99 (96, [(4, (0, y4 + 1)), (3, (0, y3 + (w 264 y4 + q0) * (w 266 y4))), (5, (0, w 272 y4 - w 263 y4)), (0, (1, 262)), (1, (1, 17 * a + 86)), (2, (1, 272))], [], w) _
                refine e_Ok.run (t' := (5, [(4, (0, y4 + 1)), (3, (0, y3 + (w 264 y4 + q0) * (w 266 y4))), (5, (0, w 272 y4 - w 263 y4)), (0, (1, 262)), (1, (1, 17 * a + 86)), (2, (1, 272))], [], w)) 1 rfl ?_
                refine e_Ok.sub kAlk (e_sub_of rfl ?_) (ih2 (y3 + (w 264 y4 + q0) * (w 266 y4)) (y4 + 1) ⟨(fun i g1 g2 => by by_cases e : i = y4; (rw [e, ← hq1.2]; exact hq1.1); (exact j3 i g1 (by omega))), hst2.1, (by have g := hst2.2; omega), by omega⟩ (by omega))
                exact ⟨rfl, rfl, rfl, rfl, rfl, trivial⟩
              · replace h18 : (z17 : Int) ≠ 0 := by have q : ¬ ((z17 : Int) = 0) := h18; omega
                refine e_Ok.run (t' := (66, [(5, (0, w 272 y4 - w 263 y4)), (0, (1, 262)), (1, (1, 17 * a + 86)), (2, (1, 272)), (3, (0, y3)), (4, (0, y4))], [(0, (-1))], w)) 1 rfl ?_
                refine e_Ok.rets rfl rfl ?_
                exact ⟨_, rfl, rfl, Or.inl rfl⟩
            · replace h16 : (w 262 1 : Int) < 1 := by have q : ¬ ((w 262 1 : Int) ≥ 1) := h16; omega
              exfalso; omega
        · show e_Ok 20 elay kcode eI (d + 1) 99 (28, [(0, (1, 262)), (1, (1, 17 * a + 86)), (2, (1, 272)), (3, (0, y3)), (4, (0, y4))], [(0, 0)], w) _
          refine e_Ok.if1 rfl (fun h19 => ?_) (fun h19 => ?_)
          · replace h19 : (0 : Int) = 0 := h19
            refine e_Ok.run (t' := (40, [(0, (1, 262)), (1, (1, 17 * a + 86)), (2, (1, 272)), (3, (0, y3)), (4, (0, y4))], [(0, (-1))], w)) 1 rfl ?_
            refine e_Ok.rets rfl rfl ?_
            exact ⟨_, rfl, rfl, Or.inl rfl⟩
          · replace h19 : (0 : Int) ≠ 0 := by have q : ¬ ((0 : Int) = 0) := h19; omega
            exfalso; omega
  refine e_Ok.sub kAlk (e_sub_of rfl ?_) (hL1 (6 + 1 : Int).toNat 0 0 ⟨(fun i g1 g2 => by omega), rfl, by omega, by omega⟩ (by omega))
  exact ⟨rfl, rfl, rfl, rfl, rfl, trivial⟩
end
