noncomputable section
/-! two texts that are alike have the same tokens; how far a token goes -/
section SHT
variable {T U : Int → Int} {N : Int}
theorem skp_c (h : ∀ i, 0 ≤ i → i < N → T i = U i) : ∀ (n : Nat) (i c : Int), 0 ≤ i → skp T N n i c = skp U N n i c
  | 0, _, _, _ => rfl
  | n + 1, i, c, h0 => by
    unfold skp
    by_cases g : N ≤ i
    · rw [if_pos g, if_pos g]
    · rw [if_neg g, if_neg g, h i h0 (by omega), skp_c h n (i + 1) 1 (by omega), skp_c h n (i + 1) 0 (by omega), skp_c h n (i + 1) c (by omega)]
theorem skF_c (h : ∀ i, 0 ≤ i → i < N → T i = U i) {i c : Int} (h0 : 0 ≤ i) : skF T N i c = skF U N i c := skp_c h _ _ _ h0
theorem wdp_c (h : ∀ i, 0 ≤ i → i < N → T i = U i) : ∀ (n : Nat) (i : Int), 0 ≤ i → wdp T N n i = wdp U N n i
  | 0, _, _ => rfl
  | n + 1, i, h0 => by
    unfold wdp
    by_cases g : i < N
    · rw [h i h0 g, wdp_c h n (i + 1) (by omega)]
    · rw [if_neg (fun q => g q.1), if_neg (fun q => g q.1)]
theorem wdF_c (h : ∀ i, 0 ≤ i → i < N → T i = U i) {i : Int} (h0 : 0 ≤ i) : wdF T N i = wdF U N i := wdp_c h _ _ h0
theorem dgp_c (h : ∀ i, 0 ≤ i → i < N → T i = U i) : ∀ (n : Nat) (i v : Int), 0 ≤ i → dgp T N n i v = dgp U N n i v
  | 0, _, _, _ => rfl
  | n + 1, i, v, h0 => by
    unfold dgp
    by_cases g : i < N
    · rw [h i h0 g, dgp_c h n (i + 1) _ (by omega)]
    · rw [if_neg (fun q => g q.1), if_neg (fun q => g q.1)]
theorem dgF_c (h : ∀ i, 0 ≤ i → i < N → T i = U i) {i v : Int} (h0 : 0 ≤ i) : dgF T N i v = dgF U N i v := dgp_c h _ _ _ h0
theorem byT_c (h : ∀ i, 0 ≤ i → i < N → T i = U i) {i : Int} (h0 : 0 ≤ i) : byT T N i = byT U N i := by
  unfold byT
  by_cases g : i < N
  · rw [if_pos g, if_pos g, h i h0 g]
  · rw [if_neg g, if_neg g]
theorem kwd_c (h : ∀ i, 0 ≤ i → i < N → T i = U i) {a e k : Int} (h0 : 0 ≤ a) (he : e ≤ N) (q : kwd T a e k) : kwd U a e k := by
  obtain ⟨p, p0, p1, p2, p3, p4⟩ := q
  exact ⟨p, p0, p1, p2, p3, fun j g1 g2 => by rw [← h (a + j) (by omega) (by omega)]; exact p4 j g1 g2⟩
theorem skp_r : ∀ (n : Nat) (i c : Int), i ≤ N → i ≤ skp T N n i c ∧ skp T N n i c ≤ N
  | 0, i, _, h => ⟨Int.le_refl _, h⟩
  | n + 1, i, c, h => by
    unfold skp
    by_cases g : N ≤ i
    · rw [if_pos g]; omega
    · have a1 := skp_r n (i + 1) 1 (by omega)
      have a2 := skp_r n (i + 1) 0 (by omega)
      have a3 := skp_r n (i + 1) c (by omega)
      rw [if_neg g]
      split
      · omega
      · split
        · omega
        · split
          · omega
          · omega
theorem skF_r {i c : Int} (h : i ≤ N) : i ≤ skF T N i c ∧ skF T N i c ≤ N := skp_r _ _ _ h
theorem wdp_r : ∀ (n : Nat) (i : Int), i ≤ N → i ≤ wdp T N n i ∧ wdp T N n i ≤ N
  | 0, i, h => ⟨Int.le_refl _, h⟩
  | n + 1, i, h => by
    unfold wdp
    split
    · rename_i g
      have a1 := wdp_r n (i + 1) (by omega)
      omega
    · omega
theorem wdF_r {i : Int} (h : i ≤ N) : i ≤ wdF T N i ∧ wdF T N i ≤ N := wdp_r _ _ h
theorem dgp_r : ∀ (n : Nat) (i v : Int), i ≤ N → i ≤ (dgp T N n i v).1 ∧ (dgp T N n i v).1 ≤ N
  | 0, i, _, h => ⟨Int.le_refl _, h⟩
  | n + 1, i, v, h => by
    unfold dgp
    split
    · rename_i g
      have a1 := dgp_r n (i + 1) (if 2147483647 < v then v else 10 * v + (T i % 256 - 48)) (by omega)
      omega
    · exact ⟨Int.le_refl _, h⟩
theorem dgF_r {i v : Int} (h : i ≤ N) : i ≤ (dgF T N i v).1 ∧ (dgF T N i v).1 ≤ N := dgp_r _ _ _ h
theorem tkP_c (h : ∀ i, 0 ≤ i → i < N → T i = U i) {x kd a e nv : Int} (hx : 0 ≤ x ∧ x ≤ N) (q : tkP T N x kd a e nv) : tkP U N x kd a e nv := by
  obtain ⟨q1, q2⟩ := q
  have r := skF_r (T := T) (N := N) (i := x) (c := 0) hx.2
  rw [← q1] at r
  refine ⟨by rw [← skF_c h hx.1]; exact q1, ?_⟩
  rcases q2 with q2 | ⟨g, q2⟩
  · exact Or.inl q2
  · refine Or.inr ⟨g, ?_⟩
    rw [← h a (by omega) g, ← dgF_c (i := a) (v := 0) h (by omega), ← wdF_c (i := a) h (by omega), ← byT_c (i := a + 1) h (by omega)]
    rcases q2 with q2 | ⟨g1, g2, g3⟩ | q2
    · exact Or.inl q2
    · refine Or.inr (Or.inl ⟨g1, g2, ?_⟩)
      have wr := wdF_r (T := T) (N := N) (i := a) (by omega)
      rw [← g2] at wr
      rcases g3 with g3 | ⟨g3, g4⟩
      · exact Or.inl g3
      · refine Or.inr ⟨g3, ?_⟩
        rcases g4 with ⟨g4, g5⟩ | ⟨k, g4, g5⟩
        · exact Or.inl ⟨g4, fun k k0 k1 z => g5 k k0 k1 (kwd_c (fun i i0 i1 => (h i i0 i1).symm) (by omega) wr.2 z)⟩
        · exact Or.inr ⟨k, g4, kwd_c h (by omega) wr.2 g5⟩
    · exact Or.inr (Or.inr q2)
theorem sgK_r {c d : Int} : 3 ≤ sgK c d ∧ sgK c d ≤ 20 ∧ sgK c d ≠ 4 := by
  have r := sgI_r c
  unfold sgK
  split
  · decide
  · split
    · decide
    · split
      · decide
      · split
        · decide
        · omega
/-- how far a token goes -/
theorem tkP_r {x kd a e nv : Int} (hx : 0 ≤ x ∧ x ≤ N) (q : tkP T N x kd a e nv) : x ≤ a ∧ a ≤ N ∧ a ≤ e ∧ e ≤ N ∧ (kd = 0 ∨ a < e) ∧ kd ≠ 4 ∧ 0 ≤ kd ∧ kd ≤ 53 := by
  obtain ⟨q1, q2⟩ := q
  have r := skF_r (T := T) (N := N) (i := x) (c := 0) hx.2
  rw [← q1] at r
  rcases q2 with ⟨g1, g2, g3⟩ | ⟨g, q2⟩
  · omega
  · rcases q2 with ⟨g1, g2, g3⟩ | ⟨g1, g2, g3⟩ | ⟨g1, g2, g3, g4⟩
    · unfold dgB at g1
      have d1 := dgF_go (T := T) (N := N) (i := a) (v := 0) g g1
      have d2 := dgF_r (T := T) (N := N) (i := a + 1) (v := (if 2147483647 < (0 : Int) then 0 else 10 * 0 + (T a % 256 - 48))) (by omega)
      rw [← d1, ← g2] at d2
      rcases g3 with ⟨-, g3⟩ | ⟨-, g3, -⟩ <;> omega
    · unfold ltB at g1
      have d1 := wdF_go (T := T) (N := N) (i := a) g (by rcases g1 with g1 | g1; exact Or.inl g1; exact Or.inr (Or.inl g1))
      have d2 := wdF_r (T := T) (N := N) (i := a + 1) (by omega)
      rw [← d1, ← g2] at d2
      rcases g3 with ⟨-, g3⟩ | ⟨-, ⟨g3, -⟩ | ⟨k, g3, g4⟩⟩
      · omega
      · omega
      · have kr := kwd_k g4
        omega
    · have sr := sgK_r (c := T a % 256) (d := byT T N (a + 1))
      have se : (sgE (T a % 256) (byT T N (a + 1)) = 1) ∨ (sgE (T a % 256) (byT T N (a + 1)) = 2 ∧ byT T N (a + 1) = 61) := by
        unfold sgE
        split
        · rename_i z; exact Or.inr ⟨rfl, z.2⟩
        · exact Or.inl rfl
      rcases se with se | ⟨se, sb⟩
      · omega
      · have : a + 1 < N := by
          by_cases z : a + 1 < N
          · exact z
          · unfold byT at sb; rw [if_neg z] at sb; omega
        omega
end SHT
end
