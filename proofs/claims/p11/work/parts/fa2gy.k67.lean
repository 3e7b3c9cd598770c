noncomputable section
/-! one bit of a number -/
theorem e_sh16 : ∀ n : Nat, n < 16 → ((Int32.ofInt n &&& 31).toBitVec.smod 32).toNat = n := by decide +kernel
theorem p2_rng {n : Nat} (hn : n < 16) : (0 : Int) ≤ 2 ^ n ∧ (2 : Int) ^ n ≤ 32768 := by
  obtain rfl | rfl | rfl | rfl | rfl | rfl | rfl | rfl | rfl | rfl | rfl | rfl | rfl | rfl | rfl | rfl : n = 0 ∨ n = 1 ∨ n = 2 ∨ n = 3 ∨ n = 4 ∨ n = 5 ∨ n = 6 ∨ n = 7 ∨ n = 8 ∨ n = 9 ∨ n = 10 ∨ n = 11 ∨ n = 12 ∨ n = 13 ∨ n = 14 ∨ n = 15 := by omega
  all_goals decide
theorem e_or_bit {m n : Nat} (h : m / 2 ^ n % 2 = 0) : m ||| 2 ^ n = m + 2 ^ n := by
  have h1 : m = 2 ^ (n + 1) * (m / 2 ^ (n + 1)) + m % 2 ^ n := by
    have e1 := Nat.div_add_mod m (2 ^ n)
    have e2 := Nat.div_add_mod (m / 2 ^ n) 2
    have e3 : m / 2 ^ n / 2 = m / 2 ^ (n + 1) := by rw [Nat.div_div_eq_div_mul, Nat.pow_succ]
    rw [h, e3, Nat.add_zero] at e2
    have e4 : 2 ^ (n + 1) * (m / 2 ^ (n + 1)) = 2 ^ n * (m / 2 ^ n) := by rw [← e2, ← Nat.mul_assoc, ← Nat.pow_succ]
    rw [e4]
    exact e1.symm
  have hl : m % 2 ^ n < 2 ^ n := Nat.mod_lt _ (Nat.pow_pos (by decide))
  clear h
  generalize m / 2 ^ (n + 1) = q at h1
  generalize m % 2 ^ n = l at h1 hl
  subst h1
  have hl2 : l < 2 ^ (n + 1) := by rw [Nat.pow_succ]; omega
  have hl3 : l + 2 ^ n < 2 ^ (n + 1) := by rw [Nat.pow_succ]; omega
  have s1 : 2 ^ (n + 1) * q + l = 2 ^ (n + 1) * q ||| l := Nat.two_pow_add_eq_or_of_lt hl2 q
  have s2 : 2 ^ (n + 1) * q + (l + 2 ^ n) = 2 ^ (n + 1) * q ||| (l + 2 ^ n) := Nat.two_pow_add_eq_or_of_lt hl3 q
  have s3 : l ||| 2 ^ n = l + 2 ^ n := Nat.or_two_pow_eq_add_of_lt hl
  rw [Nat.add_assoc, s2, ← s3, ← Nat.or_assoc, ← s1]
theorem e_ors {x : Int} {n : Nat} (hn : n < 16) (hx : 0 ≤ x ∧ x < 65536) (hb : x / 2 ^ n % 2 = 0) : (Int32.ofInt x ||| Int32.ofInt ((Int32.ofInt 1 <<< (Int32.ofInt (n : Int) &&& 31)).toInt)).toInt = x + 2 ^ n := by
  obtain ⟨m, rfl⟩ : ∃ m : Nat, x = m := ⟨x.toNat, by omega⟩
  have hp : 2 ^ n ≤ 2 ^ 15 := Nat.pow_le_pow_right (by decide) (by omega)
  have hs : (Int32.ofInt 1 <<< (Int32.ofInt (n : Int) &&& 31)).toInt = ((1 * 2 ^ n : Nat) : Int) := e_shl32 (a := 1) n (e_sh16 n hn) (by omega)
  have hb' : m / 2 ^ n % 2 = 0 := by exact_mod_cast hb
  rw [hs, Nat.one_mul]
  show ((BitVec.ofInt 32 (m : Int)) ||| (BitVec.ofInt 32 ((2 ^ n : Nat) : Int))).toInt = _
  rw [BitVec.ofInt_natCast, BitVec.ofInt_natCast]
  have e : (BitVec.ofNat 32 m ||| BitVec.ofNat 32 (2 ^ n)).toNat = m + 2 ^ n := by
    rw [BitVec.toNat_or, BitVec.toNat_ofNat, BitVec.toNat_ofNat, Nat.mod_eq_of_lt (by omega), Nat.mod_eq_of_lt (by omega), e_or_bit hb']
  rw [BitVec.toInt_eq_toNat_of_lt (by rw [e]; omega), e]
  norm_cast
section K67
variable {fd : Nat} {lay : List eY} {code : Nat → Nat → eE} {I : Nat → xM} {d M nx a b p : Nat} {l : eL} {r : List eV} {w : eW} {Q : List eV → eW → Prop}
theorem e_Ok.shrn {x : Int} {n : Nat} (hn : n < 16) (hx : -2147483648 ≤ x ∧ x ≤ 2147483647) (hc : code M p = (0, ei_bin (eB (fun x y => x >>> (y &&& 31))) nx, a, b)) (h : e_Ok fd lay code I d M (nx, l, (0, x / 2 ^ n) :: r, w) Q) : e_Ok fd lay code I d M (p, l, (0, (n : Int)) :: (0, x) :: r, w) Q := by
  refine e_Ok.step hc ?_ h
  show some (nx, l, (0, (Int32.ofInt x >>> (Int32.ofInt (n : Int) &&& 31)).toInt) :: r, w) = _
  rw [e_shr32 n (e_sh16 n hn) hx]
theorem e_Ok.shl1 {n : Nat} (hc : code M p = (0, ei_bin (eB (fun x y => x <<< (y &&& 31))) nx, a, b)) (h : e_Ok fd lay code I d M (nx, l, (0, (Int32.ofInt 1 <<< (Int32.ofInt (n : Int) &&& 31)).toInt) :: r, w) Q) : e_Ok fd lay code I d M (p, l, (0, (n : Int)) :: (0, 1) :: r, w) Q :=
  e_Ok.step hc rfl h
theorem e_Ok.orn {x : Int} {n : Nat} (hn : n < 16) (hx : 0 ≤ x ∧ x < 65536) (hb : x / 2 ^ n % 2 = 0) (hc : code M p = (0, ei_bin (eB (fun x y => x ||| y)) nx, a, b)) (h : e_Ok fd lay code I d M (nx, l, (0, x + 2 ^ n) :: r, w) Q) : e_Ok fd lay code I d M (p, l, (0, (Int32.ofInt 1 <<< (Int32.ofInt (n : Int) &&& 31)).toInt) :: (0, x) :: r, w) Q := by
  refine e_Ok.step hc ?_ h
  show some (nx, l, (0, (Int32.ofInt x ||| Int32.ofInt ((Int32.ofInt 1 <<< (Int32.ofInt (n : Int) &&& 31)).toInt)).toInt) :: r, w) = _
  rw [e_ors hn hx hb]
end K67
theorem c_6_e {d : Nat} {w : eW} (hT : e_Has kTy w) {a i : Int} {n : Nat} (g_a : 0 ≤ a ∧ a ≤ 3) (g_i : 0 ≤ i ∧ i ≤ 6) (hn : n < 16) : e_Ok 20 elay kcode eI d 6 (0, [(0, (1, 17 * a + 86)), (1, (0, i)), (2, (0, (n : Int)))], [], w) (fun r w' => ∃ z : Int, r = [(0, z)] ∧ w = w' ∧ ((z = 1 ∧ w (17 * a + 92) i / 2 ^ n % 2 = 1) ∨ (z = 0 ∧ w (17 * a + 92) i / 2 ^ n % 2 = 0))) := by
  refine e_Ok.ps1 (x := (1, 17 * a + 86)) (q := 1) 1 rfl ?_
  refine e_Ok.getr (z := 17 * a + 92) rfl (lA0 (a := a) rfl g_a) rfl rfl (Eq.trans (e_Has.eq hT (kA_5 (a := a) rfl g_a)) (by omega)) (by omega) ?_
  refine e_Ok.ps1 (x := (0, i)) (q := 5) 1 rfl ?_
  have h1 := (e_Has.get hT (c := 17 * a + 92) (k := i) (lo := (-2147483648)) (hi := 2147483647) (kA92 (a := a) _ rfl g_a) (by decide))
  refine e_Ok.ald (z := w (17 * a + 92) i) rfl (lA6 (a := a) rfl g_a) rfl (by omega) rfl (e_bq h1 (by decide) (by decide)) ?_
  refine e_Ok.ps1 (x := (0, (n : Int))) (q := 7) 1 rfl ?_
  refine e_Ok.shrn hn (by omega) rfl ?_
  refine e_Ok.run (t' := (9, [(0, (1, 17 * a + 86)), (1, (0, i)), (2, (0, (n : Int)))], [(0, 1), (0, w (17 * a + 92) i / 2 ^ n)], w)) 1 rfl ?_
  refine e_Ok.andm 1 1 rfl (by decide) (fun z3 hz3 => ?_)
  replace hz3 : z3 = w (17 * a + 92) i / 2 ^ n % 2 := hz3
  have hz4 : 0 ≤ z3 ∧ z3 ≤ 1 := by omega
  have hJ6 : ∀ m5 : Int, ((m5 = 1 ∧ z3 = 1) ∨ (m5 = 0 ∧ z3 = 0)) → e_Ok 20 elay kcode eI d 6 (18, [(0, (1, 17 * a + 86)), (1, (0, i)), (2, (0, (n : Int)))], [(0, m5)], w) (fun r w' => ∃ z : Int, r = [(0, z)] ∧ w = w' ∧ ((z = 1 ∧ w (17 * a + 92) i / 2 ^ n % 2 = 1) ∨ (z = 0 ∧ w (17 * a + 92) i / 2 ^ n % 2 = 0))) := by
    intro m5 m5r
    refine e_Ok.retb rfl (by omega) ?_
    exact ⟨_, rfl, rfl, by rw [← hz3]; exact m5r⟩
  refine e_Ok.if1 rfl (fun h4 => ?_) (fun h4 => ?_)
  · replace h4 : z3 = 0 := h4
    exact e_Ok.run 1 rfl (hJ6 0 (by omega))
  · replace h4 : ¬ (z3 = 0) := h4
    exact e_Ok.run 2 rfl (hJ6 1 (by omega))
theorem c_199_e {d : Nat} (hd : 24 ≤ d) {w : eW} (hT : e_Has kTy w) (hO : 0 ≤ w 0 13 ∧ w 0 13 ≤ 1) (hX : ∀ a b, 0 ≤ a → a < w 0 11 → 0 ≤ b → b ≤ 6 → 0 ≤ w (17 * a + 92) b ∧ w (17 * a + 92) b < 65536) {a : Int} (g_a : (-2147483648) ≤ a ∧ a ≤ 2147483647) {b : Int} (g_b : (-2147483648) ≤ b ∧ b ≤ 2147483647) {c : Int} (g_c : (-2147483648) ≤ c ∧ c ≤ 2147483647) : e_Ok 20 elay kcode eI d 199 (0, [(0, (1, 0)), (1, (0, a)), (2, (0, b)), (3, (0, c))], [], w) (fun r w' => ∃ z : Int, r = [(0, z)] ∧ ((w = w' ∧ ((¬ ((0 ≤ a ∧ a < w 0 11) ∧ (0 ≤ b ∧ b ≤ 6) ∧ (0 ≤ c ∧ c < w 250 0)) ∧ z = -1) ∨ (((0 ≤ a ∧ a < w 0 11) ∧ (0 ≤ b ∧ b ≤ 6) ∧ (0 ≤ c ∧ c < w 250 0)) ∧ w 0 13 ≠ 0 ∧ z = -2))) ∨ ((((0 ≤ a ∧ a < w 0 11) ∧ (0 ≤ b ∧ b ≤ 6) ∧ (0 ≤ c ∧ c < w 250 0)) ∧ w 0 13 = 0) ∧ ∃ n : Nat, c = n ∧ ((w (17 * a + 92) b / 2 ^ n % 2 = 1 ∧ z = 0 ∧ w = w') ∨ (w (17 * a + 92) b / 2 ^ n % 2 = 0 ∧ z = 1 ∧ w' = e_up w (17 * a + 92) b (w (17 * a + 92) b + 2 ^ n)))))) := by
  obtain ⟨d, rfl⟩ : ∃ e, d = e + 1 := ⟨d - 1, by omega⟩
  have hw0 := e_Has.get hT (c := 0) (k := 11) (lo := 0) (hi := 4) rfl (by decide)
  have hb0 := e_Has.get hT (c := 19) (k := 0) (lo := 0) (hi := 4) rfl (by decide)
  have hz0 := e_Has.get hT (c := 250) (k := 1) (lo := 0) (hi := 8) rfl (by decide)
  have hs0 := e_Has.get hT (c := 250) (k := 0) (lo := 0) (hi := 16) rfl (by decide)
  refine e_Ok.ps2 (x := (0, a)) (y := (1, 0)) (q := 2) 2 rfl ?_
  refine e_Ok.callV rfl (e_dq hd rfl) rfl rfl rfl rfl (c_246 (e_dq hd rfl) hT (by omega)) (fun r1 w2 h3 => ?_)
  obtain ⟨z4, rfl, rfl, q5⟩ := h3
  obtain ⟨rfl, q5⟩ | ⟨rfl, q5⟩ := q5
  · refine e_Ok.nrm (q := 5) (st' := [(0, 1)]) rfl rfl ?_
    refine e_Ok.if1 rfl (fun h6 => ?_) (fun h6 => ?_)
    · replace h6 : (1 : Int) = 0 := h6
      exfalso; omega
    · replace h6 : (1 : Int) ≠ 0 := (show ¬ ((1 : Int) = 0) from h6)
      refine e_Ok.ps3 (x := (0, 6)) (y := (0, 0)) (z := (0, b)) (q := 12) 3 rfl ?_
      refine e_Ok.callS rfl (e_dq hd rfl) rfl rfl (c_242 (by omega) (by omega) (by omega)) (fun r7 w8 h9 => ?_)
      obtain ⟨z10, rfl, rfl, q11⟩ := h9
      obtain ⟨rfl, q11⟩ | ⟨rfl, q11⟩ := q11
      · refine e_Ok.nrm (q := 15) (st' := [(0, 1)]) rfl rfl ?_
        refine e_Ok.if1 rfl (fun h12 => ?_) (fun h12 => ?_)
        · replace h12 : (1 : Int) ≠ 0 := h12
          refine e_Ok.ps3 (x := (1, 0)) (y := (0, 0)) (z := (0, c)) (q := 23) 3 rfl ?_
          refine e_Ok.getr (z := 250) rfl (el_o rfl) rfl rfl (Eq.trans (e_Has.eq hT rfl) (by omega)) ⟨by decide, by decide⟩ ?_
          have h13 := (e_Has.get hT (c := 250) (k := 0) (lo := 0) (hi := 16) rfl (by decide))
          refine e_Ok.getf (z := w 250 0) rfl (el_o rfl) rfl rfl rfl (e_bq h13 (by decide) (by decide)) ?_
          refine e_Ok.ps1 (x := (0, 1)) (q := 30) 1 rfl ?_
          refine e_Ok.sub' (z := w 250 0 - 1) rfl rfl (by omega) ?_
          refine e_Ok.callS rfl (e_dq hd rfl) rfl rfl (c_242 (by omega) (by omega) (by omega)) (fun r14 w15 h16 => ?_)
          obtain ⟨z17, rfl, rfl, q18⟩ := h16
          obtain ⟨rfl, q18⟩ | ⟨rfl, q18⟩ := q18
          · obtain ⟨n, rfl⟩ : ∃ n : Nat, c = n := ⟨c.toNat, by omega⟩
            show e_Ok 20 elay kcode eI (d + 1) 199 (34, [(0, (1, 0)), (1, (0, a)), (2, (0, b)), (3, (0, (n : Int)))], [(0, 1)], w) _
            refine e_Ok.if1 rfl (fun h19 => ?_) (fun h19 => ?_)
            · replace h19 : (1 : Int) ≠ 0 := h19
              refine e_Ok.ps1 (x := (1, 0)) (q := 40) 1 rfl ?_
              refine e_Ok.getf (z := w 0 13) rfl (el_o rfl) rfl rfl rfl (by omega) ?_
              refine e_Ok.if1 rfl (fun h20 => ?_) (fun h20 => ?_)
              · replace h20 : (w 0 13 : Int) = 0 := h20
                refine e_Ok.ps1 (x := (1, 0)) (q := 50) 1 rfl ?_
                refine e_Ok.getr (z := 9) rfl (el_o rfl) rfl rfl (Eq.trans (e_Has.eq hT rfl) (by omega)) ⟨by decide, by decide⟩ ?_
                refine e_Ok.ps1 (x := (0, a)) (q := 54) 1 rfl ?_
                refine e_Ok.aald (z := 17 * a + 86) rfl (el_o rfl) rfl (by omega) (Eq.trans (e_Has.eq hT (k9 (by omega))) (by omega)) (by omega) ?_
                refine e_Ok.ps2 (x := (0, (n : Int))) (y := (0, b)) (q := 57) 2 rfl ?_
                refine e_Ok.callV rfl (e_dq hd rfl) rfl (lA0 (a := a) (by omega) (by omega)) rfl rfl (c_6_e (a := a) hT (by omega) (by omega) (by omega)) (fun r21 w22 h23 => ?_)
                obtain ⟨z25, rfl, rfl, q24r⟩ := h23
                have q24s : 0 ≤ z25 ∧ z25 ≤ 1 := by omega
                refine e_Ok.nrm (q := 60) (st' := [(0, z25)]) rfl rfl ?_
                refine e_Ok.if1 rfl (fun h26 => ?_) (fun h26 => ?_)
                · replace h26 : (z25 : Int) = 0 := h26
                  refine e_Ok.ps1 (x := (1, 0)) (q := 66) 1 rfl ?_
                  refine e_Ok.getr (z := 9) rfl (el_o rfl) rfl rfl (Eq.trans (e_Has.eq hT rfl) (by omega)) ⟨by decide, by decide⟩ ?_
                  refine e_Ok.ps1 (x := (0, a)) (q := 70) 1 rfl ?_
                  refine e_Ok.aald (z := 17 * a + 86) rfl (el_o rfl) rfl (by omega) (Eq.trans (e_Has.eq hT (k9 (by omega))) (by omega)) (by omega) ?_
                  refine e_Ok.getr (z := 17 * a + 92) rfl (lA0 (a := a) (by omega) (by omega)) rfl rfl (Eq.trans (e_Has.eq hT (kA_5 (a := a) (by omega) (by omega))) (by omega)) (by omega) ?_
                  refine e_Ok.ps3 (x := (0, b)) (y := (1, 17 * a + 92)) (z := (0, b)) (q := 76) 2 rfl ?_
                  have h27 := (e_Has.get hT (c := 17 * a + 92) (k := b) (lo := (-2147483648)) (hi := 2147483647) (kA92 (a := a) _ (by omega) (by omega)) (by decide))
                  refine e_Ok.ald (z := w (17 * a + 92) b) rfl (lA6 (a := a) (by omega) (by omega)) rfl (by omega) rfl (e_bq h27 (by decide) (by decide)) ?_
                  refine e_Ok.ps2 (x := (0, (n : Int))) (y := (0, 1)) (q := 79) 2 rfl ?_
                  have q24z : w (17 * a + 92) b / 2 ^ n % 2 = 0 := by omega
                  have hp := p2_rng (n := n) (by omega)
                  have hX1 := hX a b (by omega) (by omega) (by omega) (by omega)
                  refine e_Ok.shl1 rfl ?_
                  refine e_Ok.orn (by omega) hX1 q24z rfl ?_
                  refine e_Ok.ast rfl (lA6 (a := a) (by omega) (by omega)) rfl rfl (by omega) ?_
                  generalize hw30 : e_up w (17 * a + 92) b (w (17 * a + 92) b + 2 ^ n) = w30
                  refine e_Ok.run (t' := (83, [(0, (1, 0)), (1, (0, a)), (2, (0, b)), (3, (0, (n : Int)))], [(0, 1)], w30)) 1 rfl ?_
                  refine e_Ok.rets rfl rfl ?_
                  exact ⟨_, rfl, Or.inr ⟨⟨by omega, by omega⟩, n, rfl, Or.inr ⟨q24z, rfl, hw30.symm⟩⟩⟩
                · replace h26 : (z25 : Int) ≠ 0 := (show ¬ ((z25 : Int) = 0) from h26)
                  refine e_Ok.ps1 (x := (0, 0)) (q := 64) 1 rfl ?_
                  refine e_Ok.rets rfl rfl ?_
                  exact ⟨_, rfl, Or.inr ⟨⟨by omega, by omega⟩, n, rfl, Or.inl ⟨by omega, rfl, rfl⟩⟩⟩
              · replace h20 : (w 0 13 : Int) ≠ 0 := (show ¬ ((w 0 13 : Int) = 0) from h20)
                refine e_Ok.ps1 (x := (0, (-2))) (q := 48) 1 rfl ?_
                refine e_Ok.rets rfl rfl ?_
                exact ⟨_, rfl, Or.inl ⟨rfl, Or.inr ⟨by omega, h20, rfl⟩⟩⟩
            · replace h19 : (1 : Int) = 0 := Classical.not_not.mp (show ¬ ((1 : Int) ≠ 0) from h19)
              exfalso; omega
          · refine e_Ok.nrm (q := 34) (st' := [(0, 0)]) rfl rfl ?_
            refine e_Ok.if1 rfl (fun h33 => ?_) (fun h33 => ?_)
            · replace h33 : (0 : Int) ≠ 0 := h33
              exfalso; omega
            · replace h33 : (0 : Int) = 0 := Classical.not_not.mp (show ¬ ((0 : Int) ≠ 0) from h33)
              refine e_Ok.ps1 (x := (0, (-1))) (q := 38) 1 rfl ?_
              refine e_Ok.rets rfl rfl ?_
              exact ⟨_, rfl, Or.inl ⟨rfl, Or.inl ⟨by omega, rfl⟩⟩⟩
        · replace h12 : (1 : Int) = 0 := Classical.not_not.mp (show ¬ ((1 : Int) ≠ 0) from h12)
          exfalso; omega
      · refine e_Ok.nrm (q := 15) (st' := [(0, 0)]) rfl rfl ?_
        refine e_Ok.if1 rfl (fun h34 => ?_) (fun h34 => ?_)
        · replace h34 : (0 : Int) ≠ 0 := h34
          exfalso; omega
        · replace h34 : (0 : Int) = 0 := Classical.not_not.mp (show ¬ ((0 : Int) ≠ 0) from h34)
          refine e_Ok.ps1 (x := (0, (-1))) (q := 19) 1 rfl ?_
          refine e_Ok.rets rfl rfl ?_
          exact ⟨_, rfl, Or.inl ⟨rfl, Or.inl ⟨by omega, rfl⟩⟩⟩
  · refine e_Ok.nrm (q := 5) (st' := [(0, 0)]) rfl rfl ?_
    refine e_Ok.if1 rfl (fun h35 => ?_) (fun h35 => ?_)
    · replace h35 : (0 : Int) = 0 := h35
      refine e_Ok.ps1 (x := (0, (-1))) (q := 19) 1 rfl ?_
      refine e_Ok.rets rfl rfl ?_
      exact ⟨_, rfl, Or.inl ⟨rfl, Or.inl ⟨by omega, rfl⟩⟩⟩
    · replace h35 : (0 : Int) ≠ 0 := (show ¬ ((0 : Int) = 0) from h35)
      exfalso; omega
set_option maxHeartbeats 4000000 in
theorem c_1_s {d : Nat} (hd : 26 ≤ d) {w : eW} (hT : e_Has kTy w) {a cd : Int} (ga : 0 ≤ a ∧ a ≤ 3) (hc : w (17 * a + 86) 7 = cd) (hcd : isCd cd) {x : Int} (g_x : (-2147483648) ≤ x ∧ x ≤ 2147483647) {y : Int} (g_y : (-2147483648) ≤ y ∧ y ≤ 2147483647) {u : Int} (g_u : (-2147483648) ≤ u ∧ u ≤ 2147483647) {v : Int} (g_v : (-2147483648) ≤ v ∧ v ≤ 2147483647) : e_Ok 20 elay kcode eI d 1 (0, [(0, (1, 17 * a + 86)), (1, (0, x)), (2, (0, y)), (3, (0, u)), (4, (0, v))], [], w) (fun r w' => r = [] ∧ e_fr (kMk a cd) w w' ∧ e_Has kTy w' ∧ ∀ k, 0 ≤ k → k < 7 → w' (17 * a + 92) k = 0) := by
  obtain ⟨d, rfl⟩ : ∃ e, d = e + 1 := ⟨d - 1, by omega⟩
  have hcd2 := hcd; unfold isCd at hcd2
  have hcd3 : 2 ≤ cd ∧ cd ≤ 145 := by omega
  refine e_Ok.ps2 (x := (0, 0)) (y := (1, 17 * a + 86)) (q := 2) 2 rfl ?_
  refine e_Ok.putf rfl (lA0 (a := a) rfl ga) rfl rfl ?_
  generalize hw1 : e_up w (17 * a + 86) 8 0 = w1
  have f2 : e_fr (kMk a cd) w w1 := e_fr.up (e_fr.refl w) hw1 (by unfold kMk; omega)
  have hT3 : e_Has kTy w1 := e_Has.upr hT hw1 (kA_8 (a := a) rfl ga) (by omega)
  refine e_Ok.ps1 (x := (1, 17 * a + 86)) (q := 6) 1 rfl ?_
  refine e_Ok.getr (z := 17 * a + 88) rfl (lA0 (a := a) rfl ga) rfl rfl (e_uq hw1 (Or.inr (by decide)) (Eq.trans (e_Has.eq hT (kA_1 (a := a) rfl ga)) (by omega))) (by omega) ?_
  refine e_Ok.ps2 (x := (0, x)) (y := (0, 0)) (q := 11) 2 rfl ?_
  refine e_Ok.ast rfl (lA2 (a := a) rfl ga) rfl rfl (by omega) ?_
  generalize hw4 : e_up w1 (17 * a + 88) 0 x = w4
  have f5 : e_fr (kMk a cd) w w4 := e_fr.up f2 hw4 (by unfold kMk; omega)
  have hT6 : e_Has kTy w4 := e_Has.ups hT3 hw4 (kA88 (a := a) _ rfl ga)
  refine e_Ok.ps1 (x := (1, 17 * a + 86)) (q := 13) 1 rfl ?_
  refine e_Ok.getr (z := 17 * a + 89) rfl (lA0 (a := a) rfl ga) rfl rfl (e_uq hw4 (Or.inl (e_neo (by decide))) (e_uq hw1 (Or.inr (by decide)) (Eq.trans (e_Has.eq hT (kA_2 (a := a) rfl ga)) (by omega)))) (by omega) ?_
  refine e_Ok.ps2 (x := (0, y)) (y := (0, 0)) (q := 18) 2 rfl ?_
  refine e_Ok.ast rfl (lA3 (a := a) rfl ga) rfl rfl (by omega) ?_
  generalize hw7 : e_up w4 (17 * a + 89) 0 y = w7
  have f8 : e_fr (kMk a cd) w w7 := e_fr.up f5 hw7 (by unfold kMk; omega)
  have hT9 : e_Has kTy w7 := e_Has.ups hT6 hw7 (kA89 (a := a) _ rfl ga)
  refine e_Ok.ps2 (x := (0, u)) (y := (1, 17 * a + 86)) (q := 21) 2 rfl ?_
  refine e_Ok.putf rfl (lA0 (a := a) rfl ga) rfl rfl ?_
  generalize hw10 : e_up w7 (17 * a + 86) 9 u = w10
  have f11 : e_fr (kMk a cd) w w10 := e_fr.up f8 hw10 (by unfold kMk; omega)
  have hT12 : e_Has kTy w10 := e_Has.upr hT9 hw10 (kA_9 (a := a) rfl ga) (by omega)
  refine e_Ok.ps2 (x := (0, v)) (y := (1, 17 * a + 86)) (q := 27) 2 rfl ?_
  refine e_Ok.putf rfl (lA0 (a := a) rfl ga) rfl rfl ?_
  generalize hw13 : e_up w10 (17 * a + 86) 10 v = w13
  have f14 : e_fr (kMk a cd) w w13 := e_fr.up f11 hw13 (by unfold kMk; omega)
  have hT15 : e_Has kTy w13 := e_Has.upr hT12 hw13 (kA_10 (a := a) rfl ga) (by omega)
  refine e_Ok.ps1 (x := (1, 17 * a + 86)) (q := 31) 1 rfl ?_
  refine e_Ok.getr (z := 17 * a + 92) rfl (lA0 (a := a) rfl ga) rfl rfl (e_uq hw13 (Or.inr (by decide)) (e_uq hw10 (Or.inr (by decide)) (e_uq hw7 (Or.inl (e_neo (by decide))) (e_uq hw4 (Or.inl (e_neo (by decide))) (e_uq hw1 (Or.inr (by decide)) (Eq.trans (e_Has.eq hT (kA_5 (a := a) rfl ga)) (by omega))))))) (by omega) ?_
  refine e_Ok.ps1 (x := (0, 0)) (q := 35) 1 rfl ?_
  refine e_Ok.callS rfl (e_dq hd rfl) rfl rfl (c_452_92 (a := a) hT15 (by omega)) (fun r16 w17 h18 => ?_)
  obtain ⟨rfl, q19f, q19T, q19x⟩ := h18
  have f20 : e_fr (kMk a cd) w w17 := e_fr.trans f14 (e_fr.mono q19f (fun c k q => by unfold kF92 at q; unfold kMk; omega))
  refine e_Ok.nrm (q := 38) (st' := []) rfl rfl ?_
  refine e_Ok.ps1 (x := (1, 17 * a + 86)) (q := 39) 1 rfl ?_
  refine e_Ok.getr (z := cd) rfl (lA0 (a := a) rfl ga) rfl rfl ((q19f (17 * a + 86) 7 (by unfold kF92; omega)).trans (e_uq hw13 (Or.inr (by decide)) (e_uq hw10 (Or.inr (by decide)) (e_uq hw7 (Or.inl (e_neo (by decide))) (e_uq hw4 (Or.inl (e_neo (by decide))) (e_uq hw1 (Or.inr (by decide)) hc)))))) (by omega) ?_
  refine e_Ok.callV rfl (e_dq hd rfl) rfl (lD0 hcd) rfl rfl (c_20 q19T hcd) (fun r21 w22 h23 => ?_)
  obtain ⟨rfl, cf, cT, c0_, c1_, c2_⟩ := h23
  have f24 : e_fr (kMk a cd) w w22 := e_fr.trans f20 (e_fr.mono cf (fun c k q => by unfold kCl0 at q; unfold kMk; omega))
  refine e_Ok.nrm (q := 45) (st' := []) rfl rfl ?_
  refine e_Ok.ps1 (x := (1, 17 * a + 86)) (q := 46) 1 rfl ?_
  have kx : w22 (17 * a + 88) 0 = x := ((cf (17 * a + 88) 0 (by unfold kCl0; omega)).trans ((q19f (17 * a + 88) 0 (by unfold kF92; omega)).trans (e_uq hw13 (Or.inl (e_neo (by decide))) (e_uq hw10 (Or.inl (e_neo (by decide))) (e_uq hw7 (Or.inl (e_neo (by decide))) (e_ue hw4))))))
  have ky : w22 (17 * a + 89) 0 = y := ((cf (17 * a + 89) 0 (by unfold kCl0; omega)).trans ((q19f (17 * a + 89) 0 (by unfold kF92; omega)).trans (e_uq hw13 (Or.inl (e_neo (by decide))) (e_uq hw10 (Or.inl (e_neo (by decide))) (e_ue hw7)))))
  have k8 : w22 (17 * a + 86) 8 = 0 := ((cf (17 * a + 86) 8 (by unfold kCl0; omega)).trans ((q19f (17 * a + 86) 8 (by unfold kF92; omega)).trans (e_uq hw13 (Or.inr (by decide)) (e_uq hw10 (Or.inr (by decide)) (e_uq hw7 (Or.inl (e_neo (by decide))) (e_uq hw4 (Or.inl (e_neo (by decide))) (e_ue hw1)))))))
  refine e_Ok.callV rfl (e_dq hd rfl) rfl (lA0 (a := a) rfl ga) rfl rfl (c_3_k (e_dq hd rfl) (a := a) cT (by omega) (by unfold kn1; omega) (by unfold kn1; omega)) (fun r25 w26 h27 => ?_)
  obtain ⟨rfl, rf_, rT, ra_, -⟩ := h27
  have f28 : e_fr (kMk a cd) w w26 := e_fr.trans f24 (e_fr.mono rf_ (fun c k q => by unfold kAr at q; unfold kMk; omega))
  refine e_Ok.nrm (q := 49) (st' := []) rfl rfl ?_
  refine e_Ok.rets rfl rfl ?_
  exact ⟨rfl, f28, rT, fun k g1 g2 => (rf_ _ _ (by unfold kAr; omega)).trans ((cf _ _ (by unfold kCl0; omega)).trans (q19x k g1 g2))⟩
set_option maxHeartbeats 4000000 in
theorem c_193_s {d : Nat} (hd : 28 ≤ d) {w : eW} (hT : e_Has kTy w) (hO : 0 ≤ w 0 13 ∧ w 0 13 ≤ 1) {n cd : Int} (hn : w 0 11 = n) (hn3 : n ≤ 3) (hc : w (17 * n + 86) 7 = cd) (hcd : isCd cd) {x : Int} (g_x : (-2147483648) ≤ x ∧ x ≤ 2147483647) {y : Int} (g_y : (-2147483648) ≤ y ∧ y ≤ 2147483647) {u : Int} (g_u : (-2147483648) ≤ u ∧ u ≤ 2147483647) {v : Int} (g_v : (-2147483648) ≤ v ∧ v ≤ 2147483647) : e_Ok 20 elay kcode eI d 193 (0, [(0, (1, 0)), (1, (0, x)), (2, (0, y)), (3, (0, u)), (4, (0, v))], [], w) (fun r w' => ∃ z : Int, r = [(0, z)] ∧ (w' = w ∨ ∀ k, 0 ≤ k → k < 7 → w' (17 * n + 92) k = 0)) := by
  obtain ⟨d, rfl⟩ : ∃ e, d = e + 1 := ⟨d - 1, by omega⟩
  have hw0 := e_Has.get hT (c := 0) (k := 11) (lo := 0) (hi := 4) rfl (by decide)
  have hcd2 := hcd; unfold isCd at hcd2
  have hcd3 : 2 ≤ cd ∧ cd ≤ 145 := by omega
  refine e_Ok.ps3 (x := (0, 8000)) (y := (0, (-8000))) (z := (0, x)) (q := 7) 3 rfl ?_
  refine e_Ok.callS rfl (e_dq hd rfl) rfl rfl (c_242 (by omega) (by omega) (by omega)) (fun r1 w2 h3 => ?_)
  obtain ⟨z4, rfl, rfl, q5⟩ := h3
  obtain ⟨rfl, q5⟩ | ⟨rfl, q5⟩ := q5
  · refine e_Ok.nrm (q := 10) (st' := [(0, 1)]) rfl rfl ?_
    refine e_Ok.if1 rfl (fun h6 => ?_) (fun h6 => ?_)
    · replace h6 : (1 : Int) = 0 := h6
      exfalso; omega
    · replace h6 : (1 : Int) ≠ 0 := (show ¬ ((1 : Int) = 0) from h6)
      refine e_Ok.ps3 (x := (0, 8000)) (y := (0, (-8000))) (z := (0, y)) (q := 20) 3 rfl ?_
      refine e_Ok.callS rfl (e_dq hd rfl) rfl rfl (c_242 (by omega) (by omega) (by omega)) (fun r7 w8 h9 => ?_)
      obtain ⟨z10, rfl, rfl, q11⟩ := h9
      obtain ⟨rfl, q11⟩ | ⟨rfl, q11⟩ := q11
      · refine e_Ok.nrm (q := 23) (st' := [(0, 1)]) rfl rfl ?_
        refine e_Ok.if1 rfl (fun h12 => ?_) (fun h12 => ?_)
        · replace h12 : (1 : Int) ≠ 0 := h12
          refine e_Ok.ps3 (x := (0, 4095)) (y := (0, 0)) (z := (0, u)) (q := 33) 3 rfl ?_
          refine e_Ok.callS rfl (e_dq hd rfl) rfl rfl (c_242 (by omega) (by omega) (by omega)) (fun r13 w14 h15 => ?_)
          obtain ⟨z16, rfl, rfl, q17⟩ := h15
          obtain ⟨rfl, q17⟩ | ⟨rfl, q17⟩ := q17
          · refine e_Ok.nrm (q := 36) (st' := [(0, 1)]) rfl rfl ?_
            refine e_Ok.if1 rfl (fun h18 => ?_) (fun h18 => ?_)
            · replace h18 : (1 : Int) = 0 := h18
              exfalso; omega
            · replace h18 : (1 : Int) ≠ 0 := (show ¬ ((1 : Int) = 0) from h18)
              refine e_Ok.ps3 (x := (0, 800)) (y := (0, 0)) (z := (0, v)) (q := 45) 3 rfl ?_
              refine e_Ok.callS rfl (e_dq hd rfl) rfl rfl (c_242 (by omega) (by omega) (by omega)) (fun r19 w20 h21 => ?_)
              obtain ⟨z22, rfl, rfl, q23⟩ := h21
              obtain ⟨rfl, q23⟩ | ⟨rfl, q23⟩ := q23
              · refine e_Ok.nrm (q := 48) (st' := [(0, 1)]) rfl rfl ?_
                refine e_Ok.if1 rfl (fun h24 => ?_) (fun h24 => ?_)
                · replace h24 : (1 : Int) ≠ 0 := h24
                  refine e_Ok.ps1 (x := (1, 0)) (q := 54) 1 rfl ?_
                  refine e_Ok.getf (z := w 0 13) rfl (el_o rfl) rfl rfl rfl (by omega) ?_
                  refine e_Ok.if1 rfl (fun h25 => ?_) (fun h25 => ?_)
                  · replace h25 : (w 0 13 : Int) = 0 := h25
                    refine e_Ok.ps1 (x := (1, 0)) (q := 64) 1 rfl ?_
                    refine e_Ok.getf (z := n) rfl (el_o rfl) rfl rfl hn (by omega) ?_
                    refine e_Ok.ps1 (x := (0, 4)) (q := 68) 1 rfl ?_
                    refine e_Ok.if2 rfl (fun h26 => ?_) (fun h26 => ?_)
                    · replace h26 : (n : Int) < 4 := h26
                      refine e_Ok.ps1 (x := (1, 0)) (q := 75) 1 rfl ?_
                      refine e_Ok.getr (z := 9) rfl (el_o rfl) rfl rfl (Eq.trans (e_Has.eq hT rfl) (by omega)) ⟨by decide, by decide⟩ ?_
                      refine e_Ok.ps1 (x := (1, 0)) (q := 79) 1 rfl ?_
                      refine e_Ok.getf (z := n) rfl (el_o rfl) rfl rfl hn (by omega) ?_
                      refine e_Ok.aald (z := 17 * n + 86) rfl (el_o rfl) rfl (by omega) (Eq.trans (e_Has.eq hT (k9 (by omega))) (by omega)) (by omega) ?_
                      refine e_Ok.ps4 (x := (0, v)) (y := (0, u)) (z := (0, y)) (u := (0, x)) (q := 88) 4 rfl ?_
                      refine e_Ok.callV rfl (e_dq hd rfl) rfl (lA0 (a := n) (by omega) (by omega)) rfl rfl (c_1_s (e_dq hd rfl) (a := n) (cd := cd) hT (by omega) hc hcd (by omega) (by omega) (by omega) (by omega)) (fun r27 w28 h29 => ?_)
                      obtain ⟨rfl, mf, mT, m92⟩ := h29
                      have f30 : e_fr (kAa n cd) w w28 := e_fr.trans (e_fr.refl w) (e_fr.mono mf (fun c k q => by exact Or.inl q))
                      refine e_Ok.nrm (q := 91) (st' := []) rfl rfl ?_
                      refine e_Ok.ps2 (x := (1, 0)) (y := (1, 0)) (q := 93) 2 rfl ?_
                      refine e_Ok.getf (z := n) rfl (el_o rfl) rfl rfl ((mf 0 11 (by unfold kMk; omega)).trans hn) (by omega) ?_
                      refine e_Ok.ps1 (x := (0, 1)) (q := 97) 1 rfl ?_
                      refine e_Ok.add (z := n + 1) rfl rfl (by omega) ?_
                      refine e_Ok.putf rfl (el_o rfl) rfl rfl ?_
                      generalize hw31 : e_up w28 0 11 (n + 1) = w31
                      have f32 : e_fr (kAa n cd) w w31 := e_fr.up f30 hw31 (by unfold kAa kMk; omega)
                      have hT33 : e_Has kTy w31 := e_Has.upr mT hw31 rfl (by omega)
                      refine e_Ok.ps1 (x := (1, 0)) (q := 102) 1 rfl ?_
                      refine e_Ok.getf (z := n + 1) rfl (el_o rfl) rfl rfl (e_ue hw31) (by omega) ?_
                      refine e_Ok.ps1 (x := (0, 1)) (q := 106) 1 rfl ?_
                      refine e_Ok.sub' (z := n) rfl (by omega) (by omega) ?_
                      refine e_Ok.rets rfl rfl ?_
                      exact ⟨_, rfl, Or.inr (fun k g1 g2 => by rw [← hw31, e_up_ne _ _ (by omega)]; exact m92 k g1 g2)⟩
                    · replace h26 : (n : Int) ≥ 4 := Int.not_lt.mp (show ¬ ((n : Int) < 4) from h26)
                      exfalso; omega
                  · replace h25 : (w 0 13 : Int) ≠ 0 := (show ¬ ((w 0 13 : Int) = 0) from h25)
                    refine e_Ok.ps1 (x := (0, (-2))) (q := 62) 1 rfl ?_
                    refine e_Ok.rets rfl rfl ?_
                    exact ⟨_, rfl, Or.inl rfl⟩
                · replace h24 : (1 : Int) = 0 := Classical.not_not.mp (show ¬ ((1 : Int) ≠ 0) from h24)
                  exfalso; omega
              · refine e_Ok.nrm (q := 48) (st' := [(0, 0)]) rfl rfl ?_
                refine e_Ok.if1 rfl (fun h34 => ?_) (fun h34 => ?_)
                · replace h34 : (0 : Int) ≠ 0 := h34
                  exfalso; omega
                · replace h34 : (0 : Int) = 0 := Classical.not_not.mp (show ¬ ((0 : Int) ≠ 0) from h34)
                  refine e_Ok.ps1 (x := (0, (-1))) (q := 52) 1 rfl ?_
                  refine e_Ok.rets rfl rfl ?_
                  exact ⟨_, rfl, Or.inl rfl⟩
          · refine e_Ok.nrm (q := 36) (st' := [(0, 0)]) rfl rfl ?_
            refine e_Ok.if1 rfl (fun h35 => ?_) (fun h35 => ?_)
            · replace h35 : (0 : Int) = 0 := h35
              refine e_Ok.ps1 (x := (0, (-1))) (q := 52) 1 rfl ?_
              refine e_Ok.rets rfl rfl ?_
              exact ⟨_, rfl, Or.inl rfl⟩
            · replace h35 : (0 : Int) ≠ 0 := (show ¬ ((0 : Int) = 0) from h35)
              exfalso; omega
        · replace h12 : (1 : Int) = 0 := Classical.not_not.mp (show ¬ ((1 : Int) ≠ 0) from h12)
          exfalso; omega
      · refine e_Ok.nrm (q := 23) (st' := [(0, 0)]) rfl rfl ?_
        refine e_Ok.if1 rfl (fun h36 => ?_) (fun h36 => ?_)
        · replace h36 : (0 : Int) ≠ 0 := h36
          exfalso; omega
        · replace h36 : (0 : Int) = 0 := Classical.not_not.mp (show ¬ ((0 : Int) ≠ 0) from h36)
          refine e_Ok.ps1 (x := (0, (-1))) (q := 27) 1 rfl ?_
          refine e_Ok.rets rfl rfl ?_
          exact ⟨_, rfl, Or.inl rfl⟩
  · refine e_Ok.nrm (q := 10) (st' := [(0, 0)]) rfl rfl ?_
    refine e_Ok.if1 rfl (fun h37 => ?_) (fun h37 => ?_)
    · replace h37 : (0 : Int) = 0 := h37
      refine e_Ok.ps1 (x := (0, (-1))) (q := 27) 1 rfl ?_
      refine e_Ok.rets rfl rfl ?_
      exact ⟨_, rfl, Or.inl rfl⟩
    · replace h37 : (0 : Int) ≠ 0 := (show ¬ ((0 : Int) = 0) from h37)
      exfalso; omega
theorem kq_193s {d : Nat} (hd : 460 ≤ d) {w : eW} (q : kRel w) (hAl : kAl w) {x : Int} (g_x : (-2147483648 ≤ x ∧ x ≤ 2147483647)) {y : Int} (g_y : (-2147483648 ≤ y ∧ y ≤ 2147483647)) {u : Int} (g_u : (-2147483648 ≤ u ∧ u ≤ 2147483647)) {v : Int} (g_v : (-2147483648 ≤ v ∧ v ≤ 2147483647)) : e_Ok 20 elay kcode eI d 193 (0, [(0, (1, 0)), (1, (0, x)), (2, (0, y)), (3, (0, u)), (4, (0, v))], [], w) (fun r w' => w' = w ∨ ∀ k, 0 ≤ k → k < 7 → w' (17 * w 0 11 + 92) k = 0) := by
  have hw0 := e_Has.get q.1 (c := 0) (k := 11) (lo := 0) (hi := 4) rfl (by decide)
  by_cases hn : w 0 11 ≤ 3
  · refine (c_193_s (e_dq0 hd rfl) (n := w 0 11) (cd := w (17 * w 0 11 + 86) 7) q.1 q.2.2.1.1 rfl hn rfl (q.hC _ hw0.1 hn) g_x g_y g_u g_v).imp (fun r w' h => ?_)
    obtain ⟨z, h1, h2⟩ := h
    exact h2
  · refine (c_193_4 (e_dq0 hd rfl) q.1 q.2.2.1.1 (by omega) g_x g_y g_u g_v).imp (fun r w' h => ?_)
    obtain ⟨z, h1, rfl⟩ := h
    exact Or.inl rfl
end
