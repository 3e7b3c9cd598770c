noncomputable section
/-! shifts by a constant, and an or that adds -/
theorem e_shr32 {x : Int} (k : Nat) (hk : ((Int32.ofInt k &&& 31).toBitVec.smod 32).toNat = k) (hx : -2147483648 ≤ x ∧ x ≤ 2147483647) : (Int32.ofInt x >>> (Int32.ofInt k &&& 31)).toInt = x / 2 ^ k := by
  show ((Int32.ofInt x).toBitVec.sshiftRight ((Int32.ofInt k &&& 31).toBitVec.smod 32).toNat).toInt = _
  rw [hk, BitVec.toInt_sshiftRight, Int.shiftRight_eq_div_pow]
  have e : (Int32.ofInt x).toBitVec.toInt = x := by
    show (BitVec.ofInt 32 x).toInt = x
    rw [BitVec.toInt_ofInt]
    exact x_bmod hx.1 hx.2
  rw [e]
  norm_cast
theorem e_or32 {a b : Nat} (k : Nat) (hb : b < 2 ^ k) (hx : 2 ^ k * a + b < 2147483648) : (Int32.ofInt ((2 ^ k * a : Nat) : Int) ||| Int32.ofInt (b : Int)).toInt = ((2 ^ k * a + b : Nat) : Int) := by
  show ((BitVec.ofInt 32 ((2 ^ k * a : Nat) : Int)) ||| (BitVec.ofInt 32 (b : Int))).toInt = _
  rw [BitVec.ofInt_natCast, BitVec.ofInt_natCast]
  have e : (BitVec.ofNat 32 (2 ^ k * a) ||| BitVec.ofNat 32 b).toNat = 2 ^ k * a + b := by
    rw [BitVec.toNat_or, BitVec.toNat_ofNat, BitVec.toNat_ofNat, Nat.mod_eq_of_lt (by omega), Nat.mod_eq_of_lt (by omega), ← Nat.two_pow_add_eq_or_of_lt hb]
  rw [BitVec.toInt_eq_toNat_of_lt (by rw [e]; omega), e]
theorem e_shl32 {a : Nat} (k : Nat) (hk : ((Int32.ofInt k &&& 31).toBitVec.smod 32).toNat = k) (hx : a * 2 ^ k < 2147483648) : (Int32.ofInt (a : Int) <<< (Int32.ofInt k &&& 31)).toInt = ((a * 2 ^ k : Nat) : Int) := by
  show ((BitVec.ofInt 32 (a : Int)) <<< ((Int32.ofInt k &&& 31).toBitVec.smod 32)).toInt = _
  rw [BitVec.shiftLeft_eq', hk, BitVec.ofInt_natCast]
  have ha : a < 2147483648 := Nat.lt_of_le_of_lt (Nat.le_mul_of_pos_right a (Nat.pow_pos (by decide))) hx
  have e : (BitVec.ofNat 32 a <<< k).toNat = a * 2 ^ k := by
    rw [BitVec.toNat_shiftLeft, BitVec.toNat_ofNat, Nat.mod_eq_of_lt (show a < 2 ^ 32 by omega), Nat.shiftLeft_eq, Nat.mod_eq_of_lt (by omega)]
  rw [BitVec.toInt_eq_toNat_of_lt (by rw [e]; omega), e]
section K5
variable {fd : Nat} {lay : List eY} {code : Nat → Nat → eE} {I : Nat → xM} {d M nx a b p : Nat} {l : eL} {r : List eV} {w : eW} {Q : List eV → eW → Prop}
theorem e_Ok.shr6 {x : Int} (hc : code M p = (0, ei_bin (eB (fun x y => x >>> (y &&& 31))) nx, a, b)) (hx : -2147483648 ≤ x ∧ x ≤ 2147483647) (h : ∀ z, z = x / 64 → e_Ok fd lay code I d M (nx, l, (0, z) :: r, w) Q) : e_Ok fd lay code I d M (p, l, (0, 6) :: (0, x) :: r, w) Q := by
  refine e_Ok.step hc ?_ (h _ rfl)
  show some (nx, l, (0, (Int32.ofInt x >>> (Int32.ofInt 6 &&& 31)).toInt) :: r, w) = _
  rw [show (Int32.ofInt 6) = Int32.ofInt ((6 : Nat) : Int) from rfl, e_shr32 6 (by decide) hx]
  rfl
theorem e_Ok.shr2 {x : Int} (hc : code M p = (0, ei_bin (eB (fun x y => x >>> (y &&& 31))) nx, a, b)) (hx : -2147483648 ≤ x ∧ x ≤ 2147483647) (h : ∀ z, z = x / 4 → e_Ok fd lay code I d M (nx, l, (0, z) :: r, w) Q) : e_Ok fd lay code I d M (p, l, (0, 2) :: (0, x) :: r, w) Q := by
  refine e_Ok.step hc ?_ (h _ rfl)
  show some (nx, l, (0, (Int32.ofInt x >>> (Int32.ofInt 2 &&& 31)).toInt) :: r, w) = _
  rw [show (Int32.ofInt 2) = Int32.ofInt ((2 : Nat) : Int) from rfl, e_shr32 2 (by decide) hx]
  rfl
theorem e_Ok.shr16 {x : Int} (hc : code M p = (0, ei_bin (eB (fun x y => x >>> (y &&& 31))) nx, a, b)) (hx : -2147483648 ≤ x ∧ x ≤ 2147483647) (h : ∀ z, z = x / 65536 → e_Ok fd lay code I d M (nx, l, (0, z) :: r, w) Q) : e_Ok fd lay code I d M (p, l, (0, 16) :: (0, x) :: r, w) Q := by
  refine e_Ok.step hc ?_ (h _ rfl)
  show some (nx, l, (0, (Int32.ofInt x >>> (Int32.ofInt 16 &&& 31)).toInt) :: r, w) = _
  rw [show (Int32.ofInt 16) = Int32.ofInt ((16 : Nat) : Int) from rfl, e_shr32 16 (by decide) hx]
  rfl
theorem e_Ok.shl6 {x : Int} (hc : code M p = (0, ei_bin (eB (fun x y => x <<< (y &&& 31))) nx, a, b)) (hx : 0 ≤ x ∧ x < 33554432) (h : ∀ z, z = x * 64 → e_Ok fd lay code I d M (nx, l, (0, z) :: r, w) Q) : e_Ok fd lay code I d M (p, l, (0, 6) :: (0, x) :: r, w) Q := by
  refine e_Ok.step hc ?_ (h _ rfl)
  show some (nx, l, (0, (Int32.ofInt x <<< (Int32.ofInt 6 &&& 31)).toInt) :: r, w) = _
  obtain ⟨n, rfl⟩ : ∃ n : Nat, x = n := ⟨x.toNat, by omega⟩
  rw [show (Int32.ofInt 6) = Int32.ofInt ((6 : Nat) : Int) from rfl, e_shl32 6 (by decide) (by omega)]
  rfl
theorem e_Ok.shl2 {x : Int} (hc : code M p = (0, ei_bin (eB (fun x y => x <<< (y &&& 31))) nx, a, b)) (hx : 0 ≤ x ∧ x < 33554432) (h : ∀ z, z = x * 4 → e_Ok fd lay code I d M (nx, l, (0, z) :: r, w) Q) : e_Ok fd lay code I d M (p, l, (0, 2) :: (0, x) :: r, w) Q := by
  refine e_Ok.step hc ?_ (h _ rfl)
  show some (nx, l, (0, (Int32.ofInt x <<< (Int32.ofInt 2 &&& 31)).toInt) :: r, w) = _
  obtain ⟨n, rfl⟩ : ∃ n : Nat, x = n := ⟨x.toNat, by omega⟩
  rw [show (Int32.ofInt 2) = Int32.ofInt ((2 : Nat) : Int) from rfl, e_shl32 2 (by decide) (by omega)]
  rfl
/-- x is a multiple of 64, y is below -/
theorem e_Ok.or6 {x y : Int} (hc : code M p = (0, ei_bin (eB (fun x y => x ||| y)) nx, a, b)) (hx : 0 ≤ x ∧ x ≤ 2147483647 ∧ x % 64 = 0) (hy : 0 ≤ y ∧ y < 64) (h : ∀ z, z = x + y → e_Ok fd lay code I d M (nx, l, (0, z) :: r, w) Q) : e_Ok fd lay code I d M (p, l, (0, y) :: (0, x) :: r, w) Q := by
  refine e_Ok.step hc ?_ (h _ rfl)
  show some (nx, l, (0, (Int32.ofInt x ||| Int32.ofInt y).toInt) :: r, w) = _
  obtain ⟨m, rfl⟩ : ∃ m : Nat, x = ((2 ^ 6 * m : Nat) : Int) := ⟨(x / 64).toNat, by omega⟩
  obtain ⟨n, rfl⟩ : ∃ n : Nat, y = n := ⟨y.toNat, by omega⟩
  rw [e_or32 6 (by omega) (by omega)]
  rfl
/-- y is a multiple of 4, x is below -/
theorem e_Ok.or2 {x y : Int} (hc : code M p = (0, ei_bin (eB (fun x y => x ||| y)) nx, a, b)) (hy : 0 ≤ y ∧ y ≤ 2147483647 ∧ y % 4 = 0) (hx : 0 ≤ x ∧ x < 4) (h : ∀ z, z = x + y → e_Ok fd lay code I d M (nx, l, (0, z) :: r, w) Q) : e_Ok fd lay code I d M (p, l, (0, y) :: (0, x) :: r, w) Q := by
  refine e_Ok.step hc ?_ (h _ rfl)
  show some (nx, l, (0, (Int32.ofInt x ||| Int32.ofInt y).toInt) :: r, w) = _
  obtain ⟨m, rfl⟩ : ∃ m : Nat, y = ((2 ^ 2 * m : Nat) : Int) := ⟨(y / 4).toNat, by omega⟩
  obtain ⟨n, rfl⟩ : ∃ n : Nat, x = n := ⟨x.toNat, by omega⟩
  rw [show (Int32.ofInt (n : Int) ||| Int32.ofInt ((2 ^ 2 * m : Nat) : Int)) = (Int32.ofInt ((2 ^ 2 * m : Nat) : Int) ||| Int32.ofInt (n : Int)) from Int32.or_comm _ _, e_or32 2 (by omega) (by omega), Nat.add_comm]
  rfl
end K5
end
