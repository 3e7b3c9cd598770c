noncomputable section
/-! helps for contracts: an instruction, a rule; what it leaves on the stack is named -/
section E36
variable {fd : Nat} {ft : Nat → Nat → Nat} {lay : List eY} {code : Nat → Nat → eE} {I : Nat → xM} {d M k tg nx a b p n ci : Nat} {l : eL} {r : List eV} {w : eW} {Q : List eV → eW → Prop}
theorem e_Ok.if2 {x y : Int} (hc : code M p = (0, ei_if2 k tg nx, a, b)) (ht : x_cnd k x y → e_Ok fd lay code I d M (tg, l, r, w) Q) (hf : ¬ x_cnd k x y → e_Ok fd lay code I d M (nx, l, r, w) Q) : e_Ok fd lay code I d M (p, l, (0, y) :: (0, x) :: r, w) Q := by
  by_cases h : x_cnd k x y
  · exact e_Ok.step hc (e_if2_t h) (ht h)
  · exact e_Ok.step hc (e_if2_f h) (hf h)
theorem e_Ok.if1 {x : Int} (hc : code M p = (0, ei_if1 k tg nx, a, b)) (ht : x_cnd k x 0 → e_Ok fd lay code I d M (tg, l, r, w) Q) (hf : ¬ x_cnd k x 0 → e_Ok fd lay code I d M (nx, l, r, w) Q) : e_Ok fd lay code I d M (p, l, (0, x) :: r, w) Q := by
  by_cases h : x_cnd k x 0
  · exact e_Ok.step hc (e_if1_t h) (ht h)
  · exact e_Ok.step hc (e_if1_f h) (hf h)
theorem e_okz_of {z : Int} (h : -2147483648 ≤ z ∧ z ≤ 2147483647) : e_okz z = true := by
  unfold e_okz
  simp [h.1, h.2]
/-- an int field is read -/
theorem e_Ok.getf {c z : Int} (hc : code M p = (0, ei_getf ft lay ci k nx, a, b)) (hl : lay[c.toNat]? = some (0, ci, n)) (hk : Nat.ble (k + 1) n = true) (hf : ft ci k = 0) (hz : w c k = z) (h1 : -2147483648 ≤ z ∧ z ≤ 2147483647) (h : e_Ok fd lay code I d M (nx, l, (0, z) :: r, w) Q) : e_Ok fd lay code I d M (p, l, (1, c) :: r, w) Q := by
  refine e_Ok.step hc ?_ h
  subst hz
  unfold ei_getf
  simp only [hl, Nat.beq_refl, hk, e_okz_of h1, Bool.and_self, cond_true, hf]
  rfl
/-- a field that holds a cell -/
theorem e_Ok.getr {c z : Int} (hc : code M p = (0, ei_getf ft lay ci k nx, a, b)) (hl : lay[c.toNat]? = some (0, ci, n)) (hk : Nat.ble (k + 1) n = true) (hf : ft ci k = 1) (hz : w c k = z) (h1 : 0 ≤ z ∧ z ≤ 2147483647) (h : e_Ok fd lay code I d M (nx, l, (1, z) :: r, w) Q) : e_Ok fd lay code I d M (p, l, (1, c) :: r, w) Q := by
  refine e_Ok.step hc ?_ h
  subst hz
  unfold ei_getf
  simp only [hl, Nat.beq_refl, hk, e_okz_of (show _ from ⟨by omega, h1.2⟩), Bool.and_self, cond_true, hf, e_rd]
  rw [decide_eq_false (by omega)]
  rfl
/-- an int field is written -/
theorem e_Ok.putf {c z : Int} (hc : code M p = (0, ei_putf ft lay ci k 0 nx, a, b)) (hl : lay[c.toNat]? = some (0, ci, n)) (hk : Nat.ble (k + 1) n = true) (hf : ft ci k = 0) (h : e_Ok fd lay code I d M (nx, l, r, e_up w c k z) Q) : e_Ok fd lay code I d M (p, l, (0, z) :: (1, c) :: r, w) Q := by
  refine e_Ok.step hc ?_ h
  unfold ei_putf
  simp only [hl, Nat.beq_refl, hk, hf, e_wr]
  rfl
/-- a boolean one -/
theorem e_Ok.putb {c z : Int} (hc : code M p = (0, ei_putf ft lay ci k 1 nx, a, b)) (hl : lay[c.toNat]? = some (0, ci, n)) (hk : Nat.ble (k + 1) n = true) (hf : ft ci k = 0) (hz : 0 ≤ z ∧ z ≤ 1) (h : e_Ok fd lay code I d M (nx, l, r, e_up w c k z) Q) : e_Ok fd lay code I d M (p, l, (0, z) :: (1, c) :: r, w) Q := by
  refine e_Ok.step hc ?_ h
  unfold ei_putf e_pk
  simp only [hl, Nat.beq_refl, hk, hf, e_wr, decide_eq_true hz.1, decide_eq_true hz.2, Bool.and_self, cond_true]
/-- a reference -/
theorem e_Ok.putr {c z : Int} (hc : code M p = (0, ei_putf ft lay ci k 2 nx, a, b)) (hl : lay[c.toNat]? = some (0, ci, n)) (hk : Nat.ble (k + 1) n = true) (hf : ft ci k = 1) (hz : 0 ≤ z) (h : e_Ok fd lay code I d M (nx, l, r, e_up w c k z) Q) : e_Ok fd lay code I d M (p, l, (1, z) :: (1, c) :: r, w) Q := by
  refine e_Ok.step hc ?_ h
  unfold ei_putf
  simp only [hl, Nat.beq_refl, hk, hf, e_wr, decide_eq_true hz, cond_true]
  rfl
/-- a place of an array is read -/
theorem e_Ok.ald {c i z : Int} {b' : Bool} {kd c' : Nat} (hc : code M p = (0, ei_ald lay b' nx, a, b)) (hl : lay[c.toNat]? = some (kd, c', n)) (hk : x_akd b' kd = true) (h0 : 0 ≤ i ∧ i < n) (hz : w c i = z) (h1 : -2147483648 ≤ z ∧ z ≤ 2147483647) (h : e_Ok fd lay code I d M (nx, l, (0, z) :: r, w) Q) : e_Ok fd lay code I d M (p, l, (0, i) :: (1, c) :: r, w) Q := by
  refine e_Ok.step hc ?_ h
  subst hz
  unfold ei_ald
  simp only [hl, hk, decide_eq_true h0.1, decide_eq_true h0.2, e_okz_of h1, Bool.and_self, cond_true]
theorem e_Ok.aald {c i z : Int} {kd c' : Nat} (hc : code M p = (0, ei_aald lay nx, a, b)) (hl : lay[c.toNat]? = some (kd, c', n)) (hk : (Nat.beq kd 5 || Nat.beq kd 6) = true) (h0 : 0 ≤ i ∧ i < n) (hz : w c i = z) (h1 : 0 ≤ z ∧ z ≤ 2147483647) (h : e_Ok fd lay code I d M (nx, l, (1, z) :: r, w) Q) : e_Ok fd lay code I d M (p, l, (0, i) :: (1, c) :: r, w) Q := by
  refine e_Ok.step hc ?_ h
  subst hz
  unfold ei_aald
  simp only [hl, hk, decide_eq_true h0.1, decide_eq_true h0.2, e_okz_of (show _ from ⟨by omega, h1.2⟩), Bool.and_self, cond_true, e_rd]
  rw [decide_eq_false (by omega)]
  rfl
/-- one is written -/
theorem e_Ok.ast {c i x z : Int} {b' : Bool} {kd c' : Nat} (hc : code M p = (0, ei_ast lay b' nx, a, b)) (hl : lay[c.toNat]? = some (kd, c', n)) (hk : x_akd b' kd = true) (hz : e_nar kd x = some z) (h0 : 0 ≤ i ∧ i < n) (h : e_Ok fd lay code I d M (nx, l, r, e_up w c i z) Q) : e_Ok fd lay code I d M (p, l, (0, x) :: (0, i) :: (1, c) :: r, w) Q := by
  refine e_Ok.step hc ?_ h
  unfold ei_ast
  simp only [hl, hz, hk, decide_eq_true h0.1, decide_eq_true h0.2, Bool.and_self, cond_true]
theorem e_nar_b {z : Int} (h : 0 ≤ z ∧ z ≤ 1) : e_nar 3 z = some z := by
  unfold e_nar
  simp [h.1, h.2]
/-- sums and the like that stay in their bounds -/
theorem e_Ok.add {x y z : Int} (hc : code M p = (0, ei_bin eF_add nx, a, b)) (hz : x + y = z) (h1 : -2147483648 ≤ z ∧ z ≤ 2147483647) (h : e_Ok fd lay code I d M (nx, l, (0, z) :: r, w) Q) : e_Ok fd lay code I d M (p, l, (0, y) :: (0, x) :: r, w) Q := by
  refine e_Ok.step hc ?_ h
  show some _ = some _
  rw [hz, e32_id h1.1 h1.2]
theorem e_Ok.sub' {x y z : Int} (hc : code M p = (0, ei_bin eF_sub nx, a, b)) (hz : x - y = z) (h1 : -2147483648 ≤ z ∧ z ≤ 2147483647) (h : e_Ok fd lay code I d M (nx, l, (0, z) :: r, w) Q) : e_Ok fd lay code I d M (p, l, (0, y) :: (0, x) :: r, w) Q := by
  refine e_Ok.step hc ?_ h
  show some _ = some _
  rw [hz, e32_id h1.1 h1.2]
theorem e_Ok.mul {x y z : Int} (hc : code M p = (0, ei_bin eF_mul nx, a, b)) (hz : x * y = z) (h1 : -2147483648 ≤ z ∧ z ≤ 2147483647) (h : e_Ok fd lay code I d M (nx, l, (0, z) :: r, w) Q) : e_Ok fd lay code I d M (p, l, (0, y) :: (0, x) :: r, w) Q := by
  refine e_Ok.step hc ?_ h
  show some _ = some _
  rw [hz, e32_id h1.1 h1.2]
/-- an int comes, nothing more is known than that -/
theorem e32_in (z : Int) : -2147483648 ≤ e32 z ∧ e32 z ≤ 2147483647 := by
  unfold e32
  have h1 := Int.le_bmod (x := z) (m := 4294967296) (by decide)
  have h2 := Int.bmod_lt (x := z) (m := 4294967296) (by decide)
  constructor <;> omega
theorem e_Ok.any {F : Int → Int → Option Int} {x y : Int} (hc : code M p = (0, ei_bin F nx, a, b)) (hF : ∃ z, F x y = some z ∧ -2147483648 ≤ z ∧ z ≤ 2147483647) (h : ∀ z, -2147483648 ≤ z → z ≤ 2147483647 → e_Ok fd lay code I d M (nx, l, (0, z) :: r, w) Q) : e_Ok fd lay code I d M (p, l, (0, y) :: (0, x) :: r, w) Q := by
  obtain ⟨z, h1, h2, h3⟩ := hF
  refine e_Ok.step hc ?_ (h z h2 h3)
  show (match F x y with | some z => _ | none => none) = _
  rw [h1]
theorem eF_add_any (x y : Int) : ∃ z, eF_add x y = some z ∧ -2147483648 ≤ z ∧ z ≤ 2147483647 := ⟨_, rfl, e32_in _⟩
theorem eF_sub_any (x y : Int) : ∃ z, eF_sub x y = some z ∧ -2147483648 ≤ z ∧ z ≤ 2147483647 := ⟨_, rfl, e32_in _⟩
theorem eF_mul_any (x y : Int) : ∃ z, eF_mul x y = some z ∧ -2147483648 ≤ z ∧ z ≤ 2147483647 := ⟨_, rfl, e32_in _⟩
theorem eF_div_any {x y : Int} (h : y ≠ 0) : ∃ z, eF_div x y = some z ∧ -2147483648 ≤ z ∧ z ≤ 2147483647 := ⟨e32 (x.tdiv y), by unfold eF_div; rw [decide_eq_false h]; rfl, e32_in _⟩
theorem eF_rem_any {x y : Int} (h : y ≠ 0) : ∃ z, eF_rem x y = some z ∧ -2147483648 ≤ z ∧ z ≤ 2147483647 := ⟨_, by unfold eF_rem; rw [decide_eq_false h]; rfl, e32_in _⟩
theorem eB_any {g : Int32 → Int32 → Int32} (x y : Int) : ∃ z, eB g x y = some z ∧ -2147483648 ≤ z ∧ z ≤ 2147483647 := ⟨_, rfl, Int32.le_toInt _, Int32.toInt_le _⟩
/-- longs: nothing is known -/
theorem e_Ok.anyL {F : Int → Int → Option eV} {x y : Int} (hc : code M p = (0, ei_binL F nx, a, b)) (hF : ∃ z, F x y = some (4, z)) (h : ∀ z, e_Ok fd lay code I d M (nx, l, (4, z) :: r, w) Q) : e_Ok fd lay code I d M (p, l, (4, y) :: (4, x) :: r, w) Q := by
  obtain ⟨z, h1⟩ := hF
  refine e_Ok.step hc ?_ (h z)
  show (match F x y with | some z => _ | none => none) = _
  rw [h1]
theorem e_Ok.anyS {F : Int → Int → Option Int} {x y : Int} (hc : code M p = (0, ei_shL F nx, a, b)) (hF : ∃ z, F x y = some z) (h : ∀ z, e_Ok fd lay code I d M (nx, l, (4, z) :: r, w) Q) : e_Ok fd lay code I d M (p, l, (0, y) :: (4, x) :: r, w) Q := by
  obtain ⟨z, h1⟩ := hF
  refine e_Ok.step hc ?_ (h z)
  show (match F x y with | some z => _ | none => none) = _
  rw [h1]
/-- two longs compared: -1, 0 or 1 -/
theorem e_Ok.lcmp {x y : Int} (hc : code M p = (0, ei_binL eG_cmp nx, a, b)) (h : ∀ z : Int, (x < y → z = -1) → (x = y → z = 0) → (y < x → z = 1) → e_Ok fd lay code I d M (nx, l, (0, z) :: r, w) Q) : e_Ok fd lay code I d M (p, l, (4, y) :: (4, x) :: r, w) Q := by
  refine e_Ok.step hc rfl (h _ (fun q => ?_) (fun q => ?_) (fun q => ?_))
  · rw [decide_eq_true q]; rfl
  · rw [decide_eq_false (by omega), decide_eq_true q]; rfl
  · rw [decide_eq_false (by omega), decide_eq_false (by omega)]; rfl
/-- a local counts on -/
theorem e_Ok.inc {i : Nat} {n' x z : Int} (hc : code M p = (0, ei_inc i n' nx, a, b)) (hx : e_find l i = some (0, x)) (hz : x + n' = z) (h1 : -2147483648 ≤ z ∧ z ≤ 2147483647) (h : e_Ok fd lay code I d M (nx, (i, (0, z)) :: l.filter (e_flt 0 i), r, w) Q) : e_Ok fd lay code I d M (p, l, r, w) Q := by
  refine e_Ok.step hc ?_ h
  unfold ei_inc
  simp only [hx]
  rw [hz, e32_id h1.1 h1.2]
end E36
end
