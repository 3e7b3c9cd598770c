noncomputable section
/-! the same of calls that the machine knows, of stack instructions -/
section E35b
variable {ft : Nat → Nat → Nat} {lay : List eY}
theorem nx_m2 {F : Int → Int → Int} {nx : Nat} : e_NI lay (ei_m2 F nx) ∧ e_IN ft lay (ei_m2 F nx) := ⟨ni_m2, fun _ B _ t t' ht hI => by
  obtain ⟨p, l, st, w⟩ := t
  unfold ei_m2 at ht
  simp only at ht
  split at ht
  · rename_i y x r
    cases hb : Nat.ble (e_cats r) 8 with
    | false => rw [hb] at ht; cases ht
    | true =>
      rw [hb] at ht
      cases ht
      refine hI.same (fun v hv => ?_)
      rcases List.mem_cons.mp hv with rfl | hv
      · exact Or.inr (Or.inl (show (0 : Nat) ≠ 1 by decide))
      · exact Or.inl (List.mem_cons_of_mem _ (List.mem_cons_of_mem _ (hv)))
  · cases ht⟩
theorem nx_abs {nx : Nat} : e_NI lay (ei_abs nx) ∧ e_IN ft lay (ei_abs nx) := ⟨ni_abs, fun _ B _ t t' ht hI => by
  obtain ⟨p, l, st, w⟩ := t
  unfold ei_abs at ht
  simp only at ht
  split at ht
  · rename_i x r
    cases hb : Nat.ble (e_cats r) 8 with
    | false => rw [hb] at ht; cases ht
    | true =>
      rw [hb] at ht
      cases ht
      refine hI.same (fun v hv => ?_)
      rcases List.mem_cons.mp hv with rfl | hv
      · exact Or.inr (Or.inl (show (0 : Nat) ≠ 1 by decide))
      · exact Or.inl (List.mem_cons_of_mem _ (hv))
  · cases ht⟩
theorem nx_null {tg nx : Nat} : e_NI lay (ei_null tg nx) ∧ e_IN ft lay (ei_null tg nx) := ⟨ni_null, fun _ B _ t t' ht hI => by
  obtain ⟨p, l, st, w⟩ := t
  unfold ei_null at ht
  simp only at ht
  split at ht
  · cases ht
    exact hI.same (fun v hv => Or.inl (List.mem_cons_of_mem _ hv))
  · cases ht
    exact hI.same (fun v hv => Or.inl (List.mem_cons_of_mem _ hv))
  · cases ht⟩
theorem bG_ladd : ∀ x y z, eG_add x y = some z → z.1 ≠ 1 := fun x y z h => by cases h; exact (show (4 : Nat) ≠ 1 by decide)
theorem bG_lsub : ∀ x y z, eG_sub x y = some z → z.1 ≠ 1 := fun x y z h => by cases h; exact (show (4 : Nat) ≠ 1 by decide)
theorem bG_lmul : ∀ x y z, eG_mul x y = some z → z.1 ≠ 1 := fun x y z h => by cases h; exact (show (4 : Nat) ≠ 1 by decide)
theorem bG_land : ∀ x y z, eG_and x y = some z → z.1 ≠ 1 := fun x y z h => by cases h; exact (show (4 : Nat) ≠ 1 by decide)
theorem bG_lcmp : ∀ x y z, eG_cmp x y = some z → z.1 ≠ 1 := fun x y z h => by cases h; exact (show (0 : Nat) ≠ 1 by decide)
theorem bG_ldiv : ∀ x y z, eG_div x y = some z → z.1 ≠ 1 := fun x y z h => by
  unfold eG_div at h
  cases hb : decide (y = 0) with
  | true => rw [hb] at h; cases h
  | false => rw [hb] at h; cases h; exact (show (4 : Nat) ≠ 1 by decide)
theorem bf_dup : ∀ st s, ef_dup st = some s → ∀ x ∈ s, x ∈ st := fun st s h x hx => by
  unfold ef_dup at h
  split at h
  · rename_i a r
    cases hb : (Nat.beq (e_ty a) 1) with
    | true => rw [hb] at h; cases h
    | false =>
      rw [hb] at h
      cases h
      simp only [List.mem_cons] at hx ⊢
      rcases hx with h | h | h
      · exact Or.inl h
      · exact Or.inl h
      · exact Or.inr h
  · cases h
theorem bf_pop : ∀ st s, ef_pop st = some s → ∀ x ∈ s, x ∈ st := fun st s h x hx => by
  unfold ef_pop at h
  split at h
  · rename_i a r
    cases hb : Nat.beq (e_ty a) 1 with
    | true => rw [hb] at h; cases h
    | false =>
      rw [hb] at h
      cases h
      exact List.mem_cons_of_mem _ hx
  · cases h
theorem bf_dup2 : ∀ st s, ef_dup2 st = some s → ∀ x ∈ s, x ∈ st := fun st s h x hx => by
  unfold ef_dup2 at h
  split at h
  · rename_i a b r
    cases hb : (Nat.beq (e_ty a) 1 || Nat.beq (e_ty b) 1) with
    | true => rw [hb] at h; cases h
    | false =>
      rw [hb] at h
      cases h
      simp only [List.mem_cons] at hx ⊢
      rcases hx with h | h | h | h | h
      · exact Or.inl h
      · exact Or.inr (Or.inl h)
      · exact Or.inl h
      · exact Or.inr (Or.inl h)
      · exact Or.inr (Or.inr h)
  · cases h
theorem bf_dupx1 : ∀ st s, ef_dupx1 st = some s → ∀ x ∈ s, x ∈ st := fun st s h x hx => by
  unfold ef_dupx1 at h
  split at h
  · rename_i a b r
    cases hb : (Nat.beq (e_ty a) 1 || Nat.beq (e_ty b) 1) with
    | true => rw [hb] at h; cases h
    | false =>
      rw [hb] at h
      cases h
      simp only [List.mem_cons] at hx ⊢
      rcases hx with h | h | h | h
      · exact Or.inl h
      · exact Or.inr (Or.inl h)
      · exact Or.inl h
      · exact Or.inr (Or.inr h)
  · cases h
theorem bf_dupx2 : ∀ st s, ef_dupx2 st = some s → ∀ x ∈ s, x ∈ st := fun st s h x hx => by
  unfold ef_dupx2 at h
  split at h
  · rename_i a b c r
    cases hb : (Nat.beq (e_ty a) 1 || (Nat.beq (e_ty b) 1 || Nat.beq (e_ty c) 1)) with
    | true => rw [hb] at h; cases h
    | false =>
      rw [hb] at h
      cases h
      simp only [List.mem_cons] at hx ⊢
      rcases hx with h | h | h | h | h
      · exact Or.inl h
      · exact Or.inr (Or.inl h)
      · exact Or.inr (Or.inr (Or.inl h))
      · exact Or.inl h
      · exact Or.inr (Or.inr (Or.inr h))
  · cases h
end E35b
end
