noncomputable section
/-! the table with macros and texts may be trusted -/
theorem e_TCc {R : Nat → Prop} {k : Nat} {a b a' b' : Nat → Nat → eE} (ha : ∀ M, R M ∧ M ≤ k → a M = a' M) (hb : ∀ M, R M ∧ k < M → b M = b' M) : ∀ M, R M → e_TC k a b M = e_TC k a' b' M := fun M h => by
  unfold e_TC
  cases hk : Nat.ble M k with
  | true => exact ha M ⟨h, Nat.le_of_ble_eq_true hk⟩
  | false => exact hb M ⟨h, Nat.lt_of_not_le (fun q => by rw [Nat.ble_eq_true_of_le q] at hk; cases hk)⟩
theorem ec_off : ∀ M, (M ≠ 126 ∧ M ≠ 127 ∧ M ≠ 128 ∧ M ≠ 249 ∧ M ≠ 328 ∧ M ≠ 389 ∧ M ≠ 403) → ecode M = ecode0 M := by
  unfold ecode ecode0
  exact (e_TCc (k := 225) (e_TCc (k := 112) (fun _ _ => rfl) (e_TCc (k := 168) (e_TCc (k := 140) (e_TCc (k := 126) (e_TCc (k := 119) (fun _ _ => rfl) (e_TCc (k := 122) (fun _ _ => rfl) (e_TCc (k := 124) (fun _ _ => rfl) (e_TCc (k := 125) (fun _ _ => rfl) (fun M h => by exfalso; omega))))) (e_TCc (k := 133) (e_TCc (k := 129) (e_TCc (k := 127) (fun M h => by exfalso; omega) (e_TCc (k := 128) (fun M h => by exfalso; omega) (fun _ _ => rfl))) (fun _ _ => rfl)) (fun _ _ => rfl))) (fun _ _ => rfl)) (fun _ _ => rfl))) (e_TCc (k := 338) (e_TCc (k := 281) (e_TCc (k := 253) (e_TCc (k := 239) (fun _ _ => rfl) (e_TCc (k := 246) (fun _ _ => rfl) (e_TCc (k := 249) (e_TCc (k := 247) (fun _ _ => rfl) (e_TCc (k := 248) (fun _ _ => rfl) (fun M h => by exfalso; omega))) (fun _ _ => rfl)))) (fun _ _ => rfl)) (e_TCc (k := 309) (fun _ _ => rfl) (e_TCc (k := 323) (fun _ _ => rfl) (e_TCc (k := 330) (e_TCc (k := 326) (fun _ _ => rfl) (e_TCc (k := 328) (e_TCc (k := 327) (fun _ _ => rfl) (fun M h => by exfalso; omega)) (fun _ _ => rfl))) (fun _ _ => rfl))))) (e_TCc (k := 395) (e_TCc (k := 366) (fun _ _ => rfl) (e_TCc (k := 380) (fun _ _ => rfl) (e_TCc (k := 387) (fun _ _ => rfl) (e_TCc (k := 391) (e_TCc (k := 389) (e_TCc (k := 388) (fun _ _ => rfl) (fun M h => by exfalso; omega)) (fun _ _ => rfl)) (fun _ _ => rfl))))) (e_TCc (k := 423) (e_TCc (k := 409) (e_TCc (k := 402) (fun _ _ => rfl) (e_TCc (k := 405) (e_TCc (k := 403) (fun M h => by exfalso; omega) (fun _ _ => rfl)) (fun _ _ => rfl))) (fun _ _ => rfl)) (fun _ _ => rfl)))))
theorem ec_R {l : Launch} (M pc : Nat) : e_EOR 20 eft cls elay eI (eI M) l pc (ecode M pc) := by
  by_cases h126 : M = 126
  · subst h126
    exact (show e_EOR 20 eft cls elay eI n_126 l pc (te_126m pc) from te_126m_R pc)
  by_cases h127 : M = 127
  · subst h127
    exact (show e_EOR 20 eft cls elay eI n_127 l pc (te_127m pc) from te_127m_R pc)
  by_cases h128 : M = 128
  · subst h128
    exact (show e_EOR 20 eft cls elay eI n_128 l pc (te_128m pc) from te_128m_R pc)
  by_cases h249 : M = 249
  · subst h249
    exact (show e_EOR 20 eft cls elay eI n_249 l pc (te_249m pc) from e_EOR.of (te_249m_ok pc))
  by_cases h328 : M = 328
  · subst h328
    exact (show e_EOR 20 eft cls elay eI n_328 l pc (te_328m pc) from te_328m_R pc)
  by_cases h389 : M = 389
  · subst h389
    exact (show e_EOR 20 eft cls elay eI n_389 l pc (te_389m pc) from e_orb (Or.inr (mac_389 code1_tab)) (e_EOR.of (te_389_ok pc)))
  by_cases h403 : M = 403
  · subst h403
    exact (show e_EOR 20 eft cls elay eI n_403 l pc (te_403m pc) from e_orb (Or.inr mac_403) (e_EOR.of (te_403_ok pc)))
  rw [ec_off M ⟨h126, h127, h128, h249, h328, h389, h403⟩]
  exact e_EOR.of (e_tr_ok M pc)
theorem ec_tabR {l : Launch} : e_TabR 20 eft cls elay eI ecode l := ⟨by decide, ec_R, e_tab0.2.2.1, e_tab0.2.2.2⟩
end
