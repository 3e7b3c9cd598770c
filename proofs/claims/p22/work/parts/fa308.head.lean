noncomputable section
/-! the model: tokens exactly -/
theorem wst_kyp : e_wst.all (fun x => decide (kyk x.2.1 = 32 ∧ (kyp x.2.1).1 = x.2.2 ∧ (kyp x.2.1).2 = x.2.1 - x.1)) = true := by decide +kernel
theorem wst_k {a b k : Int} (h : (a, b, k) ∈ e_wst) : kyk b = 32 ∧ (kyp b).1 = k ∧ (kyp b).2 = b - a := by
  have q := List.all_eq_true.mp wst_kyp _ h
  exact of_decide_eq_true q
/-- keyword k (from y2 to its space e2) against the word from t to e: as far as they are the same -/
theorem kwd_of {T : Int → Int} {t e y2 e2 k : Int} (h : (y2, e2, k) ∈ e_wst) (hl : e2 - y2 = e - t) (hc : ∀ j, 0 ≤ j → j < e2 - y2 → T (t + j) = kyc (y2 + j)) : kwd T t e k := by
  obtain ⟨k1, k2, k3⟩ := wst_k h
  have w := (ws_f h).1
  refine ⟨e2, by omega, k1, k2, by omega, fun j g1 g2 => ?_⟩
  rw [hc j g1 (by omega), show e2 - (e - t) + j = y2 + j by omega]
  rfl
theorem kwd_to {T : Int → Int} {t e y2 e2 k : Int} (h : (y2, e2, k) ∈ e_wst) (q : kwd T t e k) : e2 - y2 = e - t ∧ ∀ j, 0 ≤ j → j < e2 - y2 → T (t + j) = kyc (y2 + j) := by
  obtain ⟨k1, k2, k3⟩ := wst_k h
  have w := (ws_f h).1
  obtain ⟨p, p0, p1, p2, p3, p4⟩ := q
  have ep : p = e2 := kyp_u p0 (by omega) p1 k1 (by omega)
  subst ep
  refine ⟨by omega, fun j g1 g2 => ?_⟩
  rw [p4 j g1 (by omega), show p - (e - t) + j = y2 + j by omega]
  rfl
theorem kyc_p0 : ∀ i : Nat, i < 171 → 32 ≤ kyc (i : Int) ∧ kyc (i : Int) ≤ 122 := by decide +kernel
theorem kyc_p {i : Int} (h : 0 ≤ i ∧ i ≤ 170) : 32 ≤ kyc i ∧ kyc i ≤ 122 := by
  have q := kyc_p0 i.toNat (by omega)
  rw [show ((i.toNat : Nat) : Int) = i by omega] at q
  exact q
theorem wst_l0 : e_wst.all (fun x => decide (x.2.1 = 170 → x.2.2 = 32)) = true := by decide +kernel
theorem wst_l {a b k : Int} (h : (a, b, k) ∈ e_wst) (e : b = 170) : k = 32 := of_decide_eq_true (List.all_eq_true.mp wst_l0 _ h) e
end
