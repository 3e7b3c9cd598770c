noncomputable section
/-! what a tick may write; and but for the arms' values and points -/
def kNw (c k : Int) : Prop := (c = 74 ∧ k ≠ 2) ∨ (c = 75) ∨ (78 ≤ c ∧ c ≤ 81) ∨ (83 ≤ c ∧ c ≤ 85) ∨ (c = 8 ∧ 8 ≤ k) ∨ (11 ≤ c ∧ c ≤ 14) ∨ (c = 16) ∨ (31 ≤ c ∧ c ≤ 37) ∨ (39 ≤ c ∧ c ≤ 40) ∨ (154 ≤ c ∧ c ≤ 249) ∨ (c = 250 ∧ 13 ≤ k) ∨ (c = 274) ∨ (c = 272) ∨ ((c = 86 ∨ c = 103 ∨ c = 120 ∨ c = 137) ∧ 11 ≤ k) ∨ (((c = 88 ∨ c = 89 ∨ c = 105 ∨ c = 106 ∨ c = 122 ∨ c = 123 ∨ c = 139 ∨ c = 140) ∧ 1 ≤ k) ∨ (c = 90 ∨ c = 91 ∨ c = 107 ∨ c = 108 ∨ c = 124 ∨ c = 125 ∨ c = 141 ∨ c = 142)) ∨ (c = 93 ∨ c = 110 ∨ c = 127 ∨ c = 144) ∨ (((97 ≤ c ∧ c ≤ 102) ∨ (114 ≤ c ∧ c ≤ 119) ∨ (131 ≤ c ∧ c ≤ 136) ∨ (148 ≤ c ∧ c ≤ 153)) ∧ 7 ≤ k)
def kNq (c k : Int) : Prop := (c = 74 ∧ k ≠ 2) ∨ (c = 75) ∨ (78 ≤ c ∧ c ≤ 81) ∨ (83 ≤ c ∧ c ≤ 85) ∨ (c = 8 ∧ 8 ≤ k) ∨ (11 ≤ c ∧ c ≤ 14) ∨ (c = 16) ∨ (31 ≤ c ∧ c ≤ 37) ∨ (39 ≤ c ∧ c ≤ 40) ∨ (154 ≤ c ∧ c ≤ 249) ∨ (c = 250 ∧ 13 ≤ k) ∨ (c = 274) ∨ (c = 272) ∨ ((c = 86 ∨ c = 103 ∨ c = 120 ∨ c = 137) ∧ 11 ≤ k) ∨ (c = 90 ∨ c = 91 ∨ c = 107 ∨ c = 108 ∨ c = 124 ∨ c = 125 ∨ c = 141 ∨ c = 142) ∨ (c = 93 ∨ c = 110 ∨ c = 127 ∨ c = 144) ∨ (((97 ≤ c ∧ c ≤ 102) ∨ (114 ≤ c ∧ c ≤ 119) ∨ (131 ≤ c ∧ c ≤ 136) ∨ (148 ≤ c ∧ c ≤ 153)) ∧ 8 ≤ k)
theorem nq_nw {c k : Int} (q : kNq c k) : kNw c k := by
  unfold kNq at q
  rcases q with q | q | q | q | q | q | q | q | q | q | q | q | q | q | q | q | q
  · exact Or.inl (by omega)
  · exact Or.inr (Or.inl (by omega))
  · exact Or.inr (Or.inr (Or.inl (by omega)))
  · exact Or.inr (Or.inr (Or.inr (Or.inl (by omega))))
  · exact Or.inr (Or.inr (Or.inr (Or.inr (Or.inl (by omega)))))
  · exact Or.inr (Or.inr (Or.inr (Or.inr (Or.inr (Or.inl (by omega))))))
  · exact Or.inr (Or.inr (Or.inr (Or.inr (Or.inr (Or.inr (Or.inl (by omega)))))))
  · exact Or.inr (Or.inr (Or.inr (Or.inr (Or.inr (Or.inr (Or.inr (Or.inl (by omega))))))))
  · exact Or.inr (Or.inr (Or.inr (Or.inr (Or.inr (Or.inr (Or.inr (Or.inr (Or.inl (by omega)))))))))
  · exact Or.inr (Or.inr (Or.inr (Or.inr (Or.inr (Or.inr (Or.inr (Or.inr (Or.inr (Or.inl (by omega))))))))))
  · exact Or.inr (Or.inr (Or.inr (Or.inr (Or.inr (Or.inr (Or.inr (Or.inr (Or.inr (Or.inr (Or.inl (by omega)))))))))))
  · exact Or.inr (Or.inr (Or.inr (Or.inr (Or.inr (Or.inr (Or.inr (Or.inr (Or.inr (Or.inr (Or.inr (Or.inl (by omega))))))))))))
  · exact Or.inr (Or.inr (Or.inr (Or.inr (Or.inr (Or.inr (Or.inr (Or.inr (Or.inr (Or.inr (Or.inr (Or.inr (Or.inl (by omega)))))))))))))
  · exact Or.inr (Or.inr (Or.inr (Or.inr (Or.inr (Or.inr (Or.inr (Or.inr (Or.inr (Or.inr (Or.inr (Or.inr (Or.inr (Or.inl (by omega))))))))))))))
  · exact Or.inr (Or.inr (Or.inr (Or.inr (Or.inr (Or.inr (Or.inr (Or.inr (Or.inr (Or.inr (Or.inr (Or.inr (Or.inr (Or.inr (Or.inl (by omega)))))))))))))))
  · exact Or.inr (Or.inr (Or.inr (Or.inr (Or.inr (Or.inr (Or.inr (Or.inr (Or.inr (Or.inr (Or.inr (Or.inr (Or.inr (Or.inr (Or.inr (Or.inl (by omega))))))))))))))))
  · exact Or.inr (Or.inr (Or.inr (Or.inr (Or.inr (Or.inr (Or.inr (Or.inr (Or.inr (Or.inr (Or.inr (Or.inr (Or.inr (Or.inr (Or.inr (Or.inr ((by omega)))))))))))))))))
theorem nw_kDs {c k : Int} (q : kDs c k) : kNw c k := by
  unfold kDs at q
  rcases q with q | q
  · exact Or.inr (Or.inr (Or.inr (Or.inr (Or.inl (by omega)))))
  · exact Or.inr (Or.inr (Or.inr (Or.inl (by omega))))
theorem nq_kDs {c k : Int} (q : kDs c k) : kNq c k := by
  unfold kDs at q
  rcases q with q | q
  · exact Or.inr (Or.inr (Or.inr (Or.inr (Or.inl (by omega)))))
  · exact Or.inr (Or.inr (Or.inr (Or.inl (by omega))))
theorem nw_kGl {c k : Int} (q : kGl c k) : kNw c k := by
  unfold kGl at q
  exact Or.inr (Or.inr (Or.inr (Or.inl (by omega))))
theorem nq_kGl {c k : Int} (q : kGl c k) : kNq c k := by
  unfold kGl at q
  exact Or.inr (Or.inr (Or.inr (Or.inl (by omega))))
theorem nw_kMb {t a c k : Int} (ht : 0 ≤ t ∧ t ≤ 15) (ha : 0 ≤ a ∧ a ≤ 3) (q : kMb t a c k) : kNw c k := by
  unfold kMb at q
  rcases q with q | q | q | q | q
  · exact Or.inr (Or.inr (Or.inr (Or.inr (Or.inl (by omega)))))
  · exact Or.inr (Or.inr (Or.inr (Or.inl (by omega))))
  · exact Or.inr (Or.inr (Or.inr (Or.inr (Or.inr (Or.inr (Or.inr (Or.inr (Or.inr (Or.inr (Or.inr (Or.inr (Or.inr (Or.inl (by omega))))))))))))))
  · exact Or.inr (Or.inr (Or.inr (Or.inr (Or.inr (Or.inr (Or.inr (Or.inr (Or.inr (Or.inr (Or.inr (Or.inr (Or.inr (Or.inr (Or.inr (Or.inr ((by omega)))))))))))))))))
  · exact Or.inr (Or.inr (Or.inr (Or.inr (Or.inr (Or.inr (Or.inr (Or.inr (Or.inr (Or.inl (by omega))))))))))
theorem nq_kMb {t a c k : Int} (ht : 0 ≤ t ∧ t ≤ 15) (ha : 0 ≤ a ∧ a ≤ 3) (q : kMb t a c k) : kNq c k := by
  unfold kMb at q
  rcases q with q | q | q | q | q
  · exact Or.inr (Or.inr (Or.inr (Or.inr (Or.inl (by omega)))))
  · exact Or.inr (Or.inr (Or.inr (Or.inl (by omega))))
  · exact Or.inr (Or.inr (Or.inr (Or.inr (Or.inr (Or.inr (Or.inr (Or.inr (Or.inr (Or.inr (Or.inr (Or.inr (Or.inr (Or.inl (by omega))))))))))))))
  · exact Or.inr (Or.inr (Or.inr (Or.inr (Or.inr (Or.inr (Or.inr (Or.inr (Or.inr (Or.inr (Or.inr (Or.inr (Or.inr (Or.inr (Or.inr (Or.inr ((by omega)))))))))))))))))
  · exact Or.inr (Or.inr (Or.inr (Or.inr (Or.inr (Or.inr (Or.inr (Or.inr (Or.inr (Or.inl (by omega))))))))))
theorem nw_kWf {t c k : Int} (ht : 0 ≤ t ∧ t ≤ 15) (q : kWf t c k) : kNw c k := by
  unfold kWf at q
  exact Or.inr (Or.inr (Or.inr (Or.inr (Or.inr (Or.inr (Or.inr (Or.inr (Or.inr (Or.inl (by omega))))))))))
theorem nq_kWf {t c k : Int} (ht : 0 ≤ t ∧ t ≤ 15) (q : kWf t c k) : kNq c k := by
  unfold kWf at q
  exact Or.inr (Or.inr (Or.inr (Or.inr (Or.inr (Or.inr (Or.inr (Or.inr (Or.inr (Or.inl (by omega))))))))))
theorem nw_kWu {t c k : Int} (ht : 0 ≤ t ∧ t ≤ 15) (q : kWu t c k) : kNw c k := by
  unfold kWu at q
  exact Or.inr (Or.inr (Or.inr (Or.inr (Or.inr (Or.inr (Or.inr (Or.inr (Or.inr (Or.inl (by omega))))))))))
theorem nq_kWu {t c k : Int} (ht : 0 ≤ t ∧ t ≤ 15) (q : kWu t c k) : kNq c k := by
  unfold kWu at q
  exact Or.inr (Or.inr (Or.inr (Or.inr (Or.inr (Or.inr (Or.inr (Or.inr (Or.inr (Or.inl (by omega))))))))))
theorem nw_kSP {c k : Int} (q : kSP c k) : kNw c k := by
  unfold kSP at q
  rcases q with q | q | q | q
  · exact Or.inr (Or.inr (Or.inr (Or.inr (Or.inl (by omega)))))
  · exact Or.inr (Or.inr (Or.inr (Or.inl (by omega))))
  · exact Or.inr (Or.inr (Or.inr (Or.inr (Or.inr (Or.inl (by omega))))))
  · exact Or.inr (Or.inr (Or.inr (Or.inr (Or.inr (Or.inr (Or.inl (by omega)))))))
theorem nq_kSP {c k : Int} (q : kSP c k) : kNq c k := by
  unfold kSP at q
  rcases q with q | q | q | q
  · exact Or.inr (Or.inr (Or.inr (Or.inr (Or.inl (by omega)))))
  · exact Or.inr (Or.inr (Or.inr (Or.inl (by omega))))
  · exact Or.inr (Or.inr (Or.inr (Or.inr (Or.inr (Or.inl (by omega))))))
  · exact Or.inr (Or.inr (Or.inr (Or.inr (Or.inr (Or.inr (Or.inl (by omega)))))))
theorem nw_kTl {t c k : Int} (ht : 0 ≤ t ∧ t ≤ 15) (q : kTl t c k) : kNw c k := by
  unfold kTl at q
  rcases q with q | q | q | q
  · exact Or.inr (Or.inr (Or.inr (Or.inr (Or.inl (by omega)))))
  · exact Or.inr (Or.inr (Or.inr (Or.inl (by omega))))
  · exact Or.inr (Or.inr (Or.inr (Or.inl (by omega))))
  · exact Or.inr (Or.inr (Or.inr (Or.inr (Or.inr (Or.inr (Or.inr (Or.inr (Or.inr (Or.inl (by omega))))))))))
theorem nq_kTl {t c k : Int} (ht : 0 ≤ t ∧ t ≤ 15) (q : kTl t c k) : kNq c k := by
  unfold kTl at q
  rcases q with q | q | q | q
  · exact Or.inr (Or.inr (Or.inr (Or.inr (Or.inl (by omega)))))
  · exact Or.inr (Or.inr (Or.inr (Or.inl (by omega))))
  · exact Or.inr (Or.inr (Or.inr (Or.inl (by omega))))
  · exact Or.inr (Or.inr (Or.inr (Or.inr (Or.inr (Or.inr (Or.inr (Or.inr (Or.inr (Or.inl (by omega))))))))))
theorem nw_kFk {c k : Int} (q : kFk c k) : kNw c k := by
  unfold kFk at q
  rcases q with q | q | q
  · exact Or.inr (Or.inr (Or.inr (Or.inr (Or.inl (by omega)))))
  · exact Or.inr (Or.inr (Or.inr (Or.inl (by omega))))
  · exact Or.inr (Or.inr (Or.inr (Or.inl (by omega))))
theorem nq_kFk {c k : Int} (q : kFk c k) : kNq c k := by
  unfold kFk at q
  rcases q with q | q | q
  · exact Or.inr (Or.inr (Or.inr (Or.inr (Or.inl (by omega)))))
  · exact Or.inr (Or.inr (Or.inr (Or.inl (by omega))))
  · exact Or.inr (Or.inr (Or.inr (Or.inl (by omega))))
theorem nw_kEn {t c k : Int} (ht : 0 ≤ t ∧ t ≤ 15) (q : kEn t c k) : kNw c k := by
  unfold kEn at q
  rcases q with q | q | q
  · exact Or.inr (Or.inr (Or.inr (Or.inr (Or.inr (Or.inr (Or.inr (Or.inr (Or.inr (Or.inl (by omega))))))))))
  · exact Or.inr (Or.inr (Or.inr (Or.inr (Or.inr (Or.inr (Or.inr (Or.inr (Or.inr (Or.inl (by omega))))))))))
  · exact Or.inr (Or.inr (Or.inr (Or.inr (Or.inr (Or.inr (Or.inr (Or.inr (Or.inr (Or.inl (by omega))))))))))
theorem nq_kEn {t c k : Int} (ht : 0 ≤ t ∧ t ≤ 15) (q : kEn t c k) : kNq c k := by
  unfold kEn at q
  rcases q with q | q | q
  · exact Or.inr (Or.inr (Or.inr (Or.inr (Or.inr (Or.inr (Or.inr (Or.inr (Or.inr (Or.inl (by omega))))))))))
  · exact Or.inr (Or.inr (Or.inr (Or.inr (Or.inr (Or.inr (Or.inr (Or.inr (Or.inr (Or.inl (by omega))))))))))
  · exact Or.inr (Or.inr (Or.inr (Or.inr (Or.inr (Or.inr (Or.inr (Or.inr (Or.inr (Or.inl (by omega))))))))))
theorem nw_kBg {t c k : Int} (ht : 0 ≤ t ∧ t ≤ 15) (q : kBg t c k) : kNw c k := by
  unfold kBg at q
  rcases q with q | q | q
  · exact Or.inr (Or.inr (Or.inr (Or.inr (Or.inr (Or.inr (Or.inr (Or.inr (Or.inr (Or.inl (by omega))))))))))
  · exact Or.inr (Or.inr (Or.inr (Or.inr (Or.inr (Or.inr (Or.inr (Or.inr (Or.inr (Or.inl (by omega))))))))))
  · exact Or.inr (Or.inr (Or.inr (Or.inr (Or.inr (Or.inr (Or.inr (Or.inr (Or.inr (Or.inl (by omega))))))))))
theorem nq_kBg {t c k : Int} (ht : 0 ≤ t ∧ t ≤ 15) (q : kBg t c k) : kNq c k := by
  unfold kBg at q
  rcases q with q | q | q
  · exact Or.inr (Or.inr (Or.inr (Or.inr (Or.inr (Or.inr (Or.inr (Or.inr (Or.inr (Or.inl (by omega))))))))))
  · exact Or.inr (Or.inr (Or.inr (Or.inr (Or.inr (Or.inr (Or.inr (Or.inr (Or.inr (Or.inl (by omega))))))))))
  · exact Or.inr (Or.inr (Or.inr (Or.inr (Or.inr (Or.inr (Or.inr (Or.inr (Or.inr (Or.inl (by omega))))))))))
theorem nw_kLg {c k : Int} (q : kLg c k) : kNw c k := by
  unfold kLg at q
  rcases q with q | q
  · exact Or.inl (by omega)
  · exact Or.inr (Or.inl (by omega))
theorem nq_kLg {c k : Int} (q : kLg c k) : kNq c k := by
  unfold kLg at q
  rcases q with q | q
  · exact Or.inl (by omega)
  · exact Or.inr (Or.inl (by omega))
theorem nw_kGd {a c k : Int} (ha : 0 ≤ a ∧ a ≤ 3) (q : kGd a c k) : kNw c k := by
  unfold kGd at q
  rcases q with q | q | q | q | q | q | q | q | q
  · exact Or.inr (Or.inr (Or.inr (Or.inr (Or.inl (by omega)))))
  · exact Or.inr (Or.inr (Or.inr (Or.inl (by omega))))
  · exact Or.inl (by omega)
  · exact Or.inr (Or.inl (by omega))
  · exact Or.inr (Or.inr (Or.inr (Or.inr (Or.inr (Or.inr (Or.inr (Or.inl (by omega))))))))
  · exact Or.inr (Or.inr (Or.inr (Or.inr (Or.inr (Or.inr (Or.inr (Or.inr (Or.inl (by omega)))))))))
  · exact Or.inr (Or.inr (Or.inr (Or.inr (Or.inr (Or.inr (Or.inr (Or.inr (Or.inl (by omega)))))))))
  · exact Or.inr (Or.inr (Or.inr (Or.inr (Or.inr (Or.inr (Or.inr (Or.inr (Or.inr (Or.inr (Or.inr (Or.inr (Or.inr (Or.inl (by omega))))))))))))))
  · exact Or.inr (Or.inr (Or.inr (Or.inr (Or.inr (Or.inr (Or.inr (Or.inr (Or.inr (Or.inr (Or.inr (Or.inr (Or.inr (Or.inl (by omega))))))))))))))
theorem nq_kGd {a c k : Int} (ha : 0 ≤ a ∧ a ≤ 3) (q : kGd a c k) : kNq c k := by
  unfold kGd at q
  rcases q with q | q | q | q | q | q | q | q | q
  · exact Or.inr (Or.inr (Or.inr (Or.inr (Or.inl (by omega)))))
  · exact Or.inr (Or.inr (Or.inr (Or.inl (by omega))))
  · exact Or.inl (by omega)
  · exact Or.inr (Or.inl (by omega))
  · exact Or.inr (Or.inr (Or.inr (Or.inr (Or.inr (Or.inr (Or.inr (Or.inl (by omega))))))))
  · exact Or.inr (Or.inr (Or.inr (Or.inr (Or.inr (Or.inr (Or.inr (Or.inr (Or.inl (by omega)))))))))
  · exact Or.inr (Or.inr (Or.inr (Or.inr (Or.inr (Or.inr (Or.inr (Or.inr (Or.inl (by omega)))))))))
  · exact Or.inr (Or.inr (Or.inr (Or.inr (Or.inr (Or.inr (Or.inr (Or.inr (Or.inr (Or.inr (Or.inr (Or.inr (Or.inr (Or.inl (by omega))))))))))))))
  · exact Or.inr (Or.inr (Or.inr (Or.inr (Or.inr (Or.inr (Or.inr (Or.inr (Or.inr (Or.inr (Or.inr (Or.inr (Or.inr (Or.inl (by omega))))))))))))))
theorem nw_kWt {t c k : Int} (ht : 0 ≤ t ∧ t ≤ 15) (q : kWt t c k) : kNw c k := by
  unfold kWt at q
  rcases q with q | q | q
  · exact Or.inr (Or.inr (Or.inr (Or.inr (Or.inl (by omega)))))
  · exact Or.inr (Or.inr (Or.inr (Or.inl (by omega))))
  · exact Or.inr (Or.inr (Or.inr (Or.inr (Or.inr (Or.inr (Or.inr (Or.inr (Or.inr (Or.inl (by omega))))))))))
theorem nq_kWt {t c k : Int} (ht : 0 ≤ t ∧ t ≤ 15) (q : kWt t c k) : kNq c k := by
  unfold kWt at q
  rcases q with q | q | q
  · exact Or.inr (Or.inr (Or.inr (Or.inr (Or.inl (by omega)))))
  · exact Or.inr (Or.inr (Or.inr (Or.inl (by omega))))
  · exact Or.inr (Or.inr (Or.inr (Or.inr (Or.inr (Or.inr (Or.inr (Or.inr (Or.inr (Or.inl (by omega))))))))))
theorem nw_kGn {t c k : Int} (ht : 0 ≤ t ∧ t ≤ 15) (q : kGn t c k) : kNw c k := by
  unfold kGn at q
  rcases q with q | q | q
  · exact Or.inr (Or.inr (Or.inr (Or.inr (Or.inl (by omega)))))
  · exact Or.inr (Or.inr (Or.inr (Or.inl (by omega))))
  · exact Or.inr (Or.inr (Or.inr (Or.inr (Or.inr (Or.inr (Or.inr (Or.inr (Or.inr (Or.inl (by omega))))))))))
theorem nq_kGn {t c k : Int} (ht : 0 ≤ t ∧ t ≤ 15) (q : kGn t c k) : kNq c k := by
  unfold kGn at q
  rcases q with q | q | q
  · exact Or.inr (Or.inr (Or.inr (Or.inr (Or.inl (by omega)))))
  · exact Or.inr (Or.inr (Or.inr (Or.inl (by omega))))
  · exact Or.inr (Or.inr (Or.inr (Or.inr (Or.inr (Or.inr (Or.inr (Or.inr (Or.inr (Or.inl (by omega))))))))))
theorem nw_kLe {t a c k : Int} (ht : 0 ≤ t ∧ t ≤ 15) (ha : 0 ≤ a ∧ a ≤ 3) (q : kLe t a c k) : kNw c k := by
  unfold kLe at q
  rcases q with q | q | q | q | q | q | q | q | q | q
  · exact Or.inr (Or.inr (Or.inr (Or.inr (Or.inr (Or.inr (Or.inr (Or.inr (Or.inr (Or.inl (by omega))))))))))
  · exact Or.inr (Or.inr (Or.inr (Or.inr (Or.inr (Or.inr (Or.inr (Or.inr (Or.inr (Or.inl (by omega))))))))))
  · exact Or.inr (Or.inr (Or.inr (Or.inr (Or.inr (Or.inr (Or.inr (Or.inr (Or.inr (Or.inl (by omega))))))))))
  · exact Or.inr (Or.inr (Or.inr (Or.inr (Or.inr (Or.inr (Or.inr (Or.inr (Or.inr (Or.inl (by omega))))))))))
  · exact Or.inl (by omega)
  · exact Or.inr (Or.inl (by omega))
  · exact Or.inr (Or.inr (Or.inr (Or.inl (by omega))))
  · exact Or.inr (Or.inr (Or.inr (Or.inr (Or.inl (by omega)))))
  · exact Or.inr (Or.inr (Or.inr (Or.inl (by omega))))
  · exact Or.inr (Or.inr (Or.inr (Or.inr (Or.inr (Or.inr (Or.inr (Or.inr (Or.inr (Or.inr (Or.inr (Or.inr (Or.inr (Or.inl (by omega))))))))))))))
theorem nq_kLe {t a c k : Int} (ht : 0 ≤ t ∧ t ≤ 15) (ha : 0 ≤ a ∧ a ≤ 3) (q : kLe t a c k) : kNq c k := by
  unfold kLe at q
  rcases q with q | q | q | q | q | q | q | q | q | q
  · exact Or.inr (Or.inr (Or.inr (Or.inr (Or.inr (Or.inr (Or.inr (Or.inr (Or.inr (Or.inl (by omega))))))))))
  · exact Or.inr (Or.inr (Or.inr (Or.inr (Or.inr (Or.inr (Or.inr (Or.inr (Or.inr (Or.inl (by omega))))))))))
  · exact Or.inr (Or.inr (Or.inr (Or.inr (Or.inr (Or.inr (Or.inr (Or.inr (Or.inr (Or.inl (by omega))))))))))
  · exact Or.inr (Or.inr (Or.inr (Or.inr (Or.inr (Or.inr (Or.inr (Or.inr (Or.inr (Or.inl (by omega))))))))))
  · exact Or.inl (by omega)
  · exact Or.inr (Or.inl (by omega))
  · exact Or.inr (Or.inr (Or.inr (Or.inl (by omega))))
  · exact Or.inr (Or.inr (Or.inr (Or.inr (Or.inl (by omega)))))
  · exact Or.inr (Or.inr (Or.inr (Or.inl (by omega))))
  · exact Or.inr (Or.inr (Or.inr (Or.inr (Or.inr (Or.inr (Or.inr (Or.inr (Or.inr (Or.inr (Or.inr (Or.inr (Or.inr (Or.inl (by omega))))))))))))))
theorem nw_kWc {t c k : Int} (ht : 0 ≤ t ∧ t ≤ 15) (q : kWc t c k) : kNw c k := by
  unfold kWc at q
  rcases q with q | q | q | q | q
  · exact Or.inr (Or.inr (Or.inr (Or.inr (Or.inl (by omega)))))
  · exact Or.inr (Or.inr (Or.inr (Or.inl (by omega))))
  · exact Or.inr (Or.inr (Or.inr (Or.inr (Or.inr (Or.inr (Or.inr (Or.inr (Or.inr (Or.inl (by omega))))))))))
  · exact Or.inr (Or.inr (Or.inr (Or.inr (Or.inr (Or.inr (Or.inr (Or.inr (Or.inr (Or.inl (by omega))))))))))
  · exact Or.inr (Or.inr (Or.inr (Or.inr (Or.inr (Or.inr (Or.inr (Or.inr (Or.inr (Or.inl (by omega))))))))))
theorem nq_kWc {t c k : Int} (ht : 0 ≤ t ∧ t ≤ 15) (q : kWc t c k) : kNq c k := by
  unfold kWc at q
  rcases q with q | q | q | q | q
  · exact Or.inr (Or.inr (Or.inr (Or.inr (Or.inl (by omega)))))
  · exact Or.inr (Or.inr (Or.inr (Or.inl (by omega))))
  · exact Or.inr (Or.inr (Or.inr (Or.inr (Or.inr (Or.inr (Or.inr (Or.inr (Or.inr (Or.inl (by omega))))))))))
  · exact Or.inr (Or.inr (Or.inr (Or.inr (Or.inr (Or.inr (Or.inr (Or.inr (Or.inr (Or.inl (by omega))))))))))
  · exact Or.inr (Or.inr (Or.inr (Or.inr (Or.inr (Or.inr (Or.inr (Or.inr (Or.inr (Or.inl (by omega))))))))))
theorem nw_kDp {t c k : Int} (ht : 0 ≤ t ∧ t ≤ 15) (q : kDp t c k) : kNw c k := by
  unfold kDp at q
  rcases q with q | q | q
  · exact Or.inr (Or.inr (Or.inr (Or.inr (Or.inl (by omega)))))
  · exact Or.inr (Or.inr (Or.inr (Or.inl (by omega))))
  · exact Or.inr (Or.inr (Or.inr (Or.inr (Or.inr (Or.inr (Or.inr (Or.inr (Or.inr (Or.inl (by omega))))))))))
theorem nq_kDp {t c k : Int} (ht : 0 ≤ t ∧ t ≤ 15) (q : kDp t c k) : kNq c k := by
  unfold kDp at q
  rcases q with q | q | q
  · exact Or.inr (Or.inr (Or.inr (Or.inr (Or.inl (by omega)))))
  · exact Or.inr (Or.inr (Or.inr (Or.inl (by omega))))
  · exact Or.inr (Or.inr (Or.inr (Or.inr (Or.inr (Or.inr (Or.inr (Or.inr (Or.inr (Or.inl (by omega))))))))))
theorem nw_kLd {t c k : Int} (ht : 0 ≤ t ∧ t ≤ 15) (q : kLd t c k) : kNw c k := by
  unfold kLd at q
  rcases q with q | q | q | q | q | q | q
  · exact Or.inr (Or.inr (Or.inr (Or.inr (Or.inr (Or.inr (Or.inr (Or.inr (Or.inr (Or.inl (by omega))))))))))
  · exact Or.inr (Or.inr (Or.inr (Or.inr (Or.inr (Or.inr (Or.inr (Or.inr (Or.inr (Or.inl (by omega))))))))))
  · exact Or.inr (Or.inr (Or.inr (Or.inr (Or.inl (by omega)))))
  · exact Or.inr (Or.inr (Or.inr (Or.inl (by omega))))
  · exact Or.inl (by omega)
  · exact Or.inr (Or.inl (by omega))
  · exact Or.inr (Or.inr (Or.inr (Or.inl (by omega))))
theorem nq_kLd {t c k : Int} (ht : 0 ≤ t ∧ t ≤ 15) (q : kLd t c k) : kNq c k := by
  unfold kLd at q
  rcases q with q | q | q | q | q | q | q
  · exact Or.inr (Or.inr (Or.inr (Or.inr (Or.inr (Or.inr (Or.inr (Or.inr (Or.inr (Or.inl (by omega))))))))))
  · exact Or.inr (Or.inr (Or.inr (Or.inr (Or.inr (Or.inr (Or.inr (Or.inr (Or.inr (Or.inl (by omega))))))))))
  · exact Or.inr (Or.inr (Or.inr (Or.inr (Or.inl (by omega)))))
  · exact Or.inr (Or.inr (Or.inr (Or.inl (by omega))))
  · exact Or.inl (by omega)
  · exact Or.inr (Or.inl (by omega))
  · exact Or.inr (Or.inr (Or.inr (Or.inl (by omega))))
theorem nw_kLk {c k : Int} (q : kLk c k) : kNw c k := by
  unfold kLk at q
  exact Or.inr (Or.inr (Or.inr (Or.inl (by omega))))
theorem nq_kLk {c k : Int} (q : kLk c k) : kNq c k := by
  unfold kLk at q
  exact Or.inr (Or.inr (Or.inr (Or.inl (by omega))))
theorem nw_kMv {c k : Int} (q : kMv c k) : kNw c k := by
  unfold kMv at q
  rcases q with q | q
  · exact Or.inr (Or.inr (Or.inr (Or.inr (Or.inr (Or.inr (Or.inr (Or.inr (Or.inr (Or.inr (Or.inr (Or.inr (Or.inr (Or.inl (by omega))))))))))))))
  · exact Or.inl (by omega)
theorem nq_kMv {c k : Int} (q : kMv c k) : kNq c k := by
  unfold kMv at q
  rcases q with q | q
  · exact Or.inr (Or.inr (Or.inr (Or.inr (Or.inr (Or.inr (Or.inr (Or.inr (Or.inr (Or.inr (Or.inr (Or.inr (Or.inr (Or.inl (by omega))))))))))))))
  · exact Or.inl (by omega)
theorem nw_kBa {a c k : Int} (ha : 0 ≤ a ∧ a ≤ 3) (q : kBa a c k) : kNw c k := by
  unfold kBa at q
  rcases q with q | q | q | q
  · exact Or.inl (by omega)
  · exact Or.inr (Or.inl (by omega))
  · exact Or.inr (Or.inr (Or.inr (Or.inr (Or.inr (Or.inr (Or.inr (Or.inr (Or.inr (Or.inl (by omega))))))))))
  · exact Or.inr (Or.inr (Or.inr (Or.inr (Or.inr (Or.inr (Or.inr (Or.inr (Or.inr (Or.inr (Or.inr (Or.inr (Or.inr (Or.inl (by omega))))))))))))))
theorem nq_kBa {a c k : Int} (ha : 0 ≤ a ∧ a ≤ 3) (q : kBa a c k) : kNq c k := by
  unfold kBa at q
  rcases q with q | q | q | q
  · exact Or.inl (by omega)
  · exact Or.inr (Or.inl (by omega))
  · exact Or.inr (Or.inr (Or.inr (Or.inr (Or.inr (Or.inr (Or.inr (Or.inr (Or.inr (Or.inl (by omega))))))))))
  · exact Or.inr (Or.inr (Or.inr (Or.inr (Or.inr (Or.inr (Or.inr (Or.inr (Or.inr (Or.inr (Or.inr (Or.inr (Or.inr (Or.inl (by omega))))))))))))))
theorem nw_kBk {a c k : Int} (ha : 0 ≤ a ∧ a ≤ 3) (q : kBk a c k) : kNw c k := by
  unfold kBk at q
  rcases q with q | q | q | q
  · exact Or.inl (by omega)
  · exact Or.inr (Or.inl (by omega))
  · exact Or.inr (Or.inr (Or.inr (Or.inr (Or.inr (Or.inr (Or.inr (Or.inr (Or.inr (Or.inl (by omega))))))))))
  · exact Or.inr (Or.inr (Or.inr (Or.inr (Or.inr (Or.inr (Or.inr (Or.inr (Or.inr (Or.inr (Or.inr (Or.inr (Or.inr (Or.inl (by omega))))))))))))))
theorem nq_kBk {a c k : Int} (ha : 0 ≤ a ∧ a ≤ 3) (q : kBk a c k) : kNq c k := by
  unfold kBk at q
  rcases q with q | q | q | q
  · exact Or.inl (by omega)
  · exact Or.inr (Or.inl (by omega))
  · exact Or.inr (Or.inr (Or.inr (Or.inr (Or.inr (Or.inr (Or.inr (Or.inr (Or.inr (Or.inl (by omega))))))))))
  · exact Or.inr (Or.inr (Or.inr (Or.inr (Or.inr (Or.inr (Or.inr (Or.inr (Or.inr (Or.inr (Or.inr (Or.inr (Or.inr (Or.inl (by omega))))))))))))))
theorem nw_kPo {c k : Int} (q : kPo c k) : kNw c k := by
  unfold kPo at q
  rcases q with q | q
  · exact Or.inr (Or.inr (Or.inr (Or.inr (Or.inr (Or.inl (by omega))))))
  · exact Or.inr (Or.inr (Or.inr (Or.inr (Or.inr (Or.inr (Or.inl (by omega)))))))
theorem nq_kPo {c k : Int} (q : kPo c k) : kNq c k := by
  unfold kPo at q
  rcases q with q | q
  · exact Or.inr (Or.inr (Or.inr (Or.inr (Or.inr (Or.inl (by omega))))))
  · exact Or.inr (Or.inr (Or.inr (Or.inr (Or.inr (Or.inr (Or.inl (by omega)))))))
theorem nw_kCi {c k : Int} (q : kCi c k) : kNw c k := by
  unfold kCi at q
  rcases q with q | q
  · exact Or.inr (Or.inr (Or.inl (by omega)))
  · exact Or.inr (Or.inr (Or.inl (by omega)))
theorem nq_kCi {c k : Int} (q : kCi c k) : kNq c k := by
  unfold kCi at q
  rcases q with q | q
  · exact Or.inr (Or.inr (Or.inl (by omega)))
  · exact Or.inr (Or.inr (Or.inl (by omega)))
theorem nw_kCt {c k : Int} (q : kCt c k) : kNw c k := by
  unfold kCt at q
  rcases q with q | q
  · exact Or.inl (by omega)
  · exact Or.inr (Or.inl (by omega))
theorem nq_kCt {c k : Int} (q : kCt c k) : kNq c k := by
  unfold kCt at q
  rcases q with q | q
  · exact Or.inl (by omega)
  · exact Or.inr (Or.inl (by omega))
theorem nw_kSt {a c k : Int} (ha : 0 ≤ a ∧ a ≤ 3) (q : kSt a c k) : kNw c k := by
  unfold kSt at q
  rcases q with q | q
  · exact Or.inr (Or.inr (Or.inr (Or.inr (Or.inr (Or.inr (Or.inr (Or.inr (Or.inr (Or.inr (Or.inr (Or.inr (Or.inr (Or.inl (by omega))))))))))))))
  · exact Or.inr (Or.inr (Or.inr (Or.inr (Or.inr (Or.inr (Or.inr (Or.inr (Or.inr (Or.inr (Or.inr (Or.inr (Or.inr (Or.inr (Or.inr (Or.inr ((by omega)))))))))))))))))
theorem nq_kSt {a c k : Int} (ha : 0 ≤ a ∧ a ≤ 3) (q : kSt a c k) : kNq c k := by
  unfold kSt at q
  rcases q with q | q
  · exact Or.inr (Or.inr (Or.inr (Or.inr (Or.inr (Or.inr (Or.inr (Or.inr (Or.inr (Or.inr (Or.inr (Or.inr (Or.inr (Or.inl (by omega))))))))))))))
  · exact Or.inr (Or.inr (Or.inr (Or.inr (Or.inr (Or.inr (Or.inr (Or.inr (Or.inr (Or.inr (Or.inr (Or.inr (Or.inr (Or.inr (Or.inr (Or.inr ((by omega)))))))))))))))))
theorem nw_kSp {a c k : Int} (ha : 0 ≤ a ∧ a ≤ 3) (q : kSp a c k) : kNw c k := by
  unfold kSp at q
  exact Or.inr (Or.inr (Or.inr (Or.inr (Or.inr (Or.inr (Or.inr (Or.inr (Or.inr (Or.inr (Or.inr (Or.inr (Or.inr (Or.inr (Or.inr (Or.inr ((by omega)))))))))))))))))
theorem nq_kSp {a c k : Int} (ha : 0 ≤ a ∧ a ≤ 3) (q : kSp a c k) : kNq c k := by
  unfold kSp at q
  exact Or.inr (Or.inr (Or.inr (Or.inr (Or.inr (Or.inr (Or.inr (Or.inr (Or.inr (Or.inr (Or.inr (Or.inr (Or.inr (Or.inr (Or.inr (Or.inr ((by omega)))))))))))))))))
theorem nw_kGo {a c k : Int} (ha : 0 ≤ a ∧ a ≤ 3) (q : kGo a c k) : kNw c k := by
  unfold kGo at q
  rcases q with q | q | q
  · exact Or.inr (Or.inr (Or.inr (Or.inr (Or.inr (Or.inr (Or.inr (Or.inr (Or.inr (Or.inr (Or.inr (Or.inr (Or.inr (Or.inl (by omega))))))))))))))
  · exact Or.inr (Or.inr (Or.inr (Or.inr (Or.inr (Or.inr (Or.inr (Or.inr (Or.inr (Or.inr (Or.inr (Or.inr (Or.inr (Or.inr (Or.inr (Or.inr ((by omega)))))))))))))))))
  · exact Or.inr (Or.inr (Or.inr (Or.inr (Or.inr (Or.inr (Or.inr (Or.inr (Or.inr (Or.inr (Or.inr (Or.inr (Or.inr (Or.inr (Or.inl (by omega)))))))))))))))
theorem nw_kBm {a c k : Int} (ha : 0 ≤ a ∧ a ≤ 3) (q : kBm a c k) : kNw c k := by
  unfold kBm at q
  rcases q with q | q
  · exact Or.inr (Or.inr (Or.inr (Or.inr (Or.inr (Or.inr (Or.inr (Or.inr (Or.inr (Or.inr (Or.inr (Or.inr (Or.inr (Or.inl (by omega))))))))))))))
  · exact Or.inr (Or.inr (Or.inr (Or.inr (Or.inr (Or.inr (Or.inr (Or.inr (Or.inr (Or.inr (Or.inr (Or.inr (Or.inr (Or.inr (Or.inr (Or.inr ((by omega)))))))))))))))))
theorem nq_kBm {a c k : Int} (ha : 0 ≤ a ∧ a ≤ 3) (q : kBm a c k) : kNq c k := by
  unfold kBm at q
  rcases q with q | q
  · exact Or.inr (Or.inr (Or.inr (Or.inr (Or.inr (Or.inr (Or.inr (Or.inr (Or.inr (Or.inr (Or.inr (Or.inr (Or.inr (Or.inl (by omega))))))))))))))
  · exact Or.inr (Or.inr (Or.inr (Or.inr (Or.inr (Or.inr (Or.inr (Or.inr (Or.inr (Or.inr (Or.inr (Or.inr (Or.inr (Or.inr (Or.inr (Or.inr ((by omega)))))))))))))))))
theorem nw_kTc {c k : Int} (q : kTc c k) : kNw c k := by
  unfold kTc at q
  exact Or.inr (Or.inr (Or.inr (Or.inr (Or.inr (Or.inr (Or.inr (Or.inr (Or.inr (Or.inr (Or.inl (by omega)))))))))))
theorem nq_kTc {c k : Int} (q : kTc c k) : kNq c k := by
  unfold kTc at q
  exact Or.inr (Or.inr (Or.inr (Or.inr (Or.inr (Or.inr (Or.inr (Or.inr (Or.inr (Or.inr (Or.inl (by omega)))))))))))
theorem nw_kWy {c k : Int} (q : kWy c k) : kNw c k := by
  unfold kWy at q
  exact Or.inr (Or.inr (Or.inr (Or.inr (Or.inr (Or.inr (Or.inr (Or.inl (by omega))))))))
theorem nq_kWy {c k : Int} (q : kWy c k) : kNq c k := by
  unfold kWy at q
  exact Or.inr (Or.inr (Or.inr (Or.inr (Or.inr (Or.inr (Or.inr (Or.inl (by omega))))))))
theorem nw_kOl {a c k : Int} (ha : 0 ≤ a ∧ a ≤ 3) (q : kOl a c k) : kNw c k := by
  unfold kOl at q
  rcases q with q | q
  · exact Or.inr (Or.inr (Or.inr (Or.inr (Or.inr (Or.inr (Or.inr (Or.inr (Or.inr (Or.inr (Or.inr (Or.inr (Or.inr (Or.inr (Or.inl (by omega)))))))))))))))
  · exact Or.inr (Or.inr (Or.inr (Or.inr (Or.inr (Or.inr (Or.inr (Or.inr (Or.inr (Or.inr (Or.inr (Or.inr (Or.inr (Or.inr (Or.inl (by omega)))))))))))))))
theorem nq_kOl {a c k : Int} (ha : 0 ≤ a ∧ a ≤ 3) (q : kOl a c k) : kNq c k := by
  unfold kOl at q
  rcases q with q | q
  · exact Or.inr (Or.inr (Or.inr (Or.inr (Or.inr (Or.inr (Or.inr (Or.inr (Or.inr (Or.inr (Or.inr (Or.inr (Or.inr (Or.inr (Or.inl (by omega)))))))))))))))
  · exact Or.inr (Or.inr (Or.inr (Or.inr (Or.inr (Or.inr (Or.inr (Or.inr (Or.inr (Or.inr (Or.inr (Or.inr (Or.inr (Or.inr (Or.inl (by omega)))))))))))))))
theorem nw_kPl {a c k : Int} (ha : 0 ≤ a ∧ a ≤ 3) (q : kPl a c k) : kNw c k := by
  unfold kPl at q
  exact Or.inr (Or.inr (Or.inr (Or.inr (Or.inr (Or.inr (Or.inr (Or.inr (Or.inr (Or.inr (Or.inr (Or.inr (Or.inr (Or.inr (Or.inl (by omega)))))))))))))))
theorem nw_kHv {c k : Int} (q : kHv c k) : kNw c k := by
  unfold kHv at q
  rcases q with q | q
  · exact Or.inr (Or.inr (Or.inr (Or.inr (Or.inr (Or.inr (Or.inr (Or.inr (Or.inr (Or.inr (Or.inr (Or.inl (by omega))))))))))))
  · exact Or.inr (Or.inr (Or.inr (Or.inr (Or.inr (Or.inr (Or.inr (Or.inr (Or.inr (Or.inr (Or.inl (by omega)))))))))))
theorem nq_kHv {c k : Int} (q : kHv c k) : kNq c k := by
  unfold kHv at q
  rcases q with q | q
  · exact Or.inr (Or.inr (Or.inr (Or.inr (Or.inr (Or.inr (Or.inr (Or.inr (Or.inr (Or.inr (Or.inr (Or.inl (by omega))))))))))))
  · exact Or.inr (Or.inr (Or.inr (Or.inr (Or.inr (Or.inr (Or.inr (Or.inr (Or.inr (Or.inr (Or.inl (by omega)))))))))))
theorem nw_kCh {c k : Int} (q : kCh c k) : kNw c k := by
  unfold kCh at q
  rcases q with q | q
  · exact Or.inr (Or.inr (Or.inl (by omega)))
  · exact Or.inr (Or.inr (Or.inl (by omega)))
theorem nq_kCh {c k : Int} (q : kCh c k) : kNq c k := by
  unfold kCh at q
  rcases q with q | q
  · exact Or.inr (Or.inr (Or.inl (by omega)))
  · exact Or.inr (Or.inr (Or.inl (by omega)))
theorem nw_kPw {c k : Int} (q : kPw c k) : kNw c k := by
  unfold kPw at q
  rcases q with q | q | q
  · exact Or.inl (by omega)
  · exact Or.inr (Or.inl (by omega))
  · exact Or.inr (Or.inr (Or.inl (by omega)))
theorem nq_kPw {c k : Int} (q : kPw c k) : kNq c k := by
  unfold kPw at q
  rcases q with q | q | q
  · exact Or.inl (by omega)
  · exact Or.inr (Or.inl (by omega))
  · exact Or.inr (Or.inr (Or.inl (by omega)))
theorem nw_kFl {c k : Int} (q : kFl c k) : kNw c k := by
  unfold kFl at q
  rcases q with q | q | q
  · exact Or.inr (Or.inr (Or.inr (Or.inr (Or.inr (Or.inr (Or.inr (Or.inl (by omega))))))))
  · exact Or.inr (Or.inr (Or.inr (Or.inr (Or.inr (Or.inr (Or.inr (Or.inr (Or.inl (by omega)))))))))
  · exact Or.inr (Or.inr (Or.inr (Or.inr (Or.inr (Or.inr (Or.inr (Or.inr (Or.inl (by omega)))))))))
theorem nq_kFl {c k : Int} (q : kFl c k) : kNq c k := by
  unfold kFl at q
  rcases q with q | q | q
  · exact Or.inr (Or.inr (Or.inr (Or.inr (Or.inr (Or.inr (Or.inr (Or.inl (by omega))))))))
  · exact Or.inr (Or.inr (Or.inr (Or.inr (Or.inr (Or.inr (Or.inr (Or.inr (Or.inl (by omega)))))))))
  · exact Or.inr (Or.inr (Or.inr (Or.inr (Or.inr (Or.inr (Or.inr (Or.inr (Or.inl (by omega)))))))))
theorem nw_kNw {c k : Int} (q : kNw c k) : kNw c k := q
end
