noncomputable section
/-! the table with macros and texts may be trusted -/
theorem e_TCc {R : Nat → Prop} {k : Nat} {a b a' b' : Nat → Nat → eE} (ha : ∀ M, R M ∧ M ≤ k → a M = a' M) (hb : ∀ M, R M ∧ k < M → b M = b' M) : ∀ M, R M → e_TC k a b M = e_TC k a' b' M := fun M h => by
  unfold e_TC
  cases hk : Nat.ble M k with
  | true => exact ha M ⟨h, Nat.le_of_ble_eq_true hk⟩
  | false => exact hb M ⟨h, Nat.lt_of_not_le (fun q => by rw [Nat.ble_eq_true_of_le q] at hk; cases hk)⟩
theorem ec_off : ∀ M, (M ≠ 126 ∧ M ≠ 127 ∧ M ≠ 128 ∧ M ≠ 249 ∧ M ≠ 328 ∧ M ≠ 389 ∧ M ≠ 403) → ecode M = ecode0 M := by
  unfold ecode ecode0
  exact (e_TCc (k := 225) (e_TCc (k := 112) (fun _ _ => rfl) (e_TCc (k := 168) (e_TCc (k := 140) (e_TCc (k := 126) (e_TCc (k := 119) (fun _ _ => rfl) (e_TCc (k := 122) (fun _ _ => rfl) (e_TCc (k := 124) (fun _ _ => rfl) (e_TCc (k := 125) (fun _ _ => rfl) (fun M h => by exfalso; omega))))) (e_TCc (k := 133) (e_TCc (k := 129) (e_TCc (k := 127) (fun M h => by exfalso; omega) (e_TCc (k := 128) (fun M h => by exfalso; omega) (fun _ _ => rfl))) (fun _ _ => rfl)) (fun _ _ => rfl))) (fun _ _ => rfl)) (fun _ _ => rfl))) (e_TCc (k := 338) (e_TCc (k := 281) (e_TCc (k := 253) (e_TCc (k := 239) (fun _ _ => rfl) (e_TCc (k := 246) (fun _ _ => rfl) (e_TCc (k := 249) (e_TCc (k := 247) (fun _ _ => rfl) (e_TCc (k := 248) (fun _ _ => rfl) (fun M h => by exfalso; omega))) (fun _ _ => rfl)))) (fun _ _ => rfl)) (e_TCc (k := 309) (fun _ _ => rfl) (e_TCc (k := 323) (fun _ _ => rfl) (e_TCc (k := 330) (e_TCc (k := 326) (fun _ _ => rfl) (e_TCc (k := 328) (e_TCc (k := 327) (fun _ _ => rfl) (fun M h => by exfalso; omega)) (fun _ _ => rfl))) (fun _ _ => rfl))))) (e_TCc (k := 395) (e_TCc (k := 366) (fun _ _ => rfl) (e_TCc (k := 380) (fun _ _ => rfl) (e_TCc (k := 387) (fun _ _ => rfl) (e_TCc (k := 391) (e_TCc (k := 389) (e_TCc (k := 388) (fun _ _ => rfl) (fun M h => by exfalso; omega)) (fun _ _ => rfl)) (fun _ _ => rfl))))) (e_TCc (k := 423) (e_TCc (k := 409) (e_TCc (k := 402) (fun _ _ => rfl) (e_TCc (k := 405) (e_TCc (k := 403) (fun M h => by exfalso; omega) (fun _ _ => rfl)) (fun _ _ => rfl))) (fun _ _ => rfl)) (fun _ _ => rfl)))))
theorem ec_R {l : Launch} (M pc : Nat) : e_EOR 20 eft cls elay eI (eI M) l pc (ecode M pc) := by
  by_cases h126 : M = 126
  · subst h126
    exact (show e_EOR 20 eft cls elay eI n_126 l pc (te_126m pc) from te_126m_R pc)
  by_cases h127 : M = 127
  · subst h127
    exact (show e_EOR 20 eft cls elay eI n_127 l pc (te_127m pc) from te_127m_R pc)
  by_cases h128 : M = 128
  · subst h128
    exact (show e_EOR 20 eft cls elay eI n_128 l pc (te_128m pc) from te_128m_R pc)
  by_cases h249 : M = 249
  · subst h249
    exact (show e_EOR 20 eft cls elay eI n_249 l pc (te_249m pc) from e_EOR.of (te_249m_ok pc))
  by_cases h328 : M = 328
  · subst h328
    exact (show e_EOR 20 eft cls elay eI n_328 l pc (te_328m pc) from te_328m_R pc)
  by_cases h389 : M = 389
  · subst h389
    exact (show e_EOR 20 eft cls elay eI n_389 l pc (te_389m pc) from e_orb (Or.inr (mac_389 code1_tab)) (e_EOR.of (te_389_ok pc)))
  by_cases h403 : M = 403
  · subst h403
    exact (show e_EOR 20 eft cls elay eI n_403 l pc (te_403m pc) from e_orb (Or.inr mac_403) (e_EOR.of (te_403_ok pc)))
  rw [ec_off M ⟨h126, h127, h128, h249, h328, h389, h403⟩]
  exact e_EOR.of (e_tr_ok M pc)
theorem ec_tabR {l : Launch} : e_TabR 20 eft cls elay eI ecode l := ⟨by decide, ec_R, e_tab0.2.2.1, e_tab0.2.2.2⟩
/-! what it reaches -/
def e_inP (en : eE) : Prop := ∀ f a b, en = (0, f, a, b) → e_IN eft elay f
theorem e_inP.of {q : xM} {pc : Nat} {en : eE} (h : e_EOq eft cls elay eI q pc en) : e_inP en := fun f a b e => by
  rw [e] at h
  exact h.2.2
theorem e_inP.bif {b : Bool} {x y : eE} (hx : e_inP x) (hy : e_inP y) : e_inP (bif b then x else y) := by
  cases b
  · exact hy
  · exact hx
theorem e_inP.en {f : eS → Option eS} (h : e_IN eft elay f) : e_inP (0, f, 0, 0) := fun f' a b e => by cases e; exact h
theorem e_BB.m {B : Int → Prop} (hB : e_BB B) (h : B 275) : ∀ c, B c ↔ (275 ≤ c ∧ c ≤ 356) := by
  rcases hB with hB | hB
  · have := (hB 275).mp h
    omega
  · exact hB
theorem e_wB.hv {B : Int → Prop} {w : eW} (h : e_wB eft elay B w) : e_wB eft elay B (e_hv 280 w) := by
  have hy : elay[(280 : Int).toNat]? = some (1, 0, 4) := rfl
  refine ⟨fun c k hc hr => ?_, fun c k ci n hc hl h0 h1 => ?_⟩
  · have n : c ≠ 280 := fun e => by
      rw [e] at hr
      obtain ⟨kd, ci, n, g1, -, g2⟩ := hr
      rw [hy] at g1
      cases g1
      rcases g2 with g2 | g2 | g2
      · cases g2.1
      · cases g2
      · cases g2
    rw [show e_hv 280 w c k = w c k from if_neg n]
    exact h.1 c k hc hr
  · have n : c ≠ 280 := fun e => by
      rw [e, hy] at hl
      cases hl
    rw [show e_hv 280 w c k = w c k from if_neg n]
    exact h.2 c k ci _ hc hl h0 h1
theorem in_mTal : e_IN eft elay e_mTal := fun _ B hB t t' ht hI => by
  obtain ⟨p, l, st, w⟩ := t
  unfold e_mTal at ht
  simp only at ht
  split at ht
  · rename_i j x y h0 h1 h2
    split at ht
    · rename_i hc
      cases ht
      obtain ⟨rfl, -⟩ := hc
      have b5 : B 275 := by
        rcases hI.1 _ (e_find_mem h0) rfl with q | q
        · exact q
        · exact absurd q.1 (by decide)
      refine ⟨⟨hI.1, fun v hv => absurd hv List.not_mem_nil, hI.2.2.hv⟩, fun c k hc => if_neg (fun e => hc ?_)⟩
      rw [e]
      exact (hB.m b5 280).mpr (by decide)
    · cases ht
  · cases ht
theorem in_mCj : e_IN eft elay e_mCj := fun _ B hB t t' ht hI => by
  obtain ⟨p, l, st, w⟩ := t
  unfold e_mCj at ht
  simp only at ht
  split at ht
  · rename_i j x h0 h1
    split at ht
    · rename_i hc
      cases ht
      obtain ⟨rfl, -⟩ := hc
      have b5 : B 275 := by
        rcases hI.1 _ (e_find_mem h0) rfl with q | q
        · exact q
        · exact absurd q.1 (by decide)
      refine ⟨⟨fun v hv => absurd hv List.not_mem_nil, fun v hv => absurd hv List.not_mem_nil, hI.2.2.hv⟩, fun c k hc => if_neg (fun e => hc ?_)⟩
      rw [e]
      exact (hB.m b5 280).mpr (by decide)
    · cases ht
  · cases ht
theorem ec_in : e_InT eft elay ecode := fun M pc => by
  show e_inP (ecode M pc)
  by_cases h126 : M = 126
  · subst h126
    exact (show e_inP (te_126m pc) from (e_inP.bif (e_inP.en (nx_push (Or.inr ⟨by decide, by decide⟩)).2) (e_inP.bif (e_inP.en (nx_S bS_sl).2) (e_inP.bif (e_inP.en (nx_push (Or.inr ⟨by decide, by decide⟩)).2) (e_inP.bif (e_inP.en (nx_S bS_sc).2) (e_inP.of (te_126_ok pc)))))))
  by_cases h127 : M = 127
  · subst h127
    exact (show e_inP (te_127m pc) from (e_inP.bif (e_inP.en (nx_S bS_ml).2) (e_inP.of (te_127_ok pc))))
  by_cases h128 : M = 128
  · subst h128
    exact (show e_inP (te_128m pc) from (e_inP.bif (e_inP.en (nx_push (Or.inr ⟨by decide, by decide⟩)).2) (e_inP.bif (e_inP.en (nx_S bS_ix).2) (e_inP.of (te_128_ok pc)))))
  by_cases h249 : M = 249
  · subst h249
    exact (show e_inP (te_249m pc) from (e_inP.bif (e_inP.en (nx_push (Or.inr ⟨by decide, by decide⟩)).2) (e_inP.bif (e_inP.en (nx_S bS_sn).2) (e_inP.bif (e_inP.en (nx_push (Or.inr ⟨by decide, by decide⟩)).2) (e_inP.bif (e_inP.en (nx_S bS_sn).2) (e_inP.bif (e_inP.en (nx_push (Or.inr ⟨by decide, by decide⟩)).2) (e_inP.bif (e_inP.en (nx_S bS_sn).2) (e_inP.bif (e_inP.en (nx_push (Or.inr ⟨by decide, by decide⟩)).2) (e_inP.bif (e_inP.en (nx_S bS_sn).2) (e_inP.of (te_249_ok pc)))))))))))
  by_cases h328 : M = 328
  · subst h328
    exact (show e_inP (te_328m pc) from (e_inP.bif (e_inP.en (nx_push (Or.inr ⟨by decide, by decide⟩)).2) (e_inP.bif (e_inP.en (nx_S bS_sl).2) (e_inP.bif (e_inP.en (nx_push (Or.inr ⟨by decide, by decide⟩)).2) (e_inP.bif (e_inP.en (nx_S bS_sc).2) (e_inP.bif (e_inP.en (nx_push (Or.inr ⟨by decide, by decide⟩)).2) (e_inP.bif (e_inP.en (nx_S bS_sc).2) (e_inP.bif (e_inP.en (nx_push (Or.inr ⟨by decide, by decide⟩)).2) (e_inP.bif (e_inP.en (nx_S bS_sc).2) (e_inP.bif (e_inP.en (nx_push (Or.inr ⟨by decide, by decide⟩)).2) (e_inP.bif (e_inP.en (nx_S bS_sc).2) (e_inP.of (te_328_ok pc)))))))))))))
  by_cases h389 : M = 389
  · subst h389
    exact (show e_inP (te_389m pc) from (e_inP.bif (e_inP.en in_mTal) (e_inP.of (te_389_ok pc))))
  by_cases h403 : M = 403
  · subst h403
    exact (show e_inP (te_403m pc) from (e_inP.bif (e_inP.en in_mCj) (e_inP.of (te_403_ok pc))))
  rw [ec_off M ⟨h126, h127, h128, h249, h328, h389, h403⟩]
  exact e_inP.of (e_tr_ok M pc)
end
