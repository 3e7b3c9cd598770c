noncomputable section
/-! the class's table, with its macros, may be trusted; what it reaches -/
theorem kc_R {l : Launch} (M pc : Nat) : e_EOR 20 eft cls elay eI (eI M) l pc (kcode M pc) := by
  by_cases h1 : M = 259
  · subst h1
    exact (show e_EOR 20 eft cls elay eI n_259 l pc (te_259m pc) from e_orb (Or.inr (mac_259 code1_tab)) (e_EOR.of (te_259_ok pc)))
  by_cases h2 : M = 260
  · subst h2
    exact (show e_EOR 20 eft cls elay eI n_260 l pc (te_260m pc) from e_orb (Or.inr (mac_260 code1_tab)) (e_EOR.of (te_260_ok pc)))
  by_cases h3 : M = 261
  · subst h3
    exact (show e_EOR 20 eft cls elay eI n_261 l pc (te_261m pc) from e_orb (Or.inr (mac_261 code1_tab)) (e_EOR.of (te_261_ok pc)))
  by_cases h4 : M = 262
  · subst h4
    exact (show e_EOR 20 eft cls elay eI n_262 l pc (te_262m pc) from e_orb (Or.inr (mac_262 code1_tab)) (e_EOR.of (te_262_ok pc)))
  have e : kcode M = ecode M := by
    unfold kcode
    rw [x_nb h1, x_nb h2, x_nb h3, x_nb h4]
    rfl
  rw [e]
  exact ec_R M pc
theorem kc_tabR {l : Launch} : e_TabR 20 eft cls elay eI kcode l := ⟨by decide, kc_R, e_tab0.2.2.1, e_tab0.2.2.2⟩
theorem e_BB.k {B : Int → Prop} (hB : e_BB B) (h : B 0) : ∀ c, B c ↔ (0 ≤ c ∧ c ≤ 274) := by
  rcases hB with hB | hB
  · exact hB
  · have := (hB 0).mp h
    omega
theorem kHv_int {c k : Int} (h : kHv c k) : ¬ e_rfs eft elay c k ∧ ∀ ci n : Nat, elay[c.toNat]? ≠ some (2, ci, n) := by
  rcases h with ⟨rfl, h0, h1⟩ | ⟨rfl, h0, h1⟩
  · have hy : elay[(274 : Int).toNat]? = some (1, 0, 4) := rfl
    refine ⟨fun hr => ?_, fun ci n hc => ?_⟩
    · obtain ⟨kd, ci, n, g1, -, g2⟩ := hr
      rw [hy] at g1
      cases g1
      rcases g2 with g2 | g2 | g2
      · cases g2.1
      · cases g2
      · cases g2
    · rw [hy] at hc
      cases hc
  · refine ⟨fun hr => ?_, fun ci n hc => ?_⟩
    · obtain ⟨kd, ci, n, g1, -, g2⟩ := hr
      have hy : elay[(250 : Int).toNat]? = some (0, 9, 17) := rfl
      rw [hy] at g1
      cases g1
      rcases g2 with g2 | g2 | g2
      · rcases (show k = 13 ∨ k = 14 ∨ k = 15 ∨ k = 16 by omega) with rfl | rfl | rfl | rfl
        · exact g2.2 rfl
        · exact g2.2 rfl
        · exact g2.2 rfl
        · exact g2.2 rfl
      · cases g2
      · cases g2
    · have hy : elay[(250 : Int).toNat]? = some (0, 9, 17) := rfl
      rw [hy] at hc
      cases hc
theorem in_jp {P : eL → eW → Prop} {tg : Nat} (hP : ∀ l w, P l w → e_find l 0 = some (1, 0)) : e_IN eft elay (kJp P tg) := fun _ B hB t t' ht hI => by
  obtain ⟨p, l, st, w⟩ := t
  unfold kJp at ht
  match st with
  | [] =>
    simp only at ht
    split at ht
    · rename_i hq
      cases ht
      have b0 : B 0 := by
        rcases hI.1 _ (e_find_mem (hP _ _ hq)) rfl with q | q
        · exact q
        · exact absurd q.1 (by decide)
      have hk := hB.k b0
      refine ⟨⟨hI.1, fun v hv => absurd hv List.not_mem_nil, ⟨fun c k hc hr => ?_, fun c k ci n hc hy h0 h1 => ?_⟩⟩, fun c k hc => e_hk_ne (fun q => hc ?_)⟩
      · show e_hk w c k = -1 ∨ B (e_hk w c k) ∨ (357 ≤ e_hk w c k ∧ e_hk w c k ≤ 400)
        rw [e_hk_ne (fun q => (kHv_int q).1 hr)]
        exact hI.2.2.1 c k hc hr
      · show -128 ≤ e_hk w c k ∧ e_hk w c k ≤ 127
        rw [e_hk_ne (fun q => (kHv_int q).2 ci n hy)]
        exact hI.2.2.2 c k ci n hc hy h0 h1
      · refine (hk c).mpr ?_
        unfold kHv at q
        omega
    · cases ht
  | _ :: _ => cases ht
theorem kc_in : e_InT eft elay kcode := fun M pc => by
  show e_inP (kcode M pc)
  by_cases h1 : M = 259
  · subst h1
    exact (show e_inP (te_259m pc) from e_inP.bif (e_inP.en (in_jp (fun _ _ q => q.1))) (e_inP.of (te_259_ok pc)))
  by_cases h2 : M = 260
  · subst h2
    exact (show e_inP (te_260m pc) from e_inP.bif (e_inP.en (in_jp (fun _ _ q => q.1))) (e_inP.of (te_260_ok pc)))
  by_cases h3 : M = 261
  · subst h3
    exact (show e_inP (te_261m pc) from e_inP.bif (e_inP.en (in_jp (fun _ _ q => q.1))) (e_inP.of (te_261_ok pc)))
  by_cases h4 : M = 262
  · subst h4
    exact (show e_inP (te_262m pc) from e_inP.bif (e_inP.en (in_jp (fun _ _ q => q.1))) (e_inP.of (te_262_ok pc)))
  have e : kcode M = ecode M := by
    unfold kcode
    rw [x_nb h1, x_nb h2, x_nb h3, x_nb h4]
    rfl
  rw [e]
  exact ec_in M pc
end
