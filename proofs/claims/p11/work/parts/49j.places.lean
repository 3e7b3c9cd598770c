noncomputable section
/-! the places where a text is asked -/
theorem mac_text {M M' na pc : Nat} {g : List eV → Option (Nat × List eV)} {l : Launch} (hM : I3 M = eI M) (hE : x_Cl (xm_b (I3 M)) (xm_y (I3 M)).cls (xm_l (I3 M)) (xm_y (I3 M)).name (xm_c (I3 M)) (xm_s (I3 M)) pc (I3 M') na) (h : ∀ (st : List eV) (q : Nat × List eV), g st = some q → q.1 = pc + 3 ∧ e_may 1 elay 12 M' na (I3 M') st (st.take na).reverse (st.drop na) = true ∧ ∃ r, q.2 = r ++ st.drop na ∧ ∀ w, e_Ok 1 elay code3 I3 12 M' (0, e_ent 0 (st.take na).reverse, [], w) (jQ r w)) : e_Mac 20 eft cls elay (eI M) l pc (e_S g) := by
  rw [← hM]
  intro d ad ce sl p e R s m args below meth c D A H0 Q hfd C hce hsl hd hdl hA t t' l' u ht hf hs hu IH
  subst ht
  unfold e_S at hf
  cases hgt : g t.2.2.1 with
  | none => rw [hgt] at hf; cases hf
  | some q =>
    rw [hgt] at hf
    have hf' : some (q.1, t.2.1, q.2, t.2.2.2) = some t' := hf
    cases hf'
    obtain ⟨q1, hm, r, q2, hok⟩ := h _ _ hgt
    have hb := hm
    unfold e_may at hb
    simp only [Bool.and_eq_true] at hb
    obtain ⟨r1, w1, ⟨hr1, hw1⟩, hMet⟩ := e_Ok.met (l := l) tab3 (by decide) (Nat.le_of_ble_eq_true hb.2.2.2.2.1) (hok u)
    subst hr1
    subst hw1
    refine e_call tab3 (M := M) (M' := M') (d' := 12) (t := (t.1, l', t.2.2.1, w1)) hE hm hMet C hce hsl (by omega) (by omega) hA ?_
    have key := IH l' w1 hs hu
    have e : (q.1, l', q.2, w1) = ((t.1 + 3, l', r1 ++ t.2.2.1.drop na, w1) : eS) := by rw [q1, q2]
    show e_Good _ _ _ _ _ _ _ _ _ _ _ _ _ _ _ _ _ _ _ _ _ (t.1 + 3, l', r1 ++ t.2.2.1.drop na, w1)
    rw [← e]
    exact key
theorem g_sl_ok {pc : Nat} : ∀ (st : List eV) (q : Nat × List eV), g_sl (pc + 3) st = some q → q.1 = pc + 3 ∧ e_may 1 elay 12 501 1 (I3 501) st (st.take 1).reverse (st.drop 1) = true ∧ ∃ r, q.2 = r ++ st.drop 1 ∧ ∀ w, e_Ok 1 elay code3 I3 12 501 (0, e_ent 0 (st.take 1).reverse, [], w) (jQ r w) := by
  intro st q h
  unfold g_sl at h
  split at h
  · rename_i j r
    cases hb : Nat.ble (e_cats r) 8 with
    | false => rw [hb] at h; cases h
    | true =>
      rw [hb] at h
      unfold e_len at h
      by_cases h1 : j = 357
      · subst h1
        cases h
        refine ⟨rfl, ?_, [(0, 171)], rfl, fun w => j_501_12_357⟩
        show e_may 1 elay 12 501 1 (I3 501) ((1, 357) :: r) [(1, 357)] r = true
        unfold e_may
        rw [hb]
        rfl
      · by_cases h2 : j = 358
        · subst h2
          cases h
          refine ⟨rfl, ?_, [(0, 13)], rfl, fun w => j_501_12_358⟩
          show e_may 1 elay 12 501 1 (I3 501) ((1, 358) :: r) [(1, 358)] r = true
          unfold e_may
          rw [hb]
          rfl
        · simp only [cond_true, if_neg h1, if_neg h2] at h
          cases h
  · cases h
theorem g_sc_ok {pc : Nat} : ∀ (st : List eV) (q : Nat × List eV), g_sc (pc + 3) st = some q → q.1 = pc + 3 ∧ e_may 1 elay 12 506 2 (I3 506) st (st.take 2).reverse (st.drop 2) = true ∧ ∃ r, q.2 = r ++ st.drop 2 ∧ ∀ w, e_Ok 1 elay code3 I3 12 506 (0, e_ent 0 (st.take 2).reverse, [], w) (jQ r w) := by
  intro st q h
  unfold g_sc at h
  split at h
  · rename_i i j r
    cases hb : Nat.ble (e_cats r) 8 with
    | false => rw [hb] at h; cases h
    | true =>
      rw [hb] at h
      unfold e_chr at h
      by_cases h1 : j = 357 ∧ 0 ≤ i ∧ i < 171
      · rw [if_pos h1] at h
        obtain ⟨rfl, h0, h2⟩ := h1
        cases h
        refine ⟨rfl, ?_, [(0, (e_key.getD i.toNat 0).toInt)], rfl, fun w => j_506 h0 h2⟩
        show e_may 1 elay 12 506 2 (I3 506) ((0, i) :: (1, 357) :: r) [(1, 357), (0, i)] r = true
        unfold e_may
        rw [hb]
        rfl
      · rw [if_neg h1] at h
        by_cases h3 : j = 358 ∧ 0 ≤ i ∧ i < 13
        · rw [if_pos h3] at h
          obtain ⟨rfl, h0, h2⟩ := h3
          cases h
          refine ⟨rfl, ?_, [(0, (e_sgn.getD i.toNat 0).toInt)], rfl, fun w => j_506s h0 h2⟩
          show e_may 1 elay 12 506 2 (I3 506) ((0, i) :: (1, 358) :: r) [(1, 358), (0, i)] r = true
          unfold e_may
          rw [hb]
          rfl
        · rw [if_neg h3] at h
          cases h
  · cases h
theorem g_ix_ok {pc : Nat} : ∀ (st : List eV) (q : Nat × List eV), g_ix (pc + 3) st = some q → q.1 = pc + 3 ∧ e_may 1 elay 12 511 2 (I3 511) st (st.take 2).reverse (st.drop 2) = true ∧ ∃ r, q.2 = r ++ st.drop 2 ∧ ∀ w, e_Ok 1 elay code3 I3 12 511 (0, e_ent 0 (st.take 2).reverse, [], w) (jQ r w) := by
  intro st q h
  unfold g_ix at h
  split at h
  · rename_i c j r
    cases hb : Nat.ble (e_cats r) 8 with
    | false => rw [hb] at h; cases h
    | true =>
      rw [hb] at h
      unfold e_idx at h
      by_cases h1 : j = 358
      · subst h1
        replace h : some (pc + 3, (0, jIx c) :: r) = some q := h
        cases h
        refine ⟨rfl, ?_, [(0, jIx c)], rfl, fun w => j_511⟩
        show e_may 1 elay 12 511 2 (I3 511) ((0, c) :: (1, 358) :: r) [(1, 358), (0, c)] r = true
        unfold e_may
        rw [hb]
        rfl
      · simp only [cond_true, if_neg h1] at h
        cases h
  · cases h

theorem mac_126_17 {l : Launch} : e_Mac 20 eft cls elay (eI 126) l 17 (e_S (g_sl 20)) := mac_text (M := 126) (M' := 501) rfl (show x_Cl (xm_b n_126) (xm_y n_126).cls (xm_l n_126) (xm_y n_126).name (xm_c n_126) (xm_s n_126) 17 n_501 1 from xr_callV (q' := n_501) (ix := 108) (n := 0) (in_t5 (List.mem_of_getElem? (i := 118) rfl) rfl) good_w (in_t1 (List.mem_of_getElem? (i := 16) rfl) rfl) (in_t5 (List.mem_of_getElem? (i := 115) rfl) rfl) (in_t5 (List.mem_of_getElem? (i := 116) rfl) rfl) (in_t5 (List.mem_of_getElem? (i := 117) rfl) rfl) (by decide +kernel) (by decide +kernel) (by decide +kernel) (x_dk dn_126_0_0_ok 11 rfl)) g_sl_ok
theorem mac_126_27 {l : Launch} : e_Mac 20 eft cls elay (eI 126) l 27 (e_S (g_sc 30)) := mac_text (M := 126) (M' := 506) rfl (show x_Cl (xm_b n_126) (xm_y n_126).cls (xm_l n_126) (xm_y n_126).name (xm_c n_126) (xm_s n_126) 27 n_506 2 from xr_callV (q' := n_506) (ix := 112) (n := 1) (in_t5 (List.mem_of_getElem? (i := 128) rfl) rfl) good_w (in_t1 (List.mem_of_getElem? (i := 16) rfl) rfl) (in_t5 (List.mem_of_getElem? (i := 125) rfl) rfl) (in_t5 (List.mem_of_getElem? (i := 126) rfl) rfl) (in_t5 (List.mem_of_getElem? (i := 127) rfl) rfl) (by decide +kernel) (by decide +kernel) (by decide +kernel) (x_dk dn_126_0_0_ok 15 rfl)) g_sc_ok
theorem mac_128_14 {l : Launch} : e_Mac 20 eft cls elay (eI 128) l 14 (e_S (g_ix 17)) := mac_text (M := 128) (M' := 511) rfl (show x_Cl (xm_b n_128) (xm_y n_128).cls (xm_l n_128) (xm_y n_128).name (xm_c n_128) (xm_s n_128) 14 n_511 2 from xr_callV (q' := n_511) (ix := 137) (n := 1) (in_t5 (List.mem_of_getElem? (i := 171) rfl) rfl) good_w (in_t1 (List.mem_of_getElem? (i := 16) rfl) rfl) (in_t5 (List.mem_of_getElem? (i := 168) rfl) rfl) (in_t5 (List.mem_of_getElem? (i := 169) rfl) rfl) (in_t5 (List.mem_of_getElem? (i := 170) rfl) rfl) (by decide +kernel) (by decide +kernel) (by decide +kernel) (x_dk dn_128_0_0_ok 9 rfl)) g_ix_ok
theorem mac_328_66 {l : Launch} : e_Mac 20 eft cls elay (eI 328) l 66 (e_S (g_sl 69)) := mac_text (M := 328) (M' := 501) rfl (show x_Cl (xm_b n_328) (xm_y n_328).cls (xm_l n_328) (xm_y n_328).name (xm_c n_328) (xm_s n_328) 66 n_501 1 from xr_callV (q' := n_501) (ix := 517) (n := 0) (in_t5 (List.mem_of_getElem? (i := 118) rfl) rfl) good_w (in_t1 (List.mem_of_getElem? (i := 16) rfl) rfl) (in_t11 (List.mem_of_getElem? (i := 231) rfl) rfl) (in_t5 (List.mem_of_getElem? (i := 116) rfl) rfl) (in_t5 (List.mem_of_getElem? (i := 117) rfl) rfl) (by decide +kernel) (by decide +kernel) (by decide +kernel) (x_dk dn_328_0_1_ok 10 rfl)) g_sl_ok
theorem mac_328_82 {l : Launch} : e_Mac 20 eft cls elay (eI 328) l 82 (e_S (g_sc 85)) := mac_text (M := 328) (M' := 506) rfl (show x_Cl (xm_b n_328) (xm_y n_328).cls (xm_l n_328) (xm_y n_328).name (xm_c n_328) (xm_s n_328) 82 n_506 2 from xr_callV (q' := n_506) (ix := 522) (n := 1) (in_t5 (List.mem_of_getElem? (i := 128) rfl) rfl) good_w (in_t1 (List.mem_of_getElem? (i := 16) rfl) rfl) (in_t11 (List.mem_of_getElem? (i := 232) rfl) rfl) (in_t5 (List.mem_of_getElem? (i := 126) rfl) rfl) (in_t5 (List.mem_of_getElem? (i := 127) rfl) rfl) (by decide +kernel) (by decide +kernel) (by decide +kernel) (x_dk dn_328_0_1_ok 18 rfl)) g_sc_ok
theorem mac_328_97 {l : Launch} : e_Mac 20 eft cls elay (eI 328) l 97 (e_S (g_sc 100)) := mac_text (M := 328) (M' := 506) rfl (show x_Cl (xm_b n_328) (xm_y n_328).cls (xm_l n_328) (xm_y n_328).name (xm_c n_328) (xm_s n_328) 97 n_506 2 from xr_callV (q' := n_506) (ix := 522) (n := 1) (in_t5 (List.mem_of_getElem? (i := 128) rfl) rfl) good_w (in_t1 (List.mem_of_getElem? (i := 16) rfl) rfl) (in_t11 (List.mem_of_getElem? (i := 232) rfl) rfl) (in_t5 (List.mem_of_getElem? (i := 126) rfl) rfl) (in_t5 (List.mem_of_getElem? (i := 127) rfl) rfl) (by decide +kernel) (by decide +kernel) (by decide +kernel) (x_dk dn_328_0_2_ok 0 rfl)) g_sc_ok
theorem mac_328_127 {l : Launch} : e_Mac 20 eft cls elay (eI 328) l 127 (e_S (g_sc 130)) := mac_text (M := 328) (M' := 506) rfl (show x_Cl (xm_b n_328) (xm_y n_328).cls (xm_l n_328) (xm_y n_328).name (xm_c n_328) (xm_s n_328) 127 n_506 2 from xr_callV (q' := n_506) (ix := 522) (n := 1) (in_t5 (List.mem_of_getElem? (i := 128) rfl) rfl) good_w (in_t1 (List.mem_of_getElem? (i := 16) rfl) rfl) (in_t11 (List.mem_of_getElem? (i := 232) rfl) rfl) (in_t5 (List.mem_of_getElem? (i := 126) rfl) rfl) (in_t5 (List.mem_of_getElem? (i := 127) rfl) rfl) (by decide +kernel) (by decide +kernel) (by decide +kernel) (x_dk dn_328_0_2_ok 14 rfl)) g_sc_ok
theorem mac_328_163 {l : Launch} : e_Mac 20 eft cls elay (eI 328) l 163 (e_S (g_sc 166)) := mac_text (M := 328) (M' := 506) rfl (show x_Cl (xm_b n_328) (xm_y n_328).cls (xm_l n_328) (xm_y n_328).name (xm_c n_328) (xm_s n_328) 163 n_506 2 from xr_callV (q' := n_506) (ix := 522) (n := 1) (in_t5 (List.mem_of_getElem? (i := 128) rfl) rfl) good_w (in_t1 (List.mem_of_getElem? (i := 16) rfl) rfl) (in_t11 (List.mem_of_getElem? (i := 232) rfl) rfl) (in_t5 (List.mem_of_getElem? (i := 126) rfl) rfl) (in_t5 (List.mem_of_getElem? (i := 127) rfl) rfl) (by decide +kernel) (by decide +kernel) (by decide +kernel) (x_dk dn_328_0_3_ok 7 rfl)) g_sc_ok
theorem e_EOR.of {fd : Nat} {ft : Nat → Nat → Nat} {cl : List vw_C} {lay : List eY} {I : Nat → xM} {q : xM} {l : Launch} {pc : Nat} {en : eE} (h : e_EOq ft cl lay I q pc en) : e_EOR fd ft cl lay I q l pc en := by
  obtain ⟨k, f, a, b⟩ := en
  match k, h with
  | 0, h => exact Or.inl ⟨h.1, h.2.1⟩
  | 1, h => exact h
  | 2, h => exact h
  | _ + 3, _ => trivial
theorem e_orb {fd : Nat} {ft : Nat → Nat → Nat} {cl : List vw_C} {lay : List eY} {I : Nat → xM} {q : xM} {l : Launch} {pc k : Nat} {f : eS → Option eS} {b : eE} (h1 : (e_Snd ft cl lay (xm_b q) (xm_y q).cls (xm_l q) (xm_y q).name (xm_c q) (xm_s q) k f ∧ e_NI lay f) ∨ e_Mac fd ft cl lay q l k f) (h2 : e_EOR fd ft cl lay I q l pc b) : e_EOR fd ft cl lay I q l pc (bif Nat.beq pc k then (0, f, 0, 0) else b) := by
  cases hb : Nat.beq pc k with
  | true =>
    have e := Nat.eq_of_beq_eq_true hb
    subst e
    exact h1
  | false => exact h2
theorem e_oqb {ft : Nat → Nat → Nat} {cl : List vw_C} {lay : List eY} {I : Nat → xM} {q : xM} {pc k : Nat} {f : eS → Option eS} {b : eE} (h1 : e_Snd ft cl lay (xm_b q) (xm_y q).cls (xm_l q) (xm_y q).name (xm_c q) (xm_s q) k f ∧ (e_NI lay f ∧ e_IN ft lay f)) (h2 : e_EOq ft cl lay I q pc b) : e_EOq ft cl lay I q pc (bif Nat.beq pc k then (0, f, 0, 0) else b) := by
  cases hb : Nat.beq pc k with
  | true =>
    have e := Nat.eq_of_beq_eq_true hb
    subst e
    exact h1
  | false => exact h2
theorem te_126m_R {l : Launch} (pc : Nat) : e_EOR 20 eft cls elay eI n_126 l pc (te_126m pc) := (e_orb (Or.inl ⟨er_ldcK (x_dk dn_126_0_0_ok 10 rfl), ni_push⟩) (e_orb (Or.inr mac_126_17) (e_orb (Or.inl ⟨er_ldcK (x_dk dn_126_0_0_ok 13 rfl), ni_push⟩) (e_orb (Or.inr mac_126_27) (e_EOR.of (te_126_ok pc))))))
theorem te_127m_R {l : Launch} (pc : Nat) : e_EOR 20 eft cls elay eI n_127 l pc (te_127m pc) := (e_orb (Or.inl ⟨er_ml (ix := 122) (in_t5 (List.mem_of_getElem? (i := 99) rfl) rfl) (in_t5 (List.mem_of_getElem? (i := 100) rfl) rfl) (in_t1 (List.mem_of_getElem? (i := 15) rfl) rfl) (in_t5 (List.mem_of_getElem? (i := 101) rfl) rfl) (x_dk dn_127_0_1_ok 0 rfl), ni_S⟩) (e_EOR.of (te_127_ok pc)))
theorem te_128m_R {l : Launch} (pc : Nat) : e_EOR 20 eft cls elay eI n_128 l pc (te_128m pc) := (e_orb (Or.inl ⟨er_ldcG (x_dk dn_128_0_0_ok 6 rfl), ni_push⟩) (e_orb (Or.inr mac_128_14) (e_EOR.of (te_128_ok pc))))
theorem te_328m_R {l : Launch} (pc : Nat) : e_EOR 20 eft cls elay eI n_328 l pc (te_328m pc) := (e_orb (Or.inl ⟨er_ldcM (x_dk dn_328_0_1_ok 9 rfl), ni_push⟩) (e_orb (Or.inr mac_328_66) (e_orb (Or.inl ⟨er_ldcM (x_dk dn_328_0_1_ok 14 rfl), ni_push⟩) (e_orb (Or.inr mac_328_82) (e_orb (Or.inl ⟨er_ldcM (x_dk dn_328_0_1_ok 21 rfl), ni_push⟩) (e_orb (Or.inr mac_328_97) (e_orb (Or.inl ⟨er_ldcM (x_dk dn_328_0_2_ok 10 rfl), ni_push⟩) (e_orb (Or.inr mac_328_127) (e_orb (Or.inl ⟨er_ldcM (x_dk dn_328_0_3_ok 5 rfl), ni_push⟩) (e_orb (Or.inr mac_328_163) (e_EOR.of (te_328_ok pc))))))))))))
theorem te_249m_ok (pc : Nat) : e_EOq eft cls elay eI n_249 pc (te_249m pc) := (e_oqb ⟨er_sines (ix := 407) (in_t4 (List.mem_of_getElem? (i := 32) rfl) rfl) (x_dk dn_249_0_0_ok 7 rfl), nx_push (Or.inr ⟨by decide, by decide⟩)⟩ (e_oqb ⟨er_sn (x_dk dn_249_0_0_ok 9 rfl), nx_S bS_sn⟩ (e_oqb ⟨er_sines (ix := 407) (in_t4 (List.mem_of_getElem? (i := 32) rfl) rfl) (x_dk dn_249_0_0_ok 14 rfl), nx_push (Or.inr ⟨by decide, by decide⟩)⟩ (e_oqb ⟨er_sn (x_dk dn_249_0_0_ok 18 rfl), nx_S bS_sn⟩ (e_oqb ⟨er_sines (ix := 407) (in_t4 (List.mem_of_getElem? (i := 32) rfl) rfl) (x_dk dn_249_0_0_ok 23 rfl), nx_push (Or.inr ⟨by decide, by decide⟩)⟩ (e_oqb ⟨er_sn (x_dk dn_249_0_1_ok 2 rfl), nx_S bS_sn⟩ (e_oqb ⟨er_sines (ix := 407) (in_t4 (List.mem_of_getElem? (i := 32) rfl) rfl) (x_dk dn_249_0_1_ok 5 rfl), nx_push (Or.inr ⟨by decide, by decide⟩)⟩ (e_oqb ⟨er_sn (x_dk dn_249_0_1_ok 9 rfl), nx_S bS_sn⟩ (te_249_ok pc)))))))))
theorem code1_tab : e_Tab 1 eft cls elay eI code1 := by
  refine ⟨by decide, fun M pc => ?_, e_tab0.2.2.1, e_tab0.2.2.2⟩
  unfold code1
  cases hb : Nat.beq M 249 with
  | true =>
    have e := Nat.eq_of_beq_eq_true hb
    subst e
    exact te_249m_ok pc
  | false => exact e_tr_ok M pc
end
