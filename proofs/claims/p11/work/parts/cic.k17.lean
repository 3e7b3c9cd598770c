noncomputable section
/-! the class: the points of an arm are those of its values -/
theorem no_cic_0 {a : Int} (ha : 0 ≤ a ∧ a ≤ 3) : ¬ kPl a (17 * a + 86) 8 := by unfold kPl; omega
theorem no_cic_1 {a : Int} (ha : 0 ≤ a ∧ a ≤ 3) : ¬ kPl a (17 * a + 86) 1 := by unfold kPl; omega
theorem no_cic_2 {a : Int} (ha : 0 ≤ a ∧ a ≤ 3) : ¬ kPl a (17 * a + 86) 2 := by unfold kPl; omega
theorem no_cic_3 {a : Int} (ha : 0 ≤ a ∧ a ≤ 3) : ¬ kPl a (17 * a + 86) 0 := by unfold kPl; omega
theorem c_10_z {d : Nat} (hd : 22 ≤ d) {w : eW} (hT : e_Has kCy w) {a : Int} (g_a : 0 ≤ a ∧ a ≤ 3) (hx : kn1 (w (17 * a + 88) 0)) (hy : kn1 (w (17 * a + 89) 0)) (hv : ∀ j, 0 ≤ j → j < w (17 * a + 86) 8 → kn1 (w (17 * a + j + 97) 7)) : e_Ok 20 elay kcode eI d 10 (0, [(0, (1, 17 * a + 86))], [], w) (fun r w' => r = [] ∧ e_fr (kPl a) w w' ∧ e_Has kCy w' ∧ aK w' a) := by
  obtain ⟨d, rfl⟩ : ∃ e, d = e + 1 := ⟨d - 1, by omega⟩
  have hjn := kz_joints hT (a := a) (by omega)
  have hx0 := hx
  have hy0 := hy
  unfold kn1 at hx hy
  refine e_Ok.ps1 (x := (1, 17 * a + 86)) (q := 1) 1 rfl ?_
  refine e_Ok.getr (z := 17 * a + 88) rfl (lA0 (a := a) rfl g_a) rfl rfl (Eq.trans (e_Has.eq hT (kCy_c (kA_1 (a := a) rfl g_a))) (by omega)) (by omega) ?_
  refine e_Ok.ps1 (x := (0, 0)) (q := 5) 1 rfl ?_
  have h1 := ((fun i g1 g2 => by rw [show i = 0 by omega]; exact hx0 : e_kn w (17 * a + 88) 0 0) 0 (by omega) (by omega))
  refine e_Ok.ald (z := w (17 * a + 88) 0) rfl (lA2 (a := a) rfl g_a) rfl (by omega) rfl (by omega) ?_
  refine e_Ok.run (t' := (9, [(0, (1, 17 * a + 86))], [(0, 20), (4, w (17 * a + 88) 0)], w)) 2 rfl ?_
  refine e_Ok.anyS rfl ⟨_, rfl⟩ (fun x2 => ?_)
  refine e_Ok.run (t' := (12, [(1, (4, x2)), (0, (1, 17 * a + 86))], [(1, 17 * a + 86)], w)) 2 rfl ?_
  refine e_Ok.getr (z := 17 * a + 89) rfl (lA0 (a := a) rfl g_a) rfl rfl (Eq.trans (e_Has.eq hT (kCy_c (kA_2 (a := a) rfl g_a))) (by omega)) (by omega) ?_
  refine e_Ok.ps1 (x := (0, 0)) (q := 16) 1 rfl ?_
  have h3 := ((fun i g1 g2 => by rw [show i = 0 by omega]; exact hy0 : e_kn w (17 * a + 89) 0 0) 0 (by omega) (by omega))
  refine e_Ok.ald (z := w (17 * a + 89) 0) rfl (lA3 (a := a) rfl g_a) rfl (by omega) rfl (by omega) ?_
  refine e_Ok.run (t' := (20, [(1, (4, x2)), (0, (1, 17 * a + 86))], [(0, 20), (4, w (17 * a + 89) 0)], w)) 2 rfl ?_
  refine e_Ok.anyS rfl ⟨_, rfl⟩ (fun x4 => ?_)
  refine e_Ok.run (t' := (23, [(3, (4, x4)), (1, (4, x2)), (0, (1, 17 * a + 86))], [(1, 17 * a + 86)], w)) 2 rfl ?_
  have h5 := (e_Has.get hT (c := 17 * a + 86) (k := 9) (lo := (-2147483648)) (hi := 2147483647) (kCy_n (nh_A (a := a) (by omega) (by omega) (by decide)) (kA_9 (a := a) rfl g_a)) (by decide))
  refine e_Ok.getf (z := w (17 * a + 86) 9) rfl (lA0 (a := a) rfl g_a) rfl rfl rfl (e_bq h5 (by decide) (by decide)) ?_
  refine e_Ok.run (t' := (31, [(6, (0, 0)), (5, (0, w (17 * a + 86) 9)), (3, (4, x4)), (1, (4, x2)), (0, (1, 17 * a + 86))], [], w)) 3 rfl ?_
  have hL6 : ∀ (nn : Nat) (y1 : Int) (y3 : Int) (y5 : Int) (y6 : Int) (v1 : eW), e_fr (kPl a) w v1 ∧ e_Has kCy v1 ∧ e_kn v1 (17 * a + 88) 0 y6 ∧ e_kn v1 (17 * a + 89) 0 y6 ∧ y6 ≤ w (17 * a + 86) 8 ∧ ((-2147483648) ≤ y5 ∧ y5 ≤ 2147483647) ∧ (0 ≤ y6 ∧ y6 ≤ 6) → 6 - y6 < nn → e_Ok 20 elay kcode eI (d + 1) 10 (31, [(0, (1, 17 * a + 86)), (1, (4, y1)), (3, (4, y3)), (5, (0, y5)), (6, (0, y6))], [], v1) (fun r w' => r = [] ∧ e_fr (kPl a) w w' ∧ e_Has kCy w' ∧ aK w' a) := by
    intro nn
    induction nn with
    | zero => intro y1 y3 y5 y6 v1 hj hm; obtain ⟨j8, j9, j10, j11, j12, j13, j14⟩ := hj; exfalso; omega
    | succ nn ih7 =>
      intro y1 y3 y5 y6 v1 hj hm
      obtain ⟨j8, j9, j10, j11, j12, j13, j14⟩ := hj
      have l15 : v1 (17 * a + 86) 8 = w (17 * a + 86) 8 := j8 (17 * a + 86) 8 (by first | exact no_cic_0 (by omega) | (unfold kPl; omega))
      refine e_Ok.run (t' := (34, [(0, (1, 17 * a + 86)), (1, (4, y1)), (3, (4, y3)), (5, (0, y5)), (6, (0, y6))], [(1, 17 * a + 86), (0, y6)], v1)) 2 rfl ?_
      have h16 := (e_Has.get hT (c := 17 * a + 86) (k := 8) (lo := 0) (hi := 6) (kCy_n (nh_A (a := a) (by omega) (by omega) (by decide)) (kA_8 (a := a) rfl g_a)) (by decide))
      refine e_Ok.getf (z := w (17 * a + 86) 8) rfl (lA0 (a := a) rfl g_a) rfl rfl ((j8 (17 * a + 86) 8 (by first | exact no_cic_0 (by omega) | (unfold kPl; omega))).trans rfl) (e_bq h16 (by decide) (by decide)) ?_
      refine e_Ok.if2 rfl (fun h17 => ?_) (fun h17 => ?_)
      · replace h17 : (y6 : Int) ≥ w (17 * a + 86) 8 := h17
        refine e_Ok.ps1 (x := (1, 17 * a + 86)) (q := 167) 1 rfl ?_
        refine e_Ok.getr (z := 17 * a + 88) rfl (lA0 (a := a) rfl g_a) rfl rfl ((j8 (17 * a + 86) 1 (by first | exact no_cic_1 (by omega) | (unfold kPl; omega))).trans (Eq.trans (e_Has.eq hT (kCy_c (kA_1 (a := a) rfl g_a))) (by omega))) (by omega) ?_
        refine e_Ok.ps1 (x := (1, 17 * a + 86)) (q := 171) 1 rfl ?_
        refine e_Ok.getf (z := w (17 * a + 86) 8) rfl (lA0 (a := a) rfl g_a) rfl rfl ((j8 (17 * a + 86) 8 (by first | exact no_cic_0 (by omega) | (unfold kPl; omega))).trans rfl) (by omega) ?_
        refine e_Ok.ps1 (x := (0, 1)) (q := 175) 1 rfl ?_
        refine e_Ok.add (z := w (17 * a + 86) 8 + 1) rfl rfl (by omega) ?_
        refine e_Ok.ps1 (x := (1, 17 * a + 86)) (q := 177) 1 rfl ?_
        refine e_Ok.getr (z := 17 * a + 88) rfl (lA0 (a := a) rfl g_a) rfl rfl ((j8 (17 * a + 86) 1 (by first | exact no_cic_1 (by omega) | (unfold kPl; omega))).trans (Eq.trans (e_Has.eq hT (kCy_c (kA_1 (a := a) rfl g_a))) (by omega))) (by omega) ?_
        refine e_Ok.ps1 (x := (1, 17 * a + 86)) (q := 181) 1 rfl ?_
        refine e_Ok.getf (z := w (17 * a + 86) 8) rfl (lA0 (a := a) rfl g_a) rfl rfl ((j8 (17 * a + 86) 8 (by first | exact no_cic_0 (by omega) | (unfold kPl; omega))).trans rfl) (by omega) ?_
        have h18 := (j10 (w (17 * a + 86) 8) (by omega) (by omega))
        refine e_Ok.ald (z := v1 (17 * a + 88) (w (17 * a + 86) 8)) rfl (lA2 (a := a) rfl g_a) rfl (by omega) rfl (by omega) ?_
        refine e_Ok.ast rfl (lA2 (a := a) rfl g_a) rfl rfl (by omega) ?_
        generalize hw19 : e_up v1 (17 * a + 88) (w (17 * a + 86) 8 + 1) (v1 (17 * a + 88) (w (17 * a + 86) 8)) = w19
        have f20 : e_fr (kPl a) w w19 := e_fr.up j8 hw19 (by first | exact ⟨Or.inl (by omega), (by omega)⟩ | (unfold kPl; omega))
        have l21 : w19 (17 * a + 86) 8 = w (17 * a + 86) 8 := f20 (17 * a + 86) 8 (by first | exact no_cic_0 (by omega) | (unfold kPl; omega))
        have hT22 : e_Has kCy w19 := e_Has.ups j9 hw19 (kCy_no1 (kA88 (a := a) _ rfl g_a))
        refine e_Ok.ps1 (x := (1, 17 * a + 86)) (q := 187) 1 rfl ?_
        refine e_Ok.getr (z := 17 * a + 89) rfl (lA0 (a := a) rfl g_a) rfl rfl (e_uq hw19 (Or.inl (e_neo (by decide))) ((j8 (17 * a + 86) 2 (by first | exact no_cic_2 (by omega) | (unfold kPl; omega))).trans (Eq.trans (e_Has.eq hT (kCy_c (kA_2 (a := a) rfl g_a))) (by omega)))) (by omega) ?_
        refine e_Ok.ps1 (x := (1, 17 * a + 86)) (q := 191) 1 rfl ?_
        refine e_Ok.getf (z := w (17 * a + 86) 8) rfl (lA0 (a := a) rfl g_a) rfl rfl (e_uq hw19 (Or.inl (e_neo (by decide))) ((j8 (17 * a + 86) 8 (by first | exact no_cic_0 (by omega) | (unfold kPl; omega))).trans rfl)) (by omega) ?_
        refine e_Ok.ps1 (x := (0, 1)) (q := 195) 1 rfl ?_
        refine e_Ok.add (z := w (17 * a + 86) 8 + 1) rfl rfl (by omega) ?_
        refine e_Ok.ps1 (x := (1, 17 * a + 86)) (q := 197) 1 rfl ?_
        refine e_Ok.getr (z := 17 * a + 89) rfl (lA0 (a := a) rfl g_a) rfl rfl (e_uq hw19 (Or.inl (e_neo (by decide))) ((j8 (17 * a + 86) 2 (by first | exact no_cic_2 (by omega) | (unfold kPl; omega))).trans (Eq.trans (e_Has.eq hT (kCy_c (kA_2 (a := a) rfl g_a))) (by omega)))) (by omega) ?_
        refine e_Ok.ps1 (x := (1, 17 * a + 86)) (q := 201) 1 rfl ?_
        refine e_Ok.getf (z := w (17 * a + 86) 8) rfl (lA0 (a := a) rfl g_a) rfl rfl (e_uq hw19 (Or.inl (e_neo (by decide))) ((j8 (17 * a + 86) 8 (by first | exact no_cic_0 (by omega) | (unfold kPl; omega))).trans rfl)) (by omega) ?_
        have h23 := (j11 (w (17 * a + 86) 8) (by omega) (by omega))
        refine e_Ok.ald (z := v1 (17 * a + 89) (w (17 * a + 86) 8)) rfl (lA3 (a := a) rfl g_a) rfl (by omega) (e_uq hw19 (Or.inl (e_neo (by decide))) rfl) (by omega) ?_
        refine e_Ok.ast rfl (lA3 (a := a) rfl g_a) rfl rfl (by omega) ?_
        generalize hw24 : e_up w19 (17 * a + 89) (w (17 * a + 86) 8 + 1) (v1 (17 * a + 89) (w (17 * a + 86) 8)) = w24
        have f25 : e_fr (kPl a) w w24 := e_fr.up f20 hw24 (by first | exact ⟨Or.inr (by omega), (by omega)⟩ | (unfold kPl; omega))
        have l26 : w24 (17 * a + 86) 8 = w (17 * a + 86) 8 := f25 (17 * a + 86) 8 (by first | exact no_cic_0 (by omega) | (unfold kPl; omega))
        have hT27 : e_Has kCy w24 := e_Has.ups hT22 hw24 (kCy_no1 (kA89 (a := a) _ rfl g_a))
        refine e_Ok.rets rfl rfl ?_
        exact ⟨rfl, f25, hT27, (by unfold aK; rw [(show w24 (17 * a + 86) 8 = w (17 * a + 86) 8 from f25 _ _ (by unfold kPl; omega))]; exact ⟨e_kn_sub (e_kn.oth (e_kn.ext (e_kn_sub (a' := 0) (b' := y6) j10 (by omega) (by omega)) hw19 (by omega) (by omega)) hw24 (by omega)) (by omega) (by omega), e_kn_sub (e_kn.ext (e_kn.oth (e_kn_sub (a' := 0) (b' := y6) j11 (by omega) (by omega)) hw19 (by omega)) hw24 (by omega) (by omega)) (by omega) (by omega)⟩)⟩
      · replace h17 : (y6 : Int) < w (17 * a + 86) 8 := Int.not_le.mp (show ¬ ((y6 : Int) ≥ w (17 * a + 86) 8) from h17)
        have hvy := hv y6 (by omega) (by omega); unfold kn1 at hvy
        refine e_Ok.ps1 (x := (1, 17 * a + 86)) (q := 41) 1 rfl ?_
        refine e_Ok.getr (z := 17 * a + 87) rfl (lA0 (a := a) rfl g_a) rfl rfl ((j8 (17 * a + 86) 0 (by first | exact no_cic_3 (by omega) | (unfold kPl; omega))).trans (Eq.trans (e_Has.eq hT (kCy_c (kA_0 (a := a) rfl g_a))) (by omega))) (by omega) ?_
        refine e_Ok.ps1 (x := (0, y6)) (q := 46) 1 rfl ?_
        refine e_Ok.aald (z := 17 * a + y6 + 97) rfl (lA1 (a := a) rfl g_a) rfl (by omega) ((j8 (17 * a + 87) y6 (by unfold kPl; omega)).trans (Eq.trans (e_Has.eq hT (kCy_c (kA87 (a := a) rfl g_a (by omega)))) (by omega))) (by omega) ?_
        have h28 := (e_Has.get hT (c := 17 * a + y6 + 97) (k := 3) (lo := (-2147483648)) (hi := 2147483647) (kCy_n (nh_J (a := a) (j := y6) (by omega) (by omega) (by omega) (by decide)) (kJ_3 (a := a) (j := y6) (by omega) (by omega) (by omega))) (by decide))
        refine e_Ok.getf (z := w (17 * a + y6 + 97) 3) rfl (lJ (a := a) (j := y6) (by omega) (by omega) (by omega)) rfl rfl ((j8 (17 * a + y6 + 97) 3 (by unfold kPl; omega)).trans rfl) (e_bq h28 (by decide) (by decide)) ?_
        refine e_Ok.run (t' := (53, [(7, (0, w (17 * a + y6 + 97) 3)), (0, (1, 17 * a + 86)), (1, (4, y1)), (3, (4, y3)), (5, (0, y5)), (6, (0, y6))], [(1, 17 * a + 86)], v1)) 2 rfl ?_
        refine e_Ok.getr (z := 17 * a + 87) rfl (lA0 (a := a) rfl g_a) rfl rfl ((j8 (17 * a + 86) 0 (by first | exact no_cic_3 (by omega) | (unfold kPl; omega))).trans (Eq.trans (e_Has.eq hT (kCy_c (kA_0 (a := a) rfl g_a))) (by omega))) (by omega) ?_
        refine e_Ok.ps1 (x := (0, y6)) (q := 58) 1 rfl ?_
        refine e_Ok.aald (z := 17 * a + y6 + 97) rfl (lA1 (a := a) rfl g_a) rfl (by omega) ((j8 (17 * a + 87) y6 (by unfold kPl; omega)).trans (Eq.trans (e_Has.eq hT (kCy_c (kA87 (a := a) rfl g_a (by omega)))) (by omega))) (by omega) ?_
        have h29 := (e_Has.get hT (c := 17 * a + y6 + 97) (k := 0) (lo := (-2147483648)) (hi := 2147483647) (kCy_n (nh_J (a := a) (j := y6) (by omega) (by omega) (by omega) (by decide)) (kJ_0 (a := a) (j := y6) (by omega) (by omega) (by omega))) (by decide))
        refine e_Ok.getf (z := w (17 * a + y6 + 97) 0) rfl (lJ (a := a) (j := y6) (by omega) (by omega) (by omega)) rfl rfl ((j8 (17 * a + y6 + 97) 0 (by unfold kPl; omega)).trans rfl) (e_bq h29 (by decide) (by decide)) ?_
        refine e_Ok.if1 rfl (fun h30 => ?_) (fun h30 => ?_)
        · replace h30 : (w (17 * a + y6 + 97) 0 : Int) ≠ 0 := h30
          refine e_Ok.ps2 (x := (1, 17 * a + 86)) (y := (0, w (17 * a + y6 + 97) 3)) (q := 86) 2 rfl ?_
          refine e_Ok.getr (z := 17 * a + 87) rfl (lA0 (a := a) rfl g_a) rfl rfl ((j8 (17 * a + 86) 0 (by first | exact no_cic_3 (by omega) | (unfold kPl; omega))).trans (Eq.trans (e_Has.eq hT (kCy_c (kA_0 (a := a) rfl g_a))) (by omega))) (by omega) ?_
          refine e_Ok.ps1 (x := (0, y6)) (q := 91) 1 rfl ?_
          refine e_Ok.aald (z := 17 * a + y6 + 97) rfl (lA1 (a := a) rfl g_a) rfl (by omega) ((j8 (17 * a + 87) y6 (by unfold kPl; omega)).trans (Eq.trans (e_Has.eq hT (kCy_c (kA87 (a := a) rfl g_a (by omega)))) (by omega))) (by omega) ?_
          refine e_Ok.getf (z := w (17 * a + y6 + 97) 7) rfl (lJ (a := a) (j := y6) (by omega) (by omega) (by omega)) rfl rfl ((j8 (17 * a + y6 + 97) 7 (by unfold kPl; omega)).trans rfl) (by omega) ?_
          refine e_Ok.any rfl (eF_add_any _ _) (fun z31 z31a z31b => ?_)
          refine e_Ok.run (t' := (104, [(7, (0, z31)), (0, (1, 17 * a + 86)), (1, (4, y1)), (3, (4, y3)), (5, (0, y5)), (6, (0, y6))], [(0, y5), (4, z31), (4, y1)], v1)) 5 rfl ?_
          refine e_Ok.callS rfl (e_dq hd rfl) rfl rfl (c_250 (e_dq hd rfl) (by omega)) (fun r32 w33 h34 => ?_)
          obtain ⟨z36, rfl, rfl, q35r⟩ := h34
          refine e_Ok.nrm (q := 107) (st' := [(0, z36), (4, z31), (4, y1)]) rfl rfl ?_
          refine e_Ok.run (t' := (108, [(7, (0, z31)), (0, (1, 17 * a + 86)), (1, (4, y1)), (3, (4, y3)), (5, (0, y5)), (6, (0, y6))], [(4, z36), (4, z31), (4, y1)], v1)) 1 rfl ?_
          refine e_Ok.anyL rfl ⟨_, rfl⟩ (fun x37 => ?_)
          refine e_Ok.anyL rfl ⟨_, rfl⟩ (fun x38 => ?_)
          refine e_Ok.run (t' := (117, [(1, (4, x38)), (7, (0, z31)), (0, (1, 17 * a + 86)), (3, (4, y3)), (5, (0, y5)), (6, (0, y6))], [(0, y5), (4, z31), (4, y3)], v1)) 5 rfl ?_
          refine e_Ok.callS rfl (e_dq hd rfl) rfl rfl (c_249 (by omega)) (fun r40 w41 h42 => ?_)
          obtain ⟨z44, rfl, rfl, q43r⟩ := h42
          refine e_Ok.nrm (q := 120) (st' := [(0, z44), (4, z31), (4, y3)]) rfl rfl ?_
          refine e_Ok.run (t' := (121, [(1, (4, x38)), (7, (0, z31)), (0, (1, 17 * a + 86)), (3, (4, y3)), (5, (0, y5)), (6, (0, y6))], [(4, z44), (4, z31), (4, y3)], v1)) 1 rfl ?_
          refine e_Ok.anyL rfl ⟨_, rfl⟩ (fun x45 => ?_)
          refine e_Ok.anyL rfl ⟨_, rfl⟩ (fun x46 => ?_)
          refine e_Ok.run (t' := (125, [(3, (4, x46)), (1, (4, x38)), (7, (0, z31)), (0, (1, 17 * a + 86)), (5, (0, y5)), (6, (0, y6))], [(1, 17 * a + 86)], v1)) 2 rfl ?_
          refine e_Ok.getr (z := 17 * a + 88) rfl (lA0 (a := a) rfl g_a) rfl rfl ((j8 (17 * a + 86) 1 (by first | exact no_cic_1 (by omega) | (unfold kPl; omega))).trans (Eq.trans (e_Has.eq hT (kCy_c (kA_1 (a := a) rfl g_a))) (by omega))) (by omega) ?_
          refine e_Ok.ps2 (x := (0, 1)) (y := (0, y6)) (q := 131) 2 rfl ?_
          refine e_Ok.add (z := y6 + 1) rfl rfl (by omega) ?_
          refine e_Ok.ps2 (x := (4, 524288)) (y := (4, x38)) (q := 136) 2 rfl ?_
          refine e_Ok.anyL rfl ⟨_, rfl⟩ (fun x47 => ?_)
          refine e_Ok.ps1 (x := (0, 20)) (q := 139) 1 rfl ?_
          refine e_Ok.anyS rfl ⟨_, rfl⟩ (fun x48 => ?_)
          refine e_Ok.l2i rfl (fun z49 z49a z49b => ?_)
          refine e_Ok.ast rfl (lA2 (a := a) rfl g_a) rfl rfl (by omega) ?_
          generalize hw50 : e_up v1 (17 * a + 88) (y6 + 1) z49 = w50
          have f51 : e_fr (kPl a) w w50 := e_fr.up j8 hw50 (by first | exact ⟨Or.inl (by omega), (by omega)⟩ | (unfold kPl; omega))
          have l52 : w50 (17 * a + 86) 8 = w (17 * a + 86) 8 := f51 (17 * a + 86) 8 (by first | exact no_cic_0 (by omega) | (unfold kPl; omega))
          have hT53 : e_Has kCy w50 := e_Has.ups j9 hw50 (kCy_no1 (kA88 (a := a) _ rfl g_a))
          refine e_Ok.run (t' := (143, [(3, (4, x46)), (1, (4, x38)), (7, (0, z31)), (0, (1, 17 * a + 86)), (5, (0, y5)), (6, (0, y6))], [(1, 17 * a + 86)], w50)) 1 rfl ?_
          refine e_Ok.getr (z := 17 * a + 89) rfl (lA0 (a := a) rfl g_a) rfl rfl (e_uq hw50 (Or.inl (e_neo (by decide))) ((j8 (17 * a + 86) 2 (by first | exact no_cic_2 (by omega) | (unfold kPl; omega))).trans (Eq.trans (e_Has.eq hT (kCy_c (kA_2 (a := a) rfl g_a))) (by omega)))) (by omega) ?_
          refine e_Ok.ps2 (x := (0, 1)) (y := (0, y6)) (q := 149) 2 rfl ?_
          refine e_Ok.add (z := y6 + 1) rfl rfl (by omega) ?_
          refine e_Ok.ps2 (x := (4, 524288)) (y := (4, x46)) (q := 154) 2 rfl ?_
          refine e_Ok.anyL rfl ⟨_, rfl⟩ (fun x54 => ?_)
          refine e_Ok.ps1 (x := (0, 20)) (q := 157) 1 rfl ?_
          refine e_Ok.anyS rfl ⟨_, rfl⟩ (fun x55 => ?_)
          refine e_Ok.l2i rfl (fun z56 z56a z56b => ?_)
          refine e_Ok.ast rfl (lA3 (a := a) rfl g_a) rfl rfl (by omega) ?_
          generalize hw57 : e_up w50 (17 * a + 89) (y6 + 1) z56 = w57
          have f58 : e_fr (kPl a) w w57 := e_fr.up f51 hw57 (by first | exact ⟨Or.inr (by omega), (by omega)⟩ | (unfold kPl; omega))
          have l59 : w57 (17 * a + 86) 8 = w (17 * a + 86) 8 := f58 (17 * a + 86) 8 (by first | exact no_cic_0 (by omega) | (unfold kPl; omega))
          have hT60 : e_Has kCy w57 := e_Has.ups hT53 hw57 (kCy_no1 (kA89 (a := a) _ rfl g_a))
          refine e_Ok.inc (z := y6 + 1) rfl rfl (by first | with_reducible rfl | omega) (by omega) ?_
          show e_Ok 20 elay kcode eI (d + 1) 10 (163, [(6, (0, y6 + 1)), (3, (4, x46)), (1, (4, x38)), (7, (0, z31)), (0, (1, 17 * a + 86)), (5, (0, y5))], [], w57) _
          refine e_Ok.ps0 (q := 31) 1 rfl ?_
          refine e_Ok.sub kAlk (e_sub_of rfl ?_) (ih7 x38 x46 y5 (y6 + 1) w57 ⟨f58, hT60, (e_kn_sub (e_kn.oth (e_kn.ext j10 hw50 (by omega) (by omega)) hw57 (by omega)) (by omega) (by omega)), (e_kn_sub (e_kn.ext (e_kn.oth j11 hw50 (by omega)) hw57 (by omega) (by omega)) (by omega) (by omega)), by omega, by omega, by omega⟩ (by omega))
          exact ⟨rfl, rfl, rfl, rfl, rfl, trivial⟩
        · replace h30 : (w (17 * a + y6 + 97) 0 : Int) = 0 := Classical.not_not.mp (show ¬ ((w (17 * a + y6 + 97) 0 : Int) ≠ 0) from h30)
          refine e_Ok.ps2 (x := (1, 17 * a + 86)) (y := (0, y5)) (q := 68) 2 rfl ?_
          refine e_Ok.getr (z := 17 * a + 87) rfl (lA0 (a := a) rfl g_a) rfl rfl ((j8 (17 * a + 86) 0 (by first | exact no_cic_3 (by omega) | (unfold kPl; omega))).trans (Eq.trans (e_Has.eq hT (kCy_c (kA_0 (a := a) rfl g_a))) (by omega))) (by omega) ?_
          refine e_Ok.ps1 (x := (0, y6)) (q := 73) 1 rfl ?_
          refine e_Ok.aald (z := 17 * a + y6 + 97) rfl (lA1 (a := a) rfl g_a) rfl (by omega) ((j8 (17 * a + 87) y6 (by unfold kPl; omega)).trans (Eq.trans (e_Has.eq hT (kCy_c (kA87 (a := a) rfl g_a (by omega)))) (by omega))) (by omega) ?_
          refine e_Ok.getf (z := w (17 * a + y6 + 97) 7) rfl (lJ (a := a) (j := y6) (by omega) (by omega) (by omega)) rfl rfl ((j8 (17 * a + y6 + 97) 7 (by unfold kPl; omega)).trans rfl) (by omega) ?_
          refine e_Ok.any rfl (eF_add_any _ _) (fun z61 z61a z61b => ?_)
          refine e_Ok.run (t' := (104, [(5, (0, z61)), (7, (0, w (17 * a + y6 + 97) 3)), (0, (1, 17 * a + 86)), (1, (4, y1)), (3, (4, y3)), (6, (0, y6))], [(0, z61), (4, w (17 * a + y6 + 97) 3), (4, y1)], v1)) 6 rfl ?_
          refine e_Ok.callS rfl (e_dq hd rfl) rfl rfl (c_250 (e_dq hd rfl) (by omega)) (fun r62 w63 h64 => ?_)
          obtain ⟨z66, rfl, rfl, q65r⟩ := h64
          refine e_Ok.nrm (q := 107) (st' := [(0, z66), (4, w (17 * a + y6 + 97) 3), (4, y1)]) rfl rfl ?_
          refine e_Ok.run (t' := (108, [(5, (0, z61)), (7, (0, w (17 * a + y6 + 97) 3)), (0, (1, 17 * a + 86)), (1, (4, y1)), (3, (4, y3)), (6, (0, y6))], [(4, z66), (4, w (17 * a + y6 + 97) 3), (4, y1)], v1)) 1 rfl ?_
          refine e_Ok.anyL rfl ⟨_, rfl⟩ (fun x67 => ?_)
          refine e_Ok.anyL rfl ⟨_, rfl⟩ (fun x68 => ?_)
          refine e_Ok.run (t' := (117, [(1, (4, x68)), (5, (0, z61)), (7, (0, w (17 * a + y6 + 97) 3)), (0, (1, 17 * a + 86)), (3, (4, y3)), (6, (0, y6))], [(0, z61), (4, w (17 * a + y6 + 97) 3), (4, y3)], v1)) 5 rfl ?_
          refine e_Ok.callS rfl (e_dq hd rfl) rfl rfl (c_249 (by omega)) (fun r69 w70 h71 => ?_)
          obtain ⟨z73, rfl, rfl, q72r⟩ := h71
          refine e_Ok.nrm (q := 120) (st' := [(0, z73), (4, w (17 * a + y6 + 97) 3), (4, y3)]) rfl rfl ?_
          refine e_Ok.run (t' := (121, [(1, (4, x68)), (5, (0, z61)), (7, (0, w (17 * a + y6 + 97) 3)), (0, (1, 17 * a + 86)), (3, (4, y3)), (6, (0, y6))], [(4, z73), (4, w (17 * a + y6 + 97) 3), (4, y3)], v1)) 1 rfl ?_
          refine e_Ok.anyL rfl ⟨_, rfl⟩ (fun x74 => ?_)
          refine e_Ok.anyL rfl ⟨_, rfl⟩ (fun x75 => ?_)
          refine e_Ok.run (t' := (125, [(3, (4, x75)), (1, (4, x68)), (5, (0, z61)), (7, (0, w (17 * a + y6 + 97) 3)), (0, (1, 17 * a + 86)), (6, (0, y6))], [(1, 17 * a + 86)], v1)) 2 rfl ?_
          refine e_Ok.getr (z := 17 * a + 88) rfl (lA0 (a := a) rfl g_a) rfl rfl ((j8 (17 * a + 86) 1 (by first | exact no_cic_1 (by omega) | (unfold kPl; omega))).trans (Eq.trans (e_Has.eq hT (kCy_c (kA_1 (a := a) rfl g_a))) (by omega))) (by omega) ?_
          refine e_Ok.ps2 (x := (0, 1)) (y := (0, y6)) (q := 131) 2 rfl ?_
          refine e_Ok.add (z := y6 + 1) rfl rfl (by omega) ?_
          refine e_Ok.ps2 (x := (4, 524288)) (y := (4, x68)) (q := 136) 2 rfl ?_
          refine e_Ok.anyL rfl ⟨_, rfl⟩ (fun x76 => ?_)
          refine e_Ok.ps1 (x := (0, 20)) (q := 139) 1 rfl ?_
          refine e_Ok.anyS rfl ⟨_, rfl⟩ (fun x77 => ?_)
          refine e_Ok.l2i rfl (fun z78 z78a z78b => ?_)
          refine e_Ok.ast rfl (lA2 (a := a) rfl g_a) rfl rfl (by omega) ?_
          generalize hw79 : e_up v1 (17 * a + 88) (y6 + 1) z78 = w79
          have f80 : e_fr (kPl a) w w79 := e_fr.up j8 hw79 (by first | exact ⟨Or.inl (by omega), (by omega)⟩ | (unfold kPl; omega))
          have l81 : w79 (17 * a + 86) 8 = w (17 * a + 86) 8 := f80 (17 * a + 86) 8 (by first | exact no_cic_0 (by omega) | (unfold kPl; omega))
          have hT82 : e_Has kCy w79 := e_Has.ups j9 hw79 (kCy_no1 (kA88 (a := a) _ rfl g_a))
          refine e_Ok.run (t' := (143, [(3, (4, x75)), (1, (4, x68)), (5, (0, z61)), (7, (0, w (17 * a + y6 + 97) 3)), (0, (1, 17 * a + 86)), (6, (0, y6))], [(1, 17 * a + 86)], w79)) 1 rfl ?_
          refine e_Ok.getr (z := 17 * a + 89) rfl (lA0 (a := a) rfl g_a) rfl rfl (e_uq hw79 (Or.inl (e_neo (by decide))) ((j8 (17 * a + 86) 2 (by first | exact no_cic_2 (by omega) | (unfold kPl; omega))).trans (Eq.trans (e_Has.eq hT (kCy_c (kA_2 (a := a) rfl g_a))) (by omega)))) (by omega) ?_
          refine e_Ok.ps2 (x := (0, 1)) (y := (0, y6)) (q := 149) 2 rfl ?_
          refine e_Ok.add (z := y6 + 1) rfl rfl (by omega) ?_
          refine e_Ok.ps2 (x := (4, 524288)) (y := (4, x75)) (q := 154) 2 rfl ?_
          refine e_Ok.anyL rfl ⟨_, rfl⟩ (fun x83 => ?_)
          refine e_Ok.ps1 (x := (0, 20)) (q := 157) 1 rfl ?_
          refine e_Ok.anyS rfl ⟨_, rfl⟩ (fun x84 => ?_)
          refine e_Ok.l2i rfl (fun z85 z85a z85b => ?_)
          refine e_Ok.ast rfl (lA3 (a := a) rfl g_a) rfl rfl (by omega) ?_
          generalize hw86 : e_up w79 (17 * a + 89) (y6 + 1) z85 = w86
          have f87 : e_fr (kPl a) w w86 := e_fr.up f80 hw86 (by first | exact ⟨Or.inr (by omega), (by omega)⟩ | (unfold kPl; omega))
          have l88 : w86 (17 * a + 86) 8 = w (17 * a + 86) 8 := f87 (17 * a + 86) 8 (by first | exact no_cic_0 (by omega) | (unfold kPl; omega))
          have hT89 : e_Has kCy w86 := e_Has.ups hT82 hw86 (kCy_no1 (kA89 (a := a) _ rfl g_a))
          refine e_Ok.inc (z := y6 + 1) rfl rfl (by first | with_reducible rfl | omega) (by omega) ?_
          show e_Ok 20 elay kcode eI (d + 1) 10 (163, [(6, (0, y6 + 1)), (3, (4, x75)), (1, (4, x68)), (5, (0, z61)), (7, (0, w (17 * a + y6 + 97) 3)), (0, (1, 17 * a + 86))], [], w86) _
          refine e_Ok.ps0 (q := 31) 1 rfl ?_
          refine e_Ok.sub kAlk (e_sub_of rfl ?_) (ih7 x68 x75 z61 (y6 + 1) w86 ⟨f87, hT89, (e_kn_sub (e_kn.oth (e_kn.ext j10 hw79 (by omega) (by omega)) hw86 (by omega)) (by omega) (by omega)), (e_kn_sub (e_kn.ext (e_kn.oth j11 hw79 (by omega)) hw86 (by omega) (by omega)) (by omega) (by omega)), by omega, by omega, by omega⟩ (by omega))
          exact ⟨rfl, rfl, rfl, rfl, rfl, trivial⟩
  refine e_Ok.sub kAlk (e_sub_of rfl ?_) (hL6 (6 + 1 : Int).toNat x2 x4 (w (17 * a + 86) 9) 0 w ⟨(e_fr.refl w), hT, (fun i g1 g2 => by rw [show i = 0 by omega]; exact hx0), (fun i g1 g2 => by rw [show i = 0 by omega]; exact hy0), by omega, by omega, by omega⟩ (by omega))
  exact ⟨rfl, rfl, rfl, rfl, rfl, trivial⟩section Cic
variable {w w' v : eW}
/-- what an arm's points depend on: what was told, and the values of its joints -/
def Kp (w : eW) (a c k : Int) : Prop := Kq c k ∨ ∃ j, (0 ≤ j ∧ j < w (17 * a + 86) 8) ∧ c = 17 * a + j + 97 ∧ k = 7
def PLC (w : eW) (a : Int) : eW := (k_phi 10 (0, [(0, (1, 17 * a + 86))], [], e_pz (Kp w a) w)).2
/-- the points are those of the values -/
def aP (w : eW) (a : Int) : Prop := ∀ k, 1 ≤ k → k ≤ w (17 * a + 86) 8 + 1 → w (17 * a + 88) k = PLC w a (17 * a + 88) k ∧ w (17 * a + 89) k = PLC w a (17 * a + 89) k
theorem PLC_eq {a : Int} (h8 : w' (17 * a + 86) 8 = w (17 * a + 86) 8) (h : ∀ c k, Kp w a c k → w' c k = w c k) : PLC w' a = PLC w a := by
  have e : Kp w' a = Kp w a := by
    funext c k
    unfold Kp
    rw [h8]
  unfold PLC
  rw [e, e_pz_eq h]
theorem aP.eq {a : Int} (h8 : w' (17 * a + 86) 8 = w (17 * a + 86) 8) (h : ∀ c k, Kp w a c k → w' c k = w c k) (hx : ∀ k, 1 ≤ k → w' (17 * a + 88) k = w (17 * a + 88) k ∧ w' (17 * a + 89) k = w (17 * a + 89) k) (q : aP w a) : aP w' a := fun k g1 g2 => by
  rw [h8] at g2
  rw [PLC_eq h8 h, (hx k g1).1, (hx k g1).2]
  exact q k g1 g2
theorem Kq_0 {c k : Int} (h : (0 ≤ c ∧ c ≤ 274) ∧ ¬ kNh c k) : Kq c k := ⟨h.1, Or.inl h.2⟩
theorem c_10_p {d : Nat} (hd : 22 ≤ d) (hT : e_Has kTy w) {a : Int} (ga : 0 ≤ a ∧ a ≤ 3) (hx : kn1 (w (17 * a + 88) 0)) (hy : kn1 (w (17 * a + 89) 0)) : e_Ok 20 elay kcode eI d 10 (0, [(0, (1, 17 * a + 86))], [], w) (fun r w' => r = [] ∧ e_fr (kPl a) w w' ∧ e_Has kTy w' ∧ aK w' a ∧ aP w' a) := by
  have hjn := kn_joints hT ga
  have k8 : Kq (17 * a + 86) 8 := Kq_0 ⟨by omega, nh_A (a := a) rfl ga (by decide)⟩
  have kx : Kq (17 * a + 88) 0 := Kq_0 ⟨by omega, nh_X (a := a) (Or.inl rfl) ga (by decide)⟩
  have ky : Kq (17 * a + 89) 0 := Kq_0 ⟨by omega, nh_X (a := a) (Or.inr rfl) ga (by decide)⟩
  have hz := c_10_z (d := d) hd (w := e_pz (Kp w a) w) (fun c k hl => by rw [e_pz_in (Or.inl (kCy_q hl))]; exact kTy.cy hT c k hl) ga (by rw [e_pz_in (Or.inl kx)]; exact hx) (by rw [e_pz_in (Or.inl ky)]; exact hy) (fun j g1 g2 => by
    rw [e_pz_in (Or.inl k8)] at g2
    rw [e_pz_in (Or.inr ⟨j, ⟨g1, g2⟩, rfl, rfl⟩)]
    exact e_Has.get hT (kJ_7 (a := a) (j := j) rfl ga (by omega)) (by decide))
  refine (k_rel (nd1 _ _) (e_pz_rf _ w) hz (c_10 (e_dq0 hd rfl) hT ga hx hy)).imp (fun r w' g => ?_)
  obtain ⟨⟨⟨g1, g2, g3, g4⟩, -, g5⟩, -⟩ := g
  have hP := k_phi_ok hz
  have e8 : w' (17 * a + 86) 8 = w (17 * a + 86) 8 := g2 _ _ (by unfold kPl; omega)
  have ep : PLC w' a = PLC w a := PLC_eq e8 (fun c k q => g2 c k (fun g => by
    unfold kPl at g
    rcases q with q | ⟨j, hj, rfl, rfl⟩
    · rcases q.2 with q | q
      · exact q (pl_nh ga g.1 (by omega))
      · rcases g.1 with g6 | g6
        · rw [kA88 (a := a) k g6 ga] at q; exact absurd q (by decide)
        · rw [kA89 (a := a) k g6 ga] at q; exact absurd q (by decide)
    · omega))
  have a8 : PLC w a (17 * a + 86) 8 = w (17 * a + 86) 8 := (hP.2.1 _ _ (by unfold kPl; omega)).trans (e_pz_in (Or.inl k8))
  have z : aK (PLC w a) a := hP.2.2.2
  unfold aK at z
  rw [a8] at z
  refine ⟨g1, g2, g3, g4, fun k h1 h2 => ?_⟩
  rw [e8] at h2
  rw [ep]
  exact ⟨kn1.rf (w := PLC w a) (z.1 k (by omega) h2) g5, kn1.rf (w := PLC w a) (z.2 k (by omega) h2) g5⟩
/-- points stay those of the values -/
def aQ (w w' : eW) : Prop := ∀ b, 0 ≤ b → b ≤ 3 → aP w b → aP w' b
theorem aQ.refl (w : eW) : aQ w w := fun _ _ _ h => h
theorem aQ.trans (h : aQ w v) (h' : aQ v w') : aQ w w' := fun b g1 g2 q => h' b g1 g2 (h b g1 g2 q)
theorem aQ.q (f : e_fr kNq w w') (hT : e_Has kTy w) (hT' : e_Has kTy w') : aQ w w' := fun b g1 g2 h => by
  have hjn := kn_joints hT (a := b) ⟨g1, g2⟩
  refine h.eq (f _ _ (nq_A (a := b) rfl ⟨g1, g2⟩ (by decide))) (fun c k q => ?_) (fun k g => ⟨f _ _ (nq_X (a := b) (Or.inl rfl) ⟨g1, g2⟩), f _ _ (nq_X (a := b) (Or.inr rfl) ⟨g1, g2⟩)⟩)
  rcases q with q | ⟨j, hj, rfl, rfl⟩
  · exact Kq.of (f.mono (fun c k g => Or.inl (nq_nw g))) hT hT' c k q
  · exact f _ _ (nq_J (a := b) (j := j) rfl ⟨g1, g2⟩ (by omega) (by decide))
theorem aQ.go {a : Int} (ga : 0 ≤ a ∧ a ≤ 3) (f : e_fr (kGo a) w w') (hT : e_Has kTy w) (hT' : e_Has kTy w') (ha : aP w a → aP w' a) : aQ w w' := fun b g1 g2 h => by
  by_cases e : b = a
  · rw [e] at h ⊢
    exact ha h
  · have hjn := kn_joints hT (a := b) ⟨g1, g2⟩
    refine h.eq (f _ _ (by unfold kGo; omega)) (fun c k q => ?_) (fun k g => ⟨f _ _ (by unfold kGo; omega), f _ _ (by unfold kGo; omega)⟩)
    rcases q with q | ⟨j, hj, rfl, rfl⟩
    · exact Kq.of (f.mono (fun c k g => Or.inl (nw_kGo ga g))) hT hT' c k q
    · exact f _ _ (by unfold kGo; omega)
/-- an arm's values and points are as they were -/
theorem aP.same {a : Int} (ga : 0 ≤ a ∧ a ≤ 3) (f : e_fr (kGo a) w w') (hT : e_Has kTy w) (hT' : e_Has kTy w') (hv : ∀ i, 0 ≤ i → i < w (17 * a + 86) 8 → w' (17 * a + i + 97) 7 = w (17 * a + i + 97) 7) (hx : ∀ k, w' (17 * a + 88) k = w (17 * a + 88) k ∧ w' (17 * a + 89) k = w (17 * a + 89) k) (h : aP w a) : aP w' a := by
  refine h.eq (f _ _ (by unfold kGo; omega)) (fun c k q => ?_) (fun k _ => hx k)
  rcases q with q | ⟨j, hj, rfl, rfl⟩
  · exact Kq.of (f.mono (fun c k g => Or.inl (nw_kGo ga g))) hT hT' c k q
  · exact hv j hj.1 hj.2
end Cic

end
