noncomputable section

theorem no_9s_0 {k : Int} : ¬ mNc 275 k := by unfold mNc; omega
theorem no_9s_1 {k : Int} : ¬ mNc 286 k := by unfold mNc; omega
theorem no_9s_2 {k : Int} : ¬ mNc 276 k := by unfold mNc; omega
theorem no_9s_3 {k : Int} : ¬ mNc 288 k := by unfold mNc; omega
theorem no_9s_4 {k : Int} : ¬ mNc 289 k := by unfold mNc; omega
set_option maxHeartbeats 4000000 in
theorem c_409 {d : Nat} (hd : 21 ≤ d) {w : eW} (hT : e_Has mTy w) {a n : Int} (ha : 0 ≤ a ∧ a ≤ 3) (hn : 1 ≤ n ∧ n ≤ 16) (hV : ∀ j, 0 ≤ j → j < w 286 a → w 288 (6 * a + j) ≤ w 276 (36 * a + j + 32) ∧ w 276 (36 * a + j + 32) ≤ w 289 (6 * a + j)) : e_Ok 20 elay ecode eI d 409 (0, [(0, (1, 275)), (1, (0, a)), (2, (0, n))], [], w) (fun r w' => ∃ z : Int, r = [(0, z)] ∧ e_fr mNc w w' ∧ (∀ j, 0 ≤ j → j < w 286 a → ncJ w w' a n j) ∧ ((z = 1001 ∧ 1000 < prd (fun k => w' 347 k) (w 286 a).toNat) ∨ ((1 ≤ z ∧ z ≤ 1000) ∧ z = prd (fun k => w' 347 k) (w 286 a).toNat))) := by
  obtain ⟨d, rfl⟩ : ∃ e, d = e + 1 := ⟨d - 1, by omega⟩
  have hjt := e_Has.get hT (c := 286) (k := a) (lo := 0) (hi := 6) (mt_o rfl) (by decide)
  refine e_Ok.run (t' := (5, [(5, (0, 0)), (3, (4, 1)), (0, (1, 275)), (1, (0, a)), (2, (0, n))], [], w)) 4 rfl ?_
  have hL1 : ∀ (nn : Nat) (y3 : Int) (y5 : Int) (v1 : eW), e_fr mNc w v1 ∧ (0 ≤ y5 ∧ y5 ≤ w 286 a) ∧ (1 ≤ y3 ∧ y3 ≤ 200001000) ∧ (∀ j, 0 ≤ j → j < y5 → ncJ w v1 a n j) ∧ (((1000 < y3 ∧ 1000 < prd (fun k => v1 347 k) y5.toNat) ∨ y3 = prd (fun k => v1 347 k) y5.toNat)) → 7 - y5 < nn → e_Ok 20 elay ecode eI (d + 1) 409 (5, [(0, (1, 275)), (1, (0, a)), (2, (0, n)), (3, (4, y3)), (5, (0, y5))], [], v1) (fun r w' => ∃ z : Int, r = [(0, z)] ∧ e_fr mNc w w' ∧ (∀ j, 0 ≤ j → j < w 286 a → ncJ w w' a n j) ∧ ((z = 1001 ∧ 1000 < prd (fun k => w' 347 k) (w 286 a).toNat) ∨ ((1 ≤ z ∧ z ≤ 1000) ∧ z = prd (fun k => w' 347 k) (w 286 a).toNat))) := by
    intro nn
    induction nn with
    | zero => intro y3 y5 v1 hj hm; obtain ⟨j3, j4, j5, j6, j7⟩ := hj; exfalso; omega
    | succ nn ih2 =>
      intro y3 y5 v1 hj hm
      obtain ⟨j3, j4, j5, j6, j7⟩ := hj
      refine e_Ok.run (t' := (8, [(0, (1, 275)), (1, (0, a)), (2, (0, n)), (3, (4, y3)), (5, (0, y5))], [(1, 275), (0, y5)], v1)) 2 rfl ?_
      refine e_Ok.getr (z := 286) rfl (el_o rfl) rfl (ef_o rfl) ((j3 275 15 no_9s_0).trans (e_Has.eq hT (mt_o rfl))) ⟨by decide, by decide⟩ ?_
      refine e_Ok.ps1 (x := (0, a)) (q := 12) 1 rfl ?_
      refine e_Ok.ald (z := w 286 a) rfl (el_o rfl) rfl (by omega) ((j3 286 a no_9s_1).trans rfl) (by omega) ?_
      refine e_Ok.if2 rfl (fun h8 => ?_) (fun h8 => ?_)
      · replace h8 : (y5 : Int) ≥ w 286 a := h8
        refine e_Ok.ps2 (x := (4, 1000)) (y := (4, y3)) (q := 132) 2 rfl ?_
        refine e_Ok.lcmp rfl (fun z9 z9a z9b z9c => ?_)
        refine e_Ok.if1 rfl (fun h10 => ?_) (fun h10 => ?_)
        · replace h10 : (z9 : Int) ≤ 0 := h10
          refine e_Ok.ps1 (x := (4, y3)) (q := 143) 1 rfl ?_
          refine e_Ok.l2ix rfl (by omega) ?_
          refine e_Ok.rets rfl rfl ?_
          exact ⟨_, rfl, j3, fun j g1 g2 => j6 j g1 (by omega), Or.inr ⟨by omega, by rcases j7 with g | g; exact absurd g.1 (by omega); rw [show (w 286 a).toNat = y5.toNat by omega]; exact g⟩⟩
        · replace h10 : (z9 : Int) > 0 := Int.not_le.mp (show ¬ ((z9 : Int) ≤ 0) from h10)
          refine e_Ok.ps1 (x := (0, 1001)) (q := 144) 2 rfl ?_
          refine e_Ok.rets rfl rfl ?_
          exact ⟨_, rfl, j3, fun j g1 g2 => j6 j g1 (by omega), Or.inl ⟨rfl, by rw [show (w 286 a).toNat = y5.toNat by omega]; rcases j7 with g | g; exact g.2; rw [← g]; omega⟩⟩
      · replace h8 : (y5 : Int) < w 286 a := Int.not_le.mp (show ¬ ((y5 : Int) ≥ w 286 a) from h8)
        refine e_Ok.ps1 (x := (1, 275)) (q := 17) 1 rfl ?_
        refine e_Ok.getr (z := 276) rfl (el_o rfl) rfl (ef_o rfl) ((j3 275 0 no_9s_0).trans (e_Has.eq hT (mt_o rfl))) ⟨by decide, by decide⟩ ?_
        refine e_Ok.ps1 (x := (0, a)) (q := 21) 1 rfl ?_
        refine e_Ok.callS rfl (e_dq hd rfl) rfl rfl (c_268 (by omega)) (fun r11 w12 h13 => ?_)
        obtain ⟨rfl, rfl⟩ := h13
        refine e_Ok.nrm (q := 24) (st' := [(0, 36 * a + 16), (1, 276)]) rfl rfl ?_
        refine e_Ok.ps1 (x := (0, 16)) (q := 26) 1 rfl ?_
        refine e_Ok.add (z := 36 * a + 32) rfl (e_adl (by decide)) (by omega) ?_
        refine e_Ok.ps1 (x := (0, y5)) (q := 29) 1 rfl ?_
        refine e_Ok.add (z := 36 * a + y5 + 32) rfl (by omega) (by omega) ?_
        have h14 := (e_Has.get hT (c := 276) (k := 36 * a + y5 + 32) (lo := (-100000)) (hi := 100000) (nR_VALUE (a := a) (j := y5) (by omega) (by omega)) (by decide))
        refine e_Ok.ald (z := w 276 (36 * a + y5 + 32)) rfl (el_o rfl) rfl (by omega) ((j3 276 (36 * a + y5 + 32) no_9s_2).trans rfl) (e_bq h14 (by decide) (by decide)) ?_
        refine e_Ok.run (t' := (33, [(6, (0, w 276 (36 * a + y5 + 32))), (0, (1, 275)), (1, (0, a)), (2, (0, n)), (3, (4, y3)), (5, (0, y5))], [], v1)) 1 rfl ?_
        have hvj := hV y5 (by omega) (by omega)
        refine e_Ok.ps2 (x := (1, 275)) (y := (0, w 276 (36 * a + y5 + 32))) (q := 36) 2 rfl ?_
        refine e_Ok.getr (z := 288) rfl (el_o rfl) rfl (ef_o rfl) ((j3 275 17 no_9s_0).trans (e_Has.eq hT (mt_o rfl))) ⟨by decide, by decide⟩ ?_
        refine e_Ok.ps2 (x := (0, a)) (y := (0, 6)) (q := 42) 2 rfl ?_
        refine e_Ok.mul (z := 6 * a) rfl rfl (by omega) ?_
        refine e_Ok.ps1 (x := (0, y5)) (q := 45) 1 rfl ?_
        refine e_Ok.add (z := 6 * a + y5) rfl rfl (by omega) ?_
        have h15 := (e_Has.get hT (c := 288) (k := 6 * a + y5) (lo := (-100000)) (hi := 0) (mt_o rfl) (by decide))
        refine e_Ok.ald (z := w 288 (6 * a + y5)) rfl (el_o rfl) rfl (by omega) ((j3 288 (6 * a + y5) no_9s_3).trans rfl) (e_bq h15 (by decide) (by decide)) ?_
        refine e_Ok.sub' (z := w 276 (36 * a + y5 + 32) - w 288 (6 * a + y5)) rfl rfl (by omega) ?_
        refine e_Ok.ps1 (x := (0, n)) (q := 49) 1 rfl ?_
        have z16q := div_bd (x := w 276 (36 * a + y5 + 32) - w 288 (6 * a + y5)) (n := n) (m := w 276 (36 * a + y5 + 32) - w 288 (6 * a + y5)) (by omega) (by omega)
        refine e_Ok.divn (fun z16 hz16 => ?_) rfl (by omega) (by omega)
        replace hz16 : z16 = (w 276 (36 * a + y5 + 32) - w 288 (6 * a + y5)) / n := hz16
        rw [← hz16] at z16q
        obtain ⟨z16r, z16m⟩ := z16q
        refine e_Ok.run (t' := (53, [(7, (0, z16)), (6, (0, w 276 (36 * a + y5 + 32))), (0, (1, 275)), (1, (0, a)), (2, (0, n)), (3, (4, y3)), (5, (0, y5))], [(1, 275)], v1)) 2 rfl ?_
        refine e_Ok.getr (z := 289) rfl (el_o rfl) rfl (ef_o rfl) ((j3 275 18 no_9s_0).trans (e_Has.eq hT (mt_o rfl))) ⟨by decide, by decide⟩ ?_
        refine e_Ok.ps2 (x := (0, a)) (y := (0, 6)) (q := 59) 2 rfl ?_
        refine e_Ok.mul (z := 6 * a) rfl rfl (by omega) ?_
        refine e_Ok.ps1 (x := (0, y5)) (q := 62) 1 rfl ?_
        refine e_Ok.add (z := 6 * a + y5) rfl rfl (by omega) ?_
        have h17 := (e_Has.get hT (c := 289) (k := 6 * a + y5) (lo := 0) (hi := 100000) (mt_o rfl) (by decide))
        refine e_Ok.ald (z := w 289 (6 * a + y5)) rfl (el_o rfl) rfl (by omega) ((j3 289 (6 * a + y5) no_9s_4).trans rfl) (e_bq h17 (by decide) (by decide)) ?_
        refine e_Ok.ps1 (x := (0, w 276 (36 * a + y5 + 32))) (q := 66) 1 rfl ?_
        refine e_Ok.sub' (z := w 289 (6 * a + y5) - w 276 (36 * a + y5 + 32)) rfl rfl (by omega) ?_
        refine e_Ok.ps1 (x := (0, n)) (q := 68) 1 rfl ?_
        have z18q := div_bd (x := w 289 (6 * a + y5) - w 276 (36 * a + y5 + 32)) (n := n) (m := w 289 (6 * a + y5) - w 276 (36 * a + y5 + 32)) (by omega) (by omega)
        refine e_Ok.divn (fun z18 hz18 => ?_) rfl (by omega) (by omega)
        replace hz18 : z18 = (w 289 (6 * a + y5) - w 276 (36 * a + y5 + 32)) / n := hz18
        rw [← hz18] at z18q
        obtain ⟨z18r, z18m⟩ := z18q
        refine e_Ok.run (t' := (72, [(8, (0, z18)), (7, (0, z16)), (6, (0, w 276 (36 * a + y5 + 32))), (0, (1, 275)), (1, (0, a)), (2, (0, n)), (3, (4, y3)), (5, (0, y5))], [(1, 275)], v1)) 2 rfl ?_
        refine e_Ok.getr (z := 348) rfl (el_o rfl) rfl (ef_o rfl) ((j3 275 105 no_9s_0).trans (e_Has.eq hT (mt_o rfl))) ⟨by decide, by decide⟩ ?_
        refine e_Ok.ps4 (x := (0, n)) (y := (0, z16)) (z := (0, w 276 (36 * a + y5 + 32))) (u := (0, y5)) (q := 82) 4 rfl ?_
        refine e_Ok.mul (z := z16 * n) rfl rfl (by omega) ?_
        refine e_Ok.sub' (z := w 276 (36 * a + y5 + 32) - z16 * n) rfl rfl (by omega) ?_
        refine e_Ok.ast rfl (el_o rfl) rfl rfl (by omega) ?_
        generalize hw19 : e_up v1 348 y5 (w 276 (36 * a + y5 + 32) - z16 * n) = w19
        refine e_Ok.ps1 (x := (1, 275)) (q := 86) 1 rfl ?_
        refine e_Ok.getr (z := 347) rfl (el_o rfl) rfl (ef_o rfl) (e_uq hw19 (Or.inl (by decide)) ((j3 275 104 no_9s_0).trans (e_Has.eq hT (mt_o rfl)))) ⟨by decide, by decide⟩ ?_
        refine e_Ok.ps3 (x := (0, z18)) (y := (0, z16)) (z := (0, y5)) (q := 95) 3 rfl ?_
        refine e_Ok.add (z := z16 + z18) rfl rfl (by omega) ?_
        refine e_Ok.ps1 (x := (0, 1)) (q := 97) 1 rfl ?_
        refine e_Ok.add (z := z16 + z18 + 1) rfl rfl (by omega) ?_
        refine e_Ok.ast rfl (el_o rfl) rfl rfl (by omega) ?_
        generalize hw21 : e_up w19 347 y5 (z16 + z18 + 1) = w21
        have f22 : e_fr mNc w w21 := e_fr.up (show e_fr mNc w w19 from e_fr.up j3 hw19 (by first | exact Or.inr rfl | (unfold mNc; omega))) hw21 (by first | exact Or.inl rfl | (unfold mNc; omega))
        refine e_Ok.ps2 (x := (4, 1000)) (y := (4, y3)) (q := 103) 2 rfl ?_
        refine e_Ok.lcmp rfl (fun z23 z23a z23b z23c => ?_)
        refine e_Ok.if1 rfl (fun h24 => ?_) (fun h24 => ?_)
        · replace h24 : (z23 : Int) ≤ 0 := h24
          have hml := mul_bd (x := y3) (y := z16 + z18 + 1) (m := 1000) (n := 200001) (by omega) (by omega)
          refine e_Ok.ps2 (x := (1, 275)) (y := (4, y3)) (q := 113) 2 rfl ?_
          refine e_Ok.getr (z := 347) rfl (el_o rfl) rfl (ef_o rfl) (e_uq hw21 (Or.inl (by decide)) (e_uq hw19 (Or.inl (by decide)) ((j3 275 104 no_9s_0).trans (e_Has.eq hT (mt_o rfl))))) ⟨by decide, by decide⟩ ?_
          refine e_Ok.ps1 (x := (0, y5)) (q := 118) 1 rfl ?_
          refine e_Ok.ald (z := z16 + z18 + 1) rfl (el_o rfl) rfl (by omega) (e_ue hw21) (by omega) ?_
          refine e_Ok.run (t' := (120, [(8, (0, z18)), (7, (0, z16)), (6, (0, w 276 (36 * a + y5 + 32))), (0, (1, 275)), (1, (0, a)), (2, (0, n)), (3, (4, y3)), (5, (0, y5))], [(4, z16 + z18 + 1), (4, y3)], w21)) 1 rfl ?_
          refine e_Ok.mulL (z := y3 * (z16 + z18 + 1)) rfl (by omega) (by omega) ?_
          refine e_Ok.run (t' := (122, [(3, (4, y3 * (z16 + z18 + 1))), (8, (0, z18)), (7, (0, z16)), (6, (0, w 276 (36 * a + y5 + 32))), (0, (1, 275)), (1, (0, a)), (2, (0, n)), (5, (0, y5))], [], w21)) 1 rfl ?_
          refine e_Ok.inc (z := y5 + 1) rfl rfl (by first | with_reducible rfl | omega) (by omega) ?_
          show e_Ok 20 elay ecode eI (d + 1) 409 (125, [(5, (0, y5 + 1)), (3, (4, y3 * (z16 + z18 + 1))), (8, (0, z18)), (7, (0, z16)), (6, (0, w 276 (36 * a + y5 + 32))), (0, (1, 275)), (1, (0, a)), (2, (0, n))], [], w21) _
          refine e_Ok.ps0 (q := 5) 1 rfl ?_
          refine e_Ok.sub eAlk (e_sub_of rfl ?_) (ih2 (y3 * (z16 + z18 + 1)) (y5 + 1) w21 ⟨f22, by omega, by omega, (nc_all j6 (fun k e => by rw [← hw21, ← hw19]; exact (e_up_ne _ _ (Or.inr e)).trans (e_up_ne _ _ (Or.inl (by decide)))) (fun k e => by rw [← hw21, ← hw19]; exact (e_up_ne _ _ (Or.inl (by decide))).trans (e_up_ne _ _ (Or.inr e))) ⟨show w21 348 y5 = w 276 (36 * a + y5 + 32) - (w 276 (36 * a + y5 + 32) - w 288 (6 * a + y5)) / n * n from by rw [← hz16]; exact (e_uq hw21 (Or.inl (by first | decide | omega)) (e_ue hw19)), show w21 347 y5 = (w 276 (36 * a + y5 + 32) - w 288 (6 * a + y5)) / n + (w 289 (6 * a + y5) - w 276 (36 * a + y5 + 32)) / n + 1 from by rw [← hz16, ← hz18]; exact (e_ue hw21), (show 1 ≤ w21 347 y5 from by rw [show w21 347 y5 = z16 + z18 + 1 from (e_ue hw21)]; omega), (show w21 347 y5 ≤ 200001 from by rw [show w21 347 y5 = z16 + z18 + 1 from (e_ue hw21)]; omega)⟩), (by rcases j7 with g | g; exact absurd g.1 (by omega); exact Or.inr (nc_prd g (by omega) (fun k e => by rw [← hw21, ← hw19]; exact (e_up_ne _ _ (Or.inr e)).trans (e_up_ne _ _ (Or.inl (by decide)))) (e_ue hw21)))⟩ (by omega))
          exact ⟨rfl, rfl, rfl, rfl, rfl, trivial⟩
        · replace h24 : (z23 : Int) > 0 := Int.not_le.mp (show ¬ ((z23 : Int) ≤ 0) from h24)
          refine e_Ok.ps1 (x := (4, y3)) (q := 121) 2 rfl ?_
          refine e_Ok.run (t' := (122, [(3, (4, y3)), (8, (0, z18)), (7, (0, z16)), (6, (0, w 276 (36 * a + y5 + 32))), (0, (1, 275)), (1, (0, a)), (2, (0, n)), (5, (0, y5))], [], w21)) 1 rfl ?_
          refine e_Ok.inc (z := y5 + 1) rfl rfl (by first | with_reducible rfl | omega) (by omega) ?_
          show e_Ok 20 elay ecode eI (d + 1) 409 (125, [(5, (0, y5 + 1)), (3, (4, y3)), (8, (0, z18)), (7, (0, z16)), (6, (0, w 276 (36 * a + y5 + 32))), (0, (1, 275)), (1, (0, a)), (2, (0, n))], [], w21) _
          refine e_Ok.ps0 (q := 5) 1 rfl ?_
          refine e_Ok.sub eAlk (e_sub_of rfl ?_) (ih2 y3 (y5 + 1) w21 ⟨f22, by omega, by omega, (nc_all j6 (fun k e => by rw [← hw21, ← hw19]; exact (e_up_ne _ _ (Or.inr e)).trans (e_up_ne _ _ (Or.inl (by decide)))) (fun k e => by rw [← hw21, ← hw19]; exact (e_up_ne _ _ (Or.inl (by decide))).trans (e_up_ne _ _ (Or.inr e))) ⟨show w21 348 y5 = w 276 (36 * a + y5 + 32) - (w 276 (36 * a + y5 + 32) - w 288 (6 * a + y5)) / n * n from by rw [← hz16]; exact (e_uq hw21 (Or.inl (by first | decide | omega)) (e_ue hw19)), show w21 347 y5 = (w 276 (36 * a + y5 + 32) - w 288 (6 * a + y5)) / n + (w 289 (6 * a + y5) - w 276 (36 * a + y5 + 32)) / n + 1 from by rw [← hz16, ← hz18]; exact (e_ue hw21), (show 1 ≤ w21 347 y5 from by rw [show w21 347 y5 = z16 + z18 + 1 from (e_ue hw21)]; omega), (show w21 347 y5 ≤ 200001 from by rw [show w21 347 y5 = z16 + z18 + 1 from (e_ue hw21)]; omega)⟩), (Or.inl ⟨by omega, nc_big (z := z16 + z18 + 1) (show 1000 < prd (fun k => v1 347 k) y5.toNat from by rcases j7 with g | g; exact g.2; rw [← g]; omega) (by omega) (fun k e => by rw [← hw21, ← hw19]; exact (e_up_ne _ _ (Or.inr e)).trans (e_up_ne _ _ (Or.inl (by decide)))) (e_ue hw21) (by omega)⟩)⟩ (by omega))
          exact ⟨rfl, rfl, rfl, rfl, rfl, trivial⟩
  refine e_Ok.sub eAlk (e_sub_of rfl ?_) (hL1 (7 + 1 : Int).toNat 1 0 w ⟨e_fr.refl w, by omega, by omega, (fun j g1 g2 => by omega), (Or.inr rfl)⟩ (by omega))
  exact ⟨rfl, rfl, rfl, rfl, rfl, trivial⟩
theorem c_277 {d : Nat} (hd : 23 ≤ d) {w : eW} (hT : e_Has mTy w) : e_Ok 20 elay ecode eI d 277 (0, [(0, (1, 275))], [], w) (fun r w' => ∃ z : Int, r = [(0, z)] ∧ e_Has mTy w' ∧ newOk w') := by
  obtain ⟨d, rfl⟩ : ∃ e, d = e + 1 := ⟨d - 1, by omega⟩
  refine e_Ok.ps1 (x := (1, 275)) (q := 1) 1 rfl ?_
  refine e_Ok.getr (z := 276) rfl (el_o rfl) rfl (ef_o rfl) (e_Has.eq hT (mt_o rfl)) ⟨by decide, by decide⟩ ?_
  refine e_Ok.ps1 (x := (0, 0)) (q := 5) 1 rfl ?_
  have h1 := (e_Has.get hT (c := 276) (k := 0) (lo := 0) (hi := 6000) (mt_o rfl) (by decide))
  refine e_Ok.ald (z := w 276 0) rfl (el_o rfl) rfl (by omega) rfl (e_bq h1 (by decide) (by decide)) ?_
  refine e_Ok.run (t' := (8, [(1, (0, w 276 0)), (0, (1, 275))], [(1, 275)], w)) 2 rfl ?_
  refine e_Ok.callV rfl (e_dq hd rfl) rfl rfl rfl rfl (c_267 (e_dq hd rfl) hT) (fun r2 w3 h4 => ?_)
  obtain ⟨rfl, hT2, hN2⟩ := h4
  refine e_Ok.nrm (q := 11) (st' := []) rfl rfl ?_
  refine e_Ok.ps1 (x := (0, w 276 0)) (q := 12) 1 rfl ?_
  refine e_Ok.rets rfl rfl ?_
  exact ⟨_, rfl, hT2, hN2⟩
theorem no_9s_5 {k : Int} : ¬ mFo 275 k := by unfold mFo; omega
theorem no_9s_6 {k : Int} : ¬ mFo 355 k := by unfold mFo; omega
theorem no_9s_7 {k : Int} : ¬ mFo 354 k := by unfold mFo; omega
theorem c_421 {d : Nat} {w : eW} (hT : e_Has mTy w) {R E z : Int} (hR : 0 ≤ R ∧ R ≤ 1999) (hz : 0 ≤ z ∧ z ≤ 999) (hE : 0 ≤ E ∧ E + z ≤ 200000) (e5 : w 355 R = E) (e6 : w 356 R = E + z) (hk : ∀ i, E ≤ i → i < E + z → -2147483648 ≤ w 354 i ∧ w 354 i ≤ 2147483647) : e_Ok 20 elay ecode eI d 421 (0, [(0, (1, 275)), (1, (0, R))], [], w) (fun r w' => r = [(0, z)] ∧ e_fr mFo w w' ∧ ∀ j, 0 ≤ j → j < z → w' 353 j = w 354 (E + j)) := by
  refine e_Ok.ps1 (x := (1, 275)) (q := 1) 1 rfl ?_
  refine e_Ok.getr (z := 356) rfl (el_o rfl) rfl (ef_o rfl) (e_Has.eq hT (mt_o rfl)) ⟨by decide, by decide⟩ ?_
  refine e_Ok.ps1 (x := (0, R)) (q := 5) 1 rfl ?_
  refine e_Ok.ald (z := E + z) rfl (el_o rfl) rfl (by omega) e6 (by omega) ?_
  refine e_Ok.ps1 (x := (1, 275)) (q := 7) 1 rfl ?_
  refine e_Ok.getr (z := 355) rfl (el_o rfl) rfl (ef_o rfl) (e_Has.eq hT (mt_o rfl)) ⟨by decide, by decide⟩ ?_
  refine e_Ok.ps1 (x := (0, R)) (q := 11) 1 rfl ?_
  refine e_Ok.ald (z := E) rfl (el_o rfl) rfl (by omega) e5 (by omega) ?_
  refine e_Ok.sub' (z := z) rfl (by omega) (by omega) ?_
  refine e_Ok.run (t' := (16, [(3, (0, 0)), (2, (0, z)), (0, (1, 275)), (1, (0, R))], [], w)) 3 rfl ?_
  have hL1 : ∀ (nn : Nat) (y3 : Int) (v1 : eW), e_fr mFo w v1 ∧ (0 ≤ y3 ∧ y3 ≤ z) ∧ (∀ j, 0 ≤ j → j < y3 → v1 353 j = w 354 (E + j)) → 1000 - y3 < nn → e_Ok 20 elay ecode eI d 421 (16, [(0, (1, 275)), (1, (0, R)), (2, (0, z)), (3, (0, y3))], [], v1) (fun r w' => r = [(0, z)] ∧ e_fr mFo w w' ∧ ∀ j, 0 ≤ j → j < z → w' 353 j = w 354 (E + j)) := by
    intro nn
    induction nn with
    | zero => intro y3 v1 hj hm; obtain ⟨j3, j4, j5⟩ := hj; exfalso; omega
    | succ nn ih2 =>
      intro y3 v1 hj hm
      obtain ⟨j3, j4, j5⟩ := hj
      refine e_Ok.run (t' := (18, [(0, (1, 275)), (1, (0, R)), (2, (0, z)), (3, (0, y3))], [(0, z), (0, y3)], v1)) 2 rfl ?_
      refine e_Ok.if2 rfl (fun h6 => ?_) (fun h6 => ?_)
      · replace h6 : (y3 : Int) ≥ z := h6
        refine e_Ok.ps1 (x := (0, z)) (q := 47) 1 rfl ?_
        refine e_Ok.rets rfl rfl ?_
        exact ⟨rfl, j3, fun j g1 g2 => j5 j g1 (by omega)⟩
      · replace h6 : (y3 : Int) < z := Int.not_le.mp (show ¬ ((y3 : Int) ≥ z) from h6)
        refine e_Ok.ps1 (x := (1, 275)) (q := 22) 1 rfl ?_
        refine e_Ok.getr (z := 353) rfl (el_o rfl) rfl (ef_o rfl) ((j3 275 113 no_9s_5).trans (e_Has.eq hT (mt_o rfl))) ⟨by decide, by decide⟩ ?_
        refine e_Ok.ps2 (x := (1, 275)) (y := (0, y3)) (q := 27) 2 rfl ?_
        refine e_Ok.getr (z := 354) rfl (el_o rfl) rfl (ef_o rfl) ((j3 275 114 no_9s_5).trans (e_Has.eq hT (mt_o rfl))) ⟨by decide, by decide⟩ ?_
        refine e_Ok.ps1 (x := (1, 275)) (q := 31) 1 rfl ?_
        refine e_Ok.getr (z := 355) rfl (el_o rfl) rfl (ef_o rfl) ((j3 275 115 no_9s_5).trans (e_Has.eq hT (mt_o rfl))) ⟨by decide, by decide⟩ ?_
        refine e_Ok.ps1 (x := (0, R)) (q := 35) 1 rfl ?_
        refine e_Ok.ald (z := E) rfl (el_o rfl) rfl (by omega) ((j3 355 R no_9s_6).trans e5) (by omega) ?_
        refine e_Ok.ps1 (x := (0, y3)) (q := 37) 1 rfl ?_
        refine e_Ok.add (z := E + y3) rfl rfl (by omega) ?_
        have h7 := (hk (E + y3) (by omega) (by omega))
        refine e_Ok.ald (z := w 354 (E + y3)) rfl (el_o rfl) rfl (by omega) ((j3 354 (E + y3) no_9s_7).trans rfl) (by omega) ?_
        refine e_Ok.ast rfl (el_o rfl) rfl rfl (by omega) ?_
        generalize hw8 : e_up v1 353 y3 (w 354 (E + y3)) = w8
        refine e_Ok.inc (z := y3 + 1) rfl rfl (by first | with_reducible rfl | omega) (by omega) ?_
        show e_Ok 20 elay ecode eI d 421 (43, [(3, (0, y3 + 1)), (0, (1, 275)), (1, (0, R)), (2, (0, z))], [], w8) _
        refine e_Ok.ps0 (q := 16) 1 rfl ?_
        refine e_Ok.sub eAlk (e_sub_of rfl ?_) (ih2 (y3 + 1) w8 ⟨(show e_fr mFo w w8 from e_fr.up j3 hw8 (by first | exact rfl | (unfold mFo; omega))), by omega, (fun j g1 g2 => Decidable.byCases (p := j = y3) (fun e => by rw [e, ← hw8]; exact e_up_eq _ _ _ _) (fun e => Eq.trans (show w8 353 j = v1 353 j from by rw [← hw8]; exact e_up_ne _ _ (Or.inr e)) (j5 j g1 (by omega))))⟩ (by omega))
        exact ⟨rfl, rfl, rfl, rfl, trivial⟩
  refine e_Ok.sub eAlk (e_sub_of rfl ?_) (hL1 (1000 + 1 : Int).toNat 0 w ⟨e_fr.refl w, by omega, (fun j g1 g2 => by omega)⟩ (by omega))
  exact ⟨rfl, rfl, rfl, rfl, trivial⟩
theorem no_9s_8 {k : Int} : ¬ mP 286 k := by unfold mP; omega
theorem no_9s_9 {k : Int} : ¬ mP 275 k := by unfold mP; omega
theorem no_9s_10 {k : Int} : ¬ mP 347 k := by unfold mP; omega
theorem no_9s_11 {k : Int} : ¬ mP 348 k := by unfold mP; omega
theorem no_9s_12 {k : Int} : ¬ mPm 286 k := by unfold mPm; omega
theorem no_9s_13 : ¬ mSe 275 118 := by unfold mSe mCl; omega
theorem no_9s_14 {k : Int} : ¬ mSe 276 k := by unfold mSe mCl; omega
theorem no_9s_15 {k : Int} : ¬ mP 276 k := by unfold mP; omega
theorem no_9s_16 : ¬ mPm 275 5 := by unfold mPm; omega
theorem no_9s_17 : ¬ mPm 275 6 := by unfold mPm; omega
theorem no_9s_18 {k : Int} : ¬ mPm 356 k := by unfold mPm; omega
theorem no_9s_19 : ¬ mSe 275 0 := by unfold mSe mCl; omega
theorem no_9s_20 : ¬ mPm 275 0 := by unfold mPm; omega
theorem no_9s_21 : ¬ mPm 275 113 := by unfold mPm; omega
theorem su_9s_27 {c k : Int} (q : mNc c k) : mPm c k := by
  unfold mNc at q
  rcases q with q | q
  · exact Or.inr (Or.inr (Or.inr ⟨(by omega), (by omega)⟩))
  · exact Or.inr (Or.inr (Or.inr ⟨(by omega), (by omega)⟩))
theorem su_9s_28 {c k : Int} (q : mP c k) : mPm c k := by
  unfold mP at q
  rcases q with q | q
  · exact Or.inr (Or.inr (Or.inl ⟨(by omega), (by omega)⟩))
  · exact Or.inr (Or.inr (Or.inl ⟨(by omega), (by omega)⟩))
theorem su_9s_29 {c k : Int} (q : mSe c k) : mPm c k := by
  unfold mSe mCl at q
  rcases q with (⟨(q | q), ⟨q, q⟩⟩ | ⟨q, ⟨q, q⟩⟩ | q | q) | q | ⟨q, q⟩
  · exact Or.inr (Or.inr (Or.inl ⟨(by omega), (by omega)⟩))
  · exact Or.inr (Or.inr (Or.inl ⟨(by omega), (by omega)⟩))
  · exact Or.inr (Or.inl ⟨(by omega), Or.inl ⟨(by omega), (by omega)⟩⟩)
  · exact Or.inr (Or.inr (Or.inl ⟨(by omega), (by omega)⟩))
  · exact Or.inr (Or.inr (Or.inl ⟨(by omega), (by omega)⟩))
  · exact Or.inr (Or.inr (Or.inl ⟨(by omega), (by omega)⟩))
  · exact Or.inr (Or.inr (Or.inr ⟨(by omega), (by omega)⟩))
set_option maxHeartbeats 4000000 in
theorem c_418 {d : Nat} (hd : 33 ≤ d) {w : eW} {G : Int → Gh} (hI : mInv w G) (hB : bkE w) {p1 p2 p3 : Int} (g1 : -2147483648 ≤ p1 ∧ p1 ≤ 2147483647) (g2 : -2147483648 ≤ p2 ∧ p2 ≤ 2147483647) (g3 : -2147483648 ≤ p3 ∧ p3 ≤ 2147483647) (hpl : 0 ≤ w 275 118 ∧ w 275 118 ≤ 60) (h6 : w 275 6 = 0) : e_Ok 20 elay ecode eI d 418 (0, [(0, (1, 275)), (1, (0, p1)), (2, (0, p2)), (3, (0, p3))], [], w) (fun r w' => ∃ z : Int, r = [(0, z)] ∧ ((e_fr mPm w w' ∧ (∀ k, w' 276 k = w 276 k) ∧ w 275 118 ≤ w' 275 118 ∧ w' 275 118 ≤ 60) ∨ (plA w p1 p2 p3 ∧ ¬ mBk w ∧ plD w w' G p1 p2 p3))) := by
  obtain ⟨d, rfl⟩ : ∃ e, d = e + 1 := ⟨d - 1, by omega⟩
  obtain ⟨m, hmq⟩ : ∃ m, w 286 p1 = m := ⟨_, rfl⟩
  have hmb := e_Has.get hI.1 (c := 286) (k := p1) (lo := 0) (hi := 6) rfl (by decide)
  rw [hmq] at hmb
  have har := e_Has.get hI.1 (c := 275) (k := 10) (lo := 0) (hi := 4) rfl (by decide)
  refine e_Ok.run (t' := (2, [(0, (1, 275)), (1, (0, p1)), (2, (0, p2)), (3, (0, p3))], [(0, p1), (1, 275)], w)) 2 rfl ?_
  refine e_Ok.callV rfl (e_dq hd rfl) rfl rfl rfl rfl (c_270 (e_dq hd rfl) hI.1) (fun r1 w2 h3 => ?_)
  have h4 := e_Has.get hI.1 (c := 275) (k := 10) (lo := 0) (hi := 4) rfl (by decide)
  obtain ⟨z5, rfl, rfl, q6⟩ := h3
  obtain ⟨rfl, q6⟩ | ⟨rfl, q6⟩ := q6
  · refine e_Ok.nrm (q := 5) (st' := [(0, 1)]) rfl rfl ?_
    refine e_Ok.if1 rfl (fun h7 => ?_) (fun h7 => ?_)
    · replace h7 : (1 : Int) = 0 := h7
      exfalso; omega
    · replace h7 : (1 : Int) ≠ 0 := (show ¬ ((1 : Int) = 0) from h7)
      refine e_Ok.ps3 (x := (4, 16)) (y := (4, 1)) (z := (4, p2)) (q := 14) 4 rfl ?_
      refine e_Ok.callS rfl (e_dq hd rfl) rfl rfl (c_266) (fun r8 w9 h10 => ?_)
      obtain ⟨z11, rfl, rfl, q12⟩ := h10
      obtain ⟨rfl, q12⟩ | ⟨rfl, q12⟩ := q12
      · refine e_Ok.nrm (q := 17) (st' := [(0, 1)]) rfl rfl ?_
        refine e_Ok.if1 rfl (fun h13 => ?_) (fun h13 => ?_)
        · replace h13 : (1 : Int) = 0 := h13
          exfalso; omega
        · replace h13 : (1 : Int) ≠ 0 := (show ¬ ((1 : Int) = 0) from h13)
          refine e_Ok.ps3 (x := (4, 2000)) (y := (4, 0)) (z := (4, p3)) (q := 26) 4 rfl ?_
          refine e_Ok.callS rfl (e_dq hd rfl) rfl rfl (c_266) (fun r14 w15 h16 => ?_)
          obtain ⟨z17, rfl, rfl, q18⟩ := h16
          obtain ⟨rfl, q18⟩ | ⟨rfl, q18⟩ := q18
          · refine e_Ok.nrm (q := 29) (st' := [(0, 1)]) rfl rfl ?_
            refine e_Ok.if1 rfl (fun h19 => ?_) (fun h19 => ?_)
            · replace h19 : (1 : Int) ≠ 0 := h19
              refine e_Ok.ps1 (x := (1, 275)) (q := 35) 1 rfl ?_
              have h20 := (e_Has.get hI.1 (c := 275) (k := 3) (lo := 0) (hi := 1) rfl (by decide))
              refine e_Ok.getf (z := w 275 3) rfl (el_o rfl) rfl (ef_o rfl) rfl (e_bq h20 (by decide) (by decide)) ?_
              refine e_Ok.if1 rfl (fun h21 => ?_) (fun h21 => ?_)
              · replace h21 : (w 275 3 : Int) = 0 := h21
                refine e_Ok.ps1 (x := (0, (-2))) (q := 57) 1 rfl ?_
                refine e_Ok.rets rfl rfl ?_
                have hp8 : w 275 118 = w 275 118 := rfl
                exact ⟨_, rfl, Or.inl ⟨(e_fr.refl w), (fun e => rfl), by omega⟩⟩
              · replace h21 : (w 275 3 : Int) ≠ 0 := (show ¬ ((w 275 3 : Int) = 0) from h21)
                refine e_Ok.ps1 (x := (1, 275)) (q := 42) 1 rfl ?_
                refine e_Ok.getr (z := 276) rfl (el_o rfl) rfl (ef_o rfl) (e_Has.eq hI.1 rfl) ⟨by decide, by decide⟩ ?_
                refine e_Ok.ps1 (x := (0, p1)) (q := 46) 1 rfl ?_
                refine e_Ok.callS rfl (e_dq hd rfl) rfl rfl (c_268 (by omega)) (fun r22 w23 h24 => ?_)
                obtain ⟨rfl, rfl⟩ := h24
                refine e_Ok.nrm (q := 49) (st' := [(0, 36 * p1 + 16), (1, 276)]) rfl rfl ?_
                refine e_Ok.ps1 (x := (0, 0)) (q := 50) 1 rfl ?_
                refine e_Ok.add (z := 36 * p1 + 16) rfl (e_adl (by decide)) (by omega) ?_
                have h25 := (e_Has.get hI.1 (c := 276) (k := 36 * p1 + 16) (lo := 0) (hi := 2) (nR_STATE (a := p1) (by omega)) (by decide))
                refine e_Ok.ald (z := w 276 (36 * p1 + 16)) rfl (el_o rfl) rfl (by omega) rfl (e_bq h25 (by decide) (by decide)) ?_
                refine e_Ok.if1 rfl (fun h26 => ?_) (fun h26 => ?_)
                · replace h26 : (w 276 (36 * p1 + 16) : Int) = 0 := h26
                  have hV : ∀ j, 0 ≤ j → j < m → w 288 (6 * p1 + j) ≤ w 276 (36 * p1 + j + 32) ∧ w 276 (36 * p1 + j + 32) ≤ w 289 (6 * p1 + j) := fun j q1 q2 => (hI.2.2.2.2.2.1.1 p1 j (by omega) (by omega) q1 (by rw [hmq]; exact q2)).1
                  refine e_Ok.ps3 (x := (0, p2)) (y := (0, p1)) (z := (1, 275)) (q := 61) 3 rfl ?_
                  refine e_Ok.callV rfl (e_dq hd rfl) rfl rfl rfl rfl (c_409 (e_dq hd rfl) hI.1 (by omega) (by omega) (fun j q1 q2 => hV j q1 (by rw [← hmq]; exact q2))) (fun r27 w28 h29 => ?_)
                  obtain ⟨z30, rfl, q31, q31J, q31z⟩ := h29
                  rw [hmq] at q31J q31z
                  have f32 : e_fr mPm w w28 := e_fr.trans (e_fr.refl w) (e_fr.mono q31 (fun c k q => su_9s_27 q))
                  obtain ⟨f, hf⟩ : ∃ f : Int → Int, ∀ k, w28 347 k = f k := ⟨_, fun _ => rfl⟩
                  rw [show (fun k => w28 347 k) = f from funext hf] at q31z
                  have hf8 : ∀ j, 0 ≤ j → j < m → -100000 ≤ w28 348 j ∧ w28 348 j ≤ 100000 := fun j q1 q2 => gr_bd (q31J j q1 q2) (by omega) (hV j q1 q2) ⟨(e_Has.get hI.1 (c := 288) (k := 6 * p1 + j) (lo := -100000) (hi := 0) rfl (by decide)).1, (e_Has.get hI.1 (c := 289) (k := 6 * p1 + j) (lo := 0) (hi := 100000) rfl (by decide)).2⟩
                  have hfN : ∀ k, 0 ≤ k → k < m → 1 ≤ f k ∧ f k ≤ 200001 := fun k q1 q2 => by rw [← hf k]; exact ⟨(q31J k q1 q2).2.2.1, (q31J k q1 q2).2.2.2⟩
                  obtain ⟨rfl, q31z⟩ | ⟨q31b, q31z⟩ := q31z
                  · show e_Ok 20 elay ecode eI (d + 1) 418 (64, [(0, (1, 275)), (1, (0, p1)), (2, (0, p2)), (3, (0, p3))], [(0, 1001)], w28) _
                    refine e_Ok.run (t' := (71, [(4, (0, 1001)), (0, (1, 275)), (1, (0, p1)), (2, (0, p2)), (3, (0, p3))], [(0, 1000), (0, 1001)], w28)) 3 rfl ?_
                    refine e_Ok.if2 rfl (fun h33 => ?_) (fun h33 => ?_)
                    · replace h33 : (1001 : Int) > 1000 := h33
                      refine e_Ok.ps1 (x := (0, (-3))) (q := 92) 1 rfl ?_
                      refine e_Ok.rets rfl rfl ?_
                      have hp8 : w28 275 118 = w 275 118 := ((q31 275 118 no_9s_0).trans rfl)
                      exact ⟨_, rfl, Or.inl ⟨f32, (fun e => Eq.trans (q31 276 e no_9s_2) ((fun e => rfl) e)), by omega⟩⟩
                    · replace h33 : (1001 : Int) ≤ 1000 := Int.not_lt.mp (show ¬ ((1001 : Int) > 1000) from h33)
                      exfalso; omega
                  · show e_Ok 20 elay ecode eI (d + 1) 418 (64, [(0, (1, 275)), (1, (0, p1)), (2, (0, p2)), (3, (0, p3))], [(0, z30)], w28) _
                    refine e_Ok.run (t' := (71, [(4, (0, z30)), (0, (1, 275)), (1, (0, p1)), (2, (0, p2)), (3, (0, p3))], [(0, 1000), (0, z30)], w28)) 3 rfl ?_
                    refine e_Ok.if2 rfl (fun h34 => ?_) (fun h34 => ?_)
                    · replace h34 : (z30 : Int) > 1000 := h34
                      exfalso; omega
                    · replace h34 : (z30 : Int) ≤ 1000 := Int.not_lt.mp (show ¬ ((z30 : Int) > 1000) from h34)
                      refine e_Ok.ps1 (x := (1, 275)) (q := 75) 1 rfl ?_
                      refine e_Ok.getf (z := w 275 118) rfl (el_o rfl) rfl (ef_o rfl) ((q31 275 118 no_9s_0).trans rfl) (by omega) ?_
                      refine e_Ok.ps1 (x := (0, 60)) (q := 80) 1 rfl ?_
                      refine e_Ok.if2 rfl (fun h35 => ?_) (fun h35 => ?_)
                      · replace h35 : (w 275 118 : Int) ≠ 60 := h35
                        have hF : plF p1 m f := ⟨by omega, by omega, hfN, by rw [← q31z]; omega⟩
                        have hFp := hF.2.2.2
                        obtain ⟨dF, hdF⟩ : ∃ d : Int → Int, ∀ j, d j = (w 276 (36 * p1 + j + 32) - w28 348 j) / p2 := ⟨_, fun _ => rfl⟩
                        obtain ⟨dT, hdT⟩ : ∃ d : Int → Int, ∀ j, d j = (w 276 (j + 8) - w28 348 j) / p2 := ⟨_, fun _ => rfl⟩
                        refine e_Ok.run (t' := (95, [(4, (0, z30)), (0, (1, 275)), (1, (0, p1)), (2, (0, p2)), (3, (0, p3))], [(1, 275), (1, 275)], w28)) 2 rfl ?_
                        refine e_Ok.getf (z := w 275 118) rfl (el_o rfl) rfl (ef_o rfl) ((q31 275 118 no_9s_0).trans rfl) (by omega) ?_
                        refine e_Ok.ps1 (x := (1, 275)) (q := 99) 1 rfl ?_
                        refine e_Ok.getf (z := 0) rfl (el_o rfl) rfl (ef_o rfl) ((q31 275 6 no_9s_0).trans h6) (by omega) ?_
                        refine e_Ok.if1 rfl (fun h36 => ?_) (fun h36 => ?_)
                        · replace h36 : (0 : Int) = 0 := h36
                          refine e_Ok.ps1 (x := (0, 1)) (q := 110) 1 rfl ?_
                          refine e_Ok.add (z := w 275 118 + 1) rfl rfl (by omega) ?_
                          refine e_Ok.putf rfl (el_o rfl) rfl (ef_o rfl) ?_
                          generalize hw37 : e_up w28 275 118 (w 275 118 + 1) = w37
                          have f38 : e_fr mPm w w37 := e_fr.up f32 hw37 (by first | exact Or.inr (Or.inl ⟨rfl, Or.inr (Or.inr rfl)⟩) | (unfold mPm; omega))
                          have hT40 : e_Has mTy w37 := e_Has.ups (mT_Nc q31 hI.1) hw37 (mt_o rfl)
                          refine e_Ok.run (t' := (123, [(7, (0, 0)), (6, (0, 0)), (5, (0, 0)), (4, (0, z30)), (0, (1, 275)), (1, (0, p1)), (2, (0, p2)), (3, (0, p3))], [], w37)) 6 rfl ?_
                          have hL41 : ∀ (nn : Nat) (y5 : Int) (y6 : Int) (y7 : Int), (0 ≤ y7 ∧ y7 ≤ m) ∧ y5 = smd f dF y7.toNat ∧ y6 = smd f dT y7.toNat ∧ (∀ k, 0 ≤ k → k < y7 → 0 ≤ dF k ∧ dF k < f k) ∧ (∀ k, 0 ≤ k → k < y7 → 0 ≤ dT k ∧ dT k < f k) ∧ (∀ j, 0 ≤ j → j < y7 → (w 288 (6 * p1 + j) ≤ w 276 (j + 8) ∧ w 276 (j + 8) ≤ w 289 (6 * p1 + j)) ∧ ∃ q, w 276 (j + 8) - w28 348 j = q * p2) ∧ (0 ≤ y5 ∧ y5 ≤ 999) ∧ (0 ≤ y6 ∧ y6 ≤ 999) → 7 - y7 < nn → e_Ok 20 elay ecode eI (d + 1) 418 (123, [(0, (1, 275)), (1, (0, p1)), (2, (0, p2)), (3, (0, p3)), (4, (0, z30)), (5, (0, y5)), (6, (0, y6)), (7, (0, y7))], [], w37) (fun r w' => ∃ z : Int, r = [(0, z)] ∧ ((e_fr mPm w w' ∧ (∀ k, w' 276 k = w 276 k) ∧ w 275 118 ≤ w' 275 118 ∧ w' 275 118 ≤ 60) ∨ (plA w p1 p2 p3 ∧ ¬ mBk w ∧ plD w w' G p1 p2 p3))) := by
                            intro nn
                            induction nn with
                            | zero => intro y5 y6 y7 hj hm; obtain ⟨j43, j44, j45, j46, j47, j48, j49, j50⟩ := hj; exfalso; omega
                            | succ nn ih42 =>
                              intro y5 y6 y7 hj hm
                              obtain ⟨j43, j44, j45, j46, j47, j48, j49, j50⟩ := hj
                              refine e_Ok.run (t' := (126, [(0, (1, 275)), (1, (0, p1)), (2, (0, p2)), (3, (0, p3)), (4, (0, z30)), (5, (0, y5)), (6, (0, y6)), (7, (0, y7))], [(1, 275), (0, y7)], w37)) 2 rfl ?_
                              refine e_Ok.getr (z := 286) rfl (el_o rfl) rfl (ef_o rfl) (e_uq hw37 (Or.inr (by decide)) ((q31 275 15 no_9s_0).trans (e_Has.eq hI.1 rfl))) ⟨by decide, by decide⟩ ?_
                              refine e_Ok.ps1 (x := (0, p1)) (q := 130) 1 rfl ?_
                              refine e_Ok.ald (z := m) rfl (el_o rfl) rfl (by omega) (e_uq hw37 (Or.inl (by decide)) ((q31 286 p1 no_9s_1).trans hmq)) (by omega) ?_
                              refine e_Ok.if2 rfl (fun h51 => ?_) (fun h51 => ?_)
                              · replace h51 : (y7 : Int) ≥ m := h51
                                refine e_Ok.ps2 (x := (0, p1)) (y := (1, 275)) (q := 268) 2 rfl ?_
                                refine e_Ok.putf rfl (el_o rfl) rfl (ef_o rfl) ?_
                                generalize hw52 : e_up w37 275 110 p1 = w52
                                have hT54 : e_Has mTy w52 := e_Has.ups hT40 hw52 (mt_o rfl)
                                refine e_Ok.ps2 (x := (0, p2)) (y := (1, 275)) (q := 273) 2 rfl ?_
                                refine e_Ok.putf rfl (el_o rfl) rfl (ef_o rfl) ?_
                                generalize hw55 : e_up w52 275 111 p2 = w55
                                have hT57 : e_Has mTy w55 := e_Has.ups hT54 hw55 (mt_o rfl)
                                refine e_Ok.ps2 (x := (0, p3)) (y := (1, 275)) (q := 278) 2 rfl ?_
                                refine e_Ok.putf rfl (el_o rfl) rfl (ef_o rfl) ?_
                                generalize hw58 : e_up w55 275 112 p3 = w58
                                have hT60 : e_Has mTy w58 := e_Has.ups hT57 hw58 (mt_o rfl)
                                refine e_Ok.ps1 (x := (1, 275)) (q := 282) 1 rfl ?_
                                refine e_Ok.callV rfl (e_dq hd rfl) rfl rfl rfl rfl (c_302 (e_dq hd rfl) hT60) (fun r61 w62 h63 => ?_)
                                obtain ⟨rfl, q64, q64k⟩ := h63
                                have f65 : e_fr mPm w w62 := e_fr.trans (show e_fr mPm w w58 from e_fr.up (show e_fr mPm w w55 from e_fr.up (show e_fr mPm w w52 from e_fr.up f38 hw52 (by first | exact Or.inr (Or.inl ⟨rfl, Or.inr (Or.inl ⟨(by decide), (by decide)⟩)⟩) | (unfold mPm; omega))) hw55 (by first | exact Or.inr (Or.inl ⟨rfl, Or.inr (Or.inl ⟨(by decide), (by decide)⟩)⟩) | (unfold mPm; omega))) hw58 (by first | exact Or.inr (Or.inl ⟨rfl, Or.inr (Or.inl ⟨(by decide), (by decide)⟩)⟩) | (unfold mPm; omega))) (e_fr.mono q64 (fun c k q => su_9s_28 q))
                                have q64T := mT_P q64 hT60
                                replace q64k : ∀ b, 0 ≤ b → b < w62 275 10 → e_pk2 w62 (7 * b) (w62 286 b) := fun b q1 q2 => by rw [q64 286 b no_9s_8]; exact q64k b q1 (by rw [← q64 275 10 no_9s_9]; exact q2)
                                refine e_Ok.nrm (q := 285) (st' := []) rfl rfl ?_
                                have hc111 : w62 275 111 = p2 := ((q64 275 111 no_9s_9).trans (e_uq hw58 (Or.inr (by decide)) (e_ue hw55)))
                                have hc112 : w62 275 112 = p3 := ((q64 275 112 no_9s_9).trans (e_ue hw58))
                                have hC : plC w62 p1 m f := ⟨((q64 275 110 no_9s_9).trans (e_uq hw58 (Or.inr (by omega)) (e_uq hw55 (Or.inr (by omega)) (e_ue hw52)))), ((q64 286 p1 no_9s_8).trans (e_uq hw58 (Or.inl (by omega)) (e_uq hw55 (Or.inl (by omega)) (e_uq hw52 (Or.inl (by omega)) (e_uq hw37 (Or.inl (by omega)) ((q31 286 p1 no_9s_1).trans hmq)))))), fun k => Eq.trans ((fun e => Eq.trans (q64 347 e no_9s_10) ((fun e => Eq.trans (show w58 347 e = w55 347 e from by rw [← hw58]; exact e_up_ne _ _ (Or.inl (by decide))) ((fun e => Eq.trans (show w55 347 e = w52 347 e from by rw [← hw55]; exact e_up_ne _ _ (Or.inl (by decide))) ((fun e => Eq.trans (show w52 347 e = w37 347 e from by rw [← hw52]; exact e_up_ne _ _ (Or.inl (by decide))) ((fun e => Eq.trans (show w37 347 e = w28 347 e from by rw [← hw37]; exact e_up_ne _ _ (Or.inl (by decide))) ((fun e => rfl) e)) e)) e)) e)) e)) k) (hf k), by omega, by omega, fun k q1 q2 => (by have h1 := hf8 k q1 q2; have h2 := (fun e => Eq.trans (q64 348 e no_9s_11) ((fun e => Eq.trans (show w58 348 e = w55 348 e from by rw [← hw58]; exact e_up_ne _ _ (Or.inl (by decide))) ((fun e => Eq.trans (show w55 348 e = w52 348 e from by rw [← hw55]; exact e_up_ne _ _ (Or.inl (by decide))) ((fun e => Eq.trans (show w52 348 e = w37 348 e from by rw [← hw52]; exact e_up_ne _ _ (Or.inl (by decide))) ((fun e => Eq.trans (show w37 348 e = w28 348 e from by rw [← hw37]; exact e_up_ne _ _ (Or.inl (by decide))) ((fun e => rfl) e)) e)) e)) e)) e)) k; omega), fun b q1 q2 => ⟨(by rw [f65 286 b no_9s_12]; exact (e_Has.get hI.1 (c := 286) (k := b) (lo := 0) (hi := 6) rfl (by decide)).2), q64k b q1 q2⟩⟩
                                refine e_Ok.run (t' := (286, [(0, (1, 275)), (1, (0, p1)), (2, (0, p2)), (3, (0, p3)), (4, (0, z30)), (5, (0, y5)), (6, (0, y6)), (7, (0, y7))], [(1, 275)], w62)) 1 rfl ?_
                                refine e_Ok.getf (z := 0) rfl (el_o rfl) rfl (ef_o rfl) ((q64 275 6 no_9s_9).trans (e_uq hw58 (Or.inr (by decide)) (e_uq hw55 (Or.inr (by decide)) (e_uq hw52 (Or.inr (by decide)) (e_uq hw37 (Or.inr (by decide)) ((q31 275 6 no_9s_0).trans h6)))))) (by omega) ?_
                                refine e_Ok.if1 rfl (fun h66 => ?_) (fun h66 => ?_)
                                · replace h66 : (0 : Int) = 0 := h66
                                  refine e_Ok.ps4 (x := (0, z30)) (y := (0, y6)) (z := (0, y5)) (u := (1, 275)) (q := 322) 4 rfl ?_
                                  have hx5 : 0 ≤ y5 ∧ y5 < z30 := by rw [j44, show y7.toNat = m.toNat by omega, q31z]; exact smd_in (fun k g1 g2 => j46 k g1 (by omega))
                                  have hx6 : 0 ≤ y6 ∧ y6 < z30 := by rw [j45, show y7.toNat = m.toNat by omega, q31z]; exact smd_in (fun k g1 g2 => j47 k g1 (by omega))
                                  refine e_Ok.callV rfl (e_dq hd rfl) rfl rfl rfl rfl (c_417 (e_dq hd rfl) q64T hF hC q31z hx5 hx6) (fun r67 w68 h69 => ?_)
                                  obtain ⟨z71, rfl, q70, q70c⟩ := h69
                                  have f72 : e_fr mPm w w68 := e_fr.trans f65 (e_fr.mono q70 (fun c k q => su_9s_29 q))
                                  have q70T := mT_Se q70 q64T
                                  obtain rfl | ⟨q70b, q70w⟩ := q70c
                                  · refine e_Ok.nrm (q := 325) (st' := [(0, (-1))]) rfl rfl ?_
                                    refine e_Ok.run (t' := (329, [(7, (0, (-1))), (0, (1, 275)), (1, (0, p1)), (2, (0, p2)), (3, (0, p3)), (4, (0, z30)), (5, (0, y5)), (6, (0, y6))], [(0, (-1))], w68)) 2 rfl ?_
                                    refine e_Ok.if1 rfl (fun h73 => ?_) (fun h73 => ?_)
                                    · replace h73 : ((-1) : Int) ≥ 0 := h73
                                      exfalso; omega
                                    · replace h73 : ((-1) : Int) < 0 := Int.not_le.mp (show ¬ (((-1) : Int) ≥ 0) from h73)
                                      refine e_Ok.ps1 (x := (0, (-2))) (q := 334) 1 rfl ?_
                                      refine e_Ok.rets rfl rfl ?_
                                      have hp8 : w68 275 118 = w 275 118 + 1 := ((q70 275 118 no_9s_13).trans ((q64 275 118 no_9s_9).trans (e_uq hw58 (Or.inr (by decide)) (e_uq hw55 (Or.inr (by decide)) (e_uq hw52 (Or.inr (by decide)) (e_ue hw37))))))
                                      exact ⟨_, rfl, Or.inl ⟨f72, (fun e => Eq.trans (q70 276 e no_9s_14) ((fun e => Eq.trans (q64 276 e no_9s_15) ((fun e => Eq.trans (show w58 276 e = w55 276 e from by rw [← hw58]; exact e_up_ne _ _ (Or.inl (by decide))) ((fun e => Eq.trans (show w55 276 e = w52 276 e from by rw [← hw55]; exact e_up_ne _ _ (Or.inl (by decide))) ((fun e => Eq.trans (show w52 276 e = w37 276 e from by rw [← hw52]; exact e_up_ne _ _ (Or.inl (by decide))) ((fun e => Eq.trans (show w37 276 e = w28 276 e from by rw [← hw37]; exact e_up_ne _ _ (Or.inl (by decide))) ((fun e => Eq.trans (q31 276 e no_9s_2) ((fun e => rfl) e)) e)) e)) e)) e)) e)) e)), by omega⟩⟩
                                  · refine e_Ok.nrm (q := 325) (st' := [(0, z71)]) rfl rfl ?_
                                    refine e_Ok.run (t' := (329, [(7, (0, z71)), (0, (1, 275)), (1, (0, p1)), (2, (0, p2)), (3, (0, p3)), (4, (0, z30)), (5, (0, y5)), (6, (0, y6))], [(0, z71)], w68)) 2 rfl ?_
                                    refine e_Ok.if1 rfl (fun h74 => ?_) (fun h74 => ?_)
                                    · replace h74 : (z71 : Int) ≥ 0 := h74
                                      refine e_Ok.ps1 (x := (1, 275)) (q := 336) 1 rfl ?_
                                      refine e_Ok.callV rfl (e_dq hd rfl) rfl rfl rfl rfl (c_422_x q70T (bkE.fr hB (f72 275 5 no_9s_16) (f72 275 6 no_9s_17) (fun k => f72 356 k no_9s_18)).1) (fun r75 w76 h77 => ?_)
                                      obtain ⟨z78, rfl, rfl, q79⟩ := h77
                                      obtain ⟨rfl, q79⟩ | ⟨rfl, q79⟩ := q79
                                      · refine e_Ok.nrm (q := 339) (st' := [(0, 1)]) rfl rfl ?_
                                        refine e_Ok.if1 rfl (fun h80 => ?_) (fun h80 => ?_)
                                        · replace h80 : (1 : Int) = 0 := h80
                                          exfalso; omega
                                        · replace h80 : (1 : Int) ≠ 0 := (show ¬ ((1 : Int) = 0) from h80)
                                          refine e_Ok.ps1 (x := (0, (-3))) (q := 344) 1 rfl ?_
                                          refine e_Ok.rets rfl rfl ?_
                                          have hp8 : w68 275 118 = w 275 118 + 1 := ((q70 275 118 no_9s_13).trans ((q64 275 118 no_9s_9).trans (e_uq hw58 (Or.inr (by decide)) (e_uq hw55 (Or.inr (by decide)) (e_uq hw52 (Or.inr (by decide)) (e_ue hw37))))))
                                          exact ⟨_, rfl, Or.inl ⟨f72, (fun e => Eq.trans (q70 276 e no_9s_14) ((fun e => Eq.trans (q64 276 e no_9s_15) ((fun e => Eq.trans (show w58 276 e = w55 276 e from by rw [← hw58]; exact e_up_ne _ _ (Or.inl (by decide))) ((fun e => Eq.trans (show w55 276 e = w52 276 e from by rw [← hw55]; exact e_up_ne _ _ (Or.inl (by decide))) ((fun e => Eq.trans (show w52 276 e = w37 276 e from by rw [← hw52]; exact e_up_ne _ _ (Or.inl (by decide))) ((fun e => Eq.trans (show w37 276 e = w28 276 e from by rw [← hw37]; exact e_up_ne _ _ (Or.inl (by decide))) ((fun e => Eq.trans (q31 276 e no_9s_2) ((fun e => rfl) e)) e)) e)) e)) e)) e)) e)), by omega⟩⟩
                                      · refine e_Ok.nrm (q := 339) (st' := [(0, 0)]) rfl rfl ?_
                                        refine e_Ok.if1 rfl (fun h81 => ?_) (fun h81 => ?_)
                                        · replace h81 : (0 : Int) = 0 := h81
                                          have hnb : ¬ mBk w := fun q => q79 ((show mBk w68 ↔ mBk w from by unfold mBk; rw [f72 275 5 no_9s_16, f72 275 6 no_9s_17]).2 q)
                                          have hfo : ∀ i, 0 ≤ i → i < z71 → 0 ≤ w68 353 i ∧ w68 353 i ≤ 11 := fun i q1 q2 => by obtain ⟨yy, NN, -, -, hs⟩ := q70w; have := (hs i q1 q2).1; omega
                                          refine e_Ok.ps1 (x := (0, p1)) (q := 346) 1 rfl ?_
                                          refine e_Ok.callS rfl (e_dq hd rfl) rfl rfl (c_268 (by omega)) (fun r82 w83 h84 => ?_)
                                          obtain ⟨rfl, rfl⟩ := h84
                                          refine e_Ok.nrm (q := 349) (st' := [(0, 36 * p1 + 16)]) rfl rfl ?_
                                          refine e_Ok.run (t' := (352, [(8, (0, 36 * p1 + 16)), (7, (0, z71)), (0, (1, 275)), (1, (0, p1)), (2, (0, p2)), (3, (0, p3)), (4, (0, z30)), (5, (0, y5)), (6, (0, y6))], [(1, 275)], w68)) 2 rfl ?_
                                          refine e_Ok.getr (z := 276) rfl (el_o rfl) rfl (ef_o rfl) ((q70 275 0 no_9s_19).trans ((q64 275 0 no_9s_9).trans (e_uq hw58 (Or.inr (by decide)) (e_uq hw55 (Or.inr (by decide)) (e_uq hw52 (Or.inr (by decide)) (e_uq hw37 (Or.inr (by decide)) ((q31 275 0 no_9s_0).trans (e_Has.eq hI.1 rfl)))))))) ⟨by decide, by decide⟩ ?_
                                          refine e_Ok.ps2 (x := (0, 3)) (y := (0, 36 * p1 + 16)) (q := 358) 2 rfl ?_
                                          refine e_Ok.add (z := 36 * p1 + 19) rfl (e_adl (by decide)) (by omega) ?_
                                          refine e_Ok.ps1 (x := (0, z71)) (q := 361) 1 rfl ?_
                                          refine e_Ok.ast rfl (el_o rfl) rfl rfl (by omega) ?_
                                          generalize hw85 : e_up w68 276 (36 * p1 + 19) z71 = w85
                                          have hT87 : e_Has mTy w85 := e_Has.upr q70T hw85 (nR_WAY_SIZE (a := p1) (by omega)) (by omega)
                                          refine e_Ok.ps1 (x := (1, 275)) (q := 363) 1 rfl ?_
                                          refine e_Ok.getr (z := 276) rfl (el_o rfl) rfl (ef_o rfl) (e_uq hw85 (Or.inl (by decide)) ((q70 275 0 no_9s_19).trans ((q64 275 0 no_9s_9).trans (e_uq hw58 (Or.inr (by decide)) (e_uq hw55 (Or.inr (by decide)) (e_uq hw52 (Or.inr (by decide)) (e_uq hw37 (Or.inr (by decide)) ((q31 275 0 no_9s_0).trans (e_Has.eq hI.1 rfl))))))))) ⟨by decide, by decide⟩ ?_
                                          refine e_Ok.ps2 (x := (0, 10)) (y := (0, 36 * p1 + 16)) (q := 370) 2 rfl ?_
                                          refine e_Ok.add (z := 36 * p1 + 26) rfl (e_adl (by decide)) (by omega) ?_
                                          refine e_Ok.ps1 (x := (0, p2)) (q := 372) 1 rfl ?_
                                          refine e_Ok.ast rfl (el_o rfl) rfl rfl (by omega) ?_
                                          generalize hw88 : e_up w85 276 (36 * p1 + 26) p2 = w88
                                          have hT90 : e_Has mTy w88 := e_Has.upr hT87 hw88 (nR_WIDE (a := p1) (by omega)) (by omega)
                                          refine e_Ok.ps1 (x := (1, 275)) (q := 374) 1 rfl ?_
                                          refine e_Ok.getr (z := 276) rfl (el_o rfl) rfl (ef_o rfl) (e_uq hw88 (Or.inl (by decide)) (e_uq hw85 (Or.inl (by decide)) ((q70 275 0 no_9s_19).trans ((q64 275 0 no_9s_9).trans (e_uq hw58 (Or.inr (by decide)) (e_uq hw55 (Or.inr (by decide)) (e_uq hw52 (Or.inr (by decide)) (e_uq hw37 (Or.inr (by decide)) ((q31 275 0 no_9s_0).trans (e_Has.eq hI.1 rfl)))))))))) ⟨by decide, by decide⟩ ?_
                                          refine e_Ok.ps2 (x := (0, 4)) (y := (0, 36 * p1 + 16)) (q := 380) 2 rfl ?_
                                          refine e_Ok.add (z := 36 * p1 + 20) rfl (e_adl (by decide)) (by omega) ?_
                                          refine e_Ok.ps1 (x := (0, 1)) (q := 382) 1 rfl ?_
                                          refine e_Ok.ast rfl (el_o rfl) rfl rfl (by omega) ?_
                                          generalize hw91 : e_up w88 276 (36 * p1 + 20) 1 = w91
                                          have hT93 : e_Has mTy w91 := e_Has.upr hT90 hw91 (nR_FRESH (a := p1) (by omega)) (by omega)
                                          refine e_Ok.ps1 (x := (1, 275)) (q := 384) 1 rfl ?_
                                          refine e_Ok.getr (z := 276) rfl (el_o rfl) rfl (ef_o rfl) (e_uq hw91 (Or.inl (by decide)) (e_uq hw88 (Or.inl (by decide)) (e_uq hw85 (Or.inl (by decide)) ((q70 275 0 no_9s_19).trans ((q64 275 0 no_9s_9).trans (e_uq hw58 (Or.inr (by decide)) (e_uq hw55 (Or.inr (by decide)) (e_uq hw52 (Or.inr (by decide)) (e_uq hw37 (Or.inr (by decide)) ((q31 275 0 no_9s_0).trans (e_Has.eq hI.1 rfl))))))))))) ⟨by decide, by decide⟩ ?_
                                          refine e_Ok.ps2 (x := (0, 5)) (y := (0, 36 * p1 + 16)) (q := 390) 2 rfl ?_
                                          refine e_Ok.add (z := 36 * p1 + 21) rfl (e_adl (by decide)) (by omega) ?_
                                          refine e_Ok.ps1 (x := (0, 1)) (q := 392) 1 rfl ?_
                                          refine e_Ok.ast rfl (el_o rfl) rfl rfl (by omega) ?_
                                          generalize hw94 : e_up w91 276 (36 * p1 + 21) 1 = w94
                                          have hT101 : e_Has mTy w94 := e_Has.upr hT93 hw94 (nR_BUT_OWN (a := p1) (by omega)) (by omega)
                                          refine e_Ok.run (t' := (396, [(9, (0, 0)), (8, (0, 36 * p1 + 16)), (7, (0, z71)), (0, (1, 275)), (1, (0, p1)), (2, (0, p2)), (3, (0, p3)), (4, (0, z30)), (5, (0, y5)), (6, (0, y6))], [], w94)) 2 rfl ?_
                                          have hL103 : ∀ (nn : Nat) (y9 : Int) (v1 : eW), e_fr mPm w v1 ∧ e_Has mTy v1 ∧ (0 ≤ y9 ∧ y9 ≤ 1000) ∧ (∀ c k, c ≠ 276 → v1 c k = w94 c k) ∧ (∀ k, ¬ (1000 * p1 + 21060 ≤ k ∧ k < 1000 * p1 + y9 + 21060) → v1 276 k = w94 276 k) ∧ (∀ i, 0 ≤ i → i < y9 → v1 276 (1000 * p1 + i + 21060) = if i < z71 then w68 353 i else 0) → 1001 - y9 < nn → e_Ok 20 elay ecode eI (d + 1) 418 (396, [(0, (1, 275)), (1, (0, p1)), (2, (0, p2)), (3, (0, p3)), (7, (0, z71)), (9, (0, y9))], [], v1) (fun r w' => ∃ z : Int, r = [(0, z)] ∧ ((e_fr mPm w w' ∧ (∀ k, w' 276 k = w 276 k) ∧ w 275 118 ≤ w' 275 118 ∧ w' 275 118 ≤ 60) ∨ (plA w p1 p2 p3 ∧ ¬ mBk w ∧ plD w w' G p1 p2 p3))) := by
                                            intro nn
                                            induction nn with
                                            | zero => intro y9 v1 hj hm; obtain ⟨j105, j106, j107, j108, j109, j110⟩ := hj; exfalso; omega
                                            | succ nn ih104 =>
                                              intro y9 v1 hj hm
                                              obtain ⟨j105, j106, j107, j108, j109, j110⟩ := hj
                                              refine e_Ok.run (t' := (401, [(0, (1, 275)), (1, (0, p1)), (2, (0, p2)), (3, (0, p3)), (7, (0, z71)), (9, (0, y9))], [(0, 1000), (0, y9)], v1)) 2 rfl ?_
                                              refine e_Ok.if2 rfl (fun h111 => ?_) (fun h111 => ?_)
                                              · replace h111 : (y9 : Int) ≥ 1000 := h111
                                                have hw19 : v1 276 (36 * p1 + 19) = z71 := Eq.trans (j109 _ (by omega)) (e_uq hw94 (Or.inr (e_neo (by decide))) (e_uq hw91 (Or.inr (e_neo (by decide))) (e_uq hw88 (Or.inr (e_neo (by decide))) (e_ue hw85))))
                                                have hw20 : v1 276 (36 * p1 + 20) = 1 := Eq.trans (j109 _ (by omega)) (e_uq hw94 (Or.inr (e_neo (by decide))) (e_ue hw91))
                                                have hw21 : v1 276 (36 * p1 + 21) = 1 := Eq.trans (j109 _ (by omega)) (e_ue hw94)
                                                have hw26 : v1 276 (36 * p1 + 26) = p2 := Eq.trans (j109 _ (by omega)) (e_uq hw94 (Or.inr (e_neo (by decide))) (e_uq hw91 (Or.inr (e_neo (by decide))) (e_ue hw88)))
                                                have hwn : ∀ k, v1 276 k = plN w p1 p2 z71 (fun i => w68 353 i) k := fun k => by
                                                  unfold plN
                                                  by_cases c1 : k = 36 * p1 + 19
                                                  · rw [if_pos c1, c1]; exact hw19
                                                  by_cases c2 : k = 36 * p1 + 26
                                                  · rw [if_neg c1, if_pos c2, c2]; exact hw26
                                                  by_cases c3 : k = 36 * p1 + 20
                                                  · rw [if_neg c1, if_neg c2, if_pos c3, c3]; exact hw20
                                                  by_cases c4 : k = 36 * p1 + 21
                                                  · rw [if_neg c1, if_neg c2, if_neg c3, if_pos c4, c4]; exact hw21
                                                  rw [if_neg c1, if_neg c2, if_neg c3, if_neg c4]
                                                  by_cases c5 : 1000 * p1 + 21060 ≤ k ∧ k < 1000 * p1 + 22060
                                                  · rw [if_pos c5]
                                                    have := j110 (k - (1000 * p1 + 21060)) (by omega) (by omega)
                                                    rw [show 1000 * p1 + (k - (1000 * p1 + 21060)) + 21060 = k by omega] at this
                                                    exact this
                                                  · rw [if_neg c5]
                                                    refine Eq.trans (j109 k (by omega)) ?_
                                                    rw [← hw94]; refine Eq.trans (e_up_ne _ _ (Or.inr (by omega))) ?_
                                                    rw [← hw91]; refine Eq.trans (e_up_ne _ _ (Or.inr (by omega))) ?_
                                                    rw [← hw88]; refine Eq.trans (e_up_ne _ _ (Or.inr (by omega))) ?_
                                                    rw [← hw85]; refine Eq.trans (e_up_ne _ _ (Or.inr (by omega))) ?_
                                                    exact (fun e => Eq.trans (q70 276 e no_9s_14) ((fun e => Eq.trans (q64 276 e no_9s_15) ((fun e => Eq.trans (show w58 276 e = w55 276 e from by rw [← hw58]; exact e_up_ne _ _ (Or.inl (by decide))) ((fun e => Eq.trans (show w55 276 e = w52 276 e from by rw [← hw55]; exact e_up_ne _ _ (Or.inl (by decide))) ((fun e => Eq.trans (show w52 276 e = w37 276 e from by rw [← hw52]; exact e_up_ne _ _ (Or.inl (by decide))) ((fun e => Eq.trans (show w37 276 e = w28 276 e from by rw [← hw37]; exact e_up_ne _ _ (Or.inl (by decide))) ((fun e => Eq.trans (q31 276 e no_9s_2) ((fun e => rfl) e)) e)) e)) e)) e)) e)) e)) k
                                                have hvT : e_Has mTy v1 := j106
                                                have hvi : mInv v1 G := mInv.plan hI (by omega) (by omega) (by omega) (fun c k h => ?_) hvT (by omega) (wy_new hF hmq hf (by omega) q31J hV hdF (j44.trans (by rw [show y7.toNat = m.toNat by omega])) q70w hw19 hw26 (fun c k h => j105 c k (by unfold mPm; omega)) (fun i g1 g2 => ?_) (fun j g1 g2 => ?_))
                                                rotate_left
                                                · by_cases cq : c = 276
                                                  · subst cq
                                                    rw [hwn k]; unfold plN; unfold plW at h
                                                    rw [if_neg (by omega), if_neg (by omega), if_neg (by omega), if_neg (by omega), if_neg (by omega)]
                                                  · exact j105 c k (by unfold mPm; omega)
                                                · exact Eq.trans (j110 i g1 (by omega)) (by rw [if_pos g2])
                                                · rw [hwn]; unfold plN; rw [if_neg (by omega), if_neg (by omega), if_neg (by omega), if_neg (by omega), if_neg (by omega)]
                                                refine e_Ok.run (t' := (451, [(0, (1, 275)), (1, (0, p1)), (2, (0, p2)), (3, (0, p3)), (7, (0, z71)), (9, (0, y9))], [(0, p3), (0, p2), (0, p1), (0, 10), (1, 275)], v1)) 5 rfl ?_
                                                have hfv : ∀ k, v1 353 k = w68 353 k := fun k => Eq.trans (j108 353 k (by decide)) ((fun e => Eq.trans (show w94 353 e = w91 353 e from by rw [← hw94]; exact e_up_ne _ _ (Or.inl (by decide))) ((fun e => Eq.trans (show w91 353 e = w88 353 e from by rw [← hw91]; exact e_up_ne _ _ (Or.inl (by decide))) ((fun e => Eq.trans (show w88 353 e = w85 353 e from by rw [← hw88]; exact e_up_ne _ _ (Or.inl (by decide))) ((fun e => Eq.trans (show w85 353 e = w68 353 e from by rw [← hw85]; exact e_up_ne _ _ (Or.inl (by decide))) ((fun e => rfl) e)) e)) e)) e)) k)
                                                refine e_Ok.callV rfl (e_dq hd rfl) rfl rfl rfl rfl (c_423 (e_dq hd rfl) hvT (R := w 275 5) (E := wE w) (j105 275 5 no_9s_16) ⟨hB.1.1, by have h1 := hB.1; have h2 := hnb; unfold mBk at h2; omega⟩ (Eq.trans (j105 275 6 no_9s_17) h6) (fun e => by unfold wE; rw [if_pos e]) (fun e => by unfold wE; rw [if_neg (by omega)]; exact j105 356 _ no_9s_18) (wE_bd hB) (by decide) (fun _ => ⟨by omega, by omega, fun i g1 g2 => by rw [hfv]; have := hfo i g1 (by omega); omega⟩)) (fun r112 w113 h114 => ?_)
                                                obtain ⟨rfl, q115⟩ := h114
                                                refine e_Ok.nrm (q := 454) (st' := []) rfl rfl ?_
                                                refine e_Ok.ps1 (x := (0, z71)) (q := 456) 1 rfl ?_
                                                refine e_Ok.rets rfl rfl ?_
                                                have hp8 : v1 275 118 = w 275 118 + 1 := Eq.trans (j108 275 118 (by decide)) (e_uq hw94 (Or.inl (by decide)) (e_uq hw91 (Or.inl (by decide)) (e_uq hw88 (Or.inl (by decide)) (e_uq hw85 (Or.inl (by decide)) ((q70 275 118 no_9s_13).trans ((q64 275 118 no_9s_9).trans (e_uq hw58 (Or.inr (by decide)) (e_uq hw55 (Or.inr (by decide)) (e_uq hw52 (Or.inr (by decide)) (e_ue hw37))))))))))
                                                exact ⟨_, rfl, Or.inr ⟨⟨⟨by omega, by omega, by omega⟩, by omega, by omega, (by rw [hmq, ← prd_congr (f := f) (g := ndF w p1 p2) (fun k q1 q2 => by rw [← hf k, (q31J k q1 (by omega)).2.1]; rfl)]; exact hFp), fun j q1 q2 => (by have h9 := j48 j q1 (by rw [hmq] at q2; omega); rw [(q31J j q1 (by rw [hmq] at q2; exact q2)).1] at h9; exact h9)⟩, hnb, z71, (fun i => w68 353 i), v1, by omega, j105, hwn, hvi, fun j g1 g2 => hfv j, q115, by omega⟩⟩
                                              · replace h111 : (y9 : Int) < 1000 := Int.not_le.mp (show ¬ ((y9 : Int) ≥ 1000) from h111)
                                                refine e_Ok.ps1 (x := (1, 275)) (q := 405) 1 rfl ?_
                                                refine e_Ok.getr (z := 276) rfl (el_o rfl) rfl (ef_o rfl) ((j105 275 0 no_9s_20).trans (e_Has.eq hI.1 rfl)) ⟨by decide, by decide⟩ ?_
                                                refine e_Ok.ps3 (x := (0, p1)) (y := (0, 1000)) (z := (0, 21060)) (q := 415) 3 rfl ?_
                                                refine e_Ok.mul (z := 1000 * p1) rfl rfl (by omega) ?_
                                                refine e_Ok.add (z := 1000 * p1 + 21060) rfl (Int.add_comm _ _) (by omega) ?_
                                                refine e_Ok.ps1 (x := (0, y9)) (q := 419) 1 rfl ?_
                                                refine e_Ok.add (z := 1000 * p1 + y9 + 21060) rfl (by omega) (by omega) ?_
                                                refine e_Ok.ps2 (x := (0, z71)) (y := (0, y9)) (q := 424) 2 rfl ?_
                                                refine e_Ok.if2 rfl (fun h116 => ?_) (fun h116 => ?_)
                                                · replace h116 : (y9 : Int) ≥ z71 := h116
                                                  refine e_Ok.ps1 (x := (0, 0)) (q := 438) 1 rfl ?_
                                                  refine e_Ok.ast rfl (el_o rfl) rfl rfl (by omega) ?_
                                                  generalize hw117 : e_up v1 276 (1000 * p1 + y9 + 21060) 0 = w117
                                                  have hT119 : e_Has mTy w117 := e_Has.upr j106 hw117 (nR_WAY (by omega)) (by omega)
                                                  refine e_Ok.inc (z := y9 + 1) rfl rfl (by first | with_reducible rfl | omega) (by omega) ?_
                                                  show e_Ok 20 elay ecode eI (d + 1) 418 (442, [(9, (0, y9 + 1)), (0, (1, 275)), (1, (0, p1)), (2, (0, p2)), (3, (0, p3)), (7, (0, z71))], [], w117) _
                                                  refine e_Ok.ps0 (q := 396) 1 rfl ?_
                                                  refine e_Ok.sub eAlk (e_sub_of rfl ?_) (ih104 (y9 + 1) w117 ⟨(show e_fr mPm w w117 from e_fr.up j105 hw117 (by first | exact Or.inl rfl | (unfold mPm; omega))), hT119, by omega, (fun c k q => Eq.trans (show w117 c k = v1 c k from by rw [← hw117]; exact e_up_ne _ _ (Or.inl q)) (j108 c k q)), (fun k q => Eq.trans (show w117 276 k = v1 276 k from by rw [← hw117]; exact e_up_ne _ _ (Or.inr (by omega))) (j109 k (by omega))), (fun i g1 g2 => Decidable.byCases (p := i = y9) (fun e => by rw [e, ← hw117, if_neg (by omega)]; exact e_up_eq _ _ _ _) (fun e => Eq.trans (show w117 276 (1000 * p1 + i + 21060) = v1 276 (1000 * p1 + i + 21060) from by rw [← hw117]; exact e_up_ne _ _ (Or.inr (by omega))) (j110 i g1 (by omega))))⟩ (by omega))
                                                  exact ⟨rfl, rfl, rfl, rfl, rfl, rfl, trivial⟩
                                                · replace h116 : (y9 : Int) < z71 := Int.not_le.mp (show ¬ ((y9 : Int) ≥ z71) from h116)
                                                  have hfo2 : ∀ k, v1 353 k = w68 353 k := fun k => Eq.trans (j108 353 k (by decide)) ((fun e => Eq.trans (show w94 353 e = w91 353 e from by rw [← hw94]; exact e_up_ne _ _ (Or.inl (by decide))) ((fun e => Eq.trans (show w91 353 e = w88 353 e from by rw [← hw91]; exact e_up_ne _ _ (Or.inl (by decide))) ((fun e => Eq.trans (show w88 353 e = w85 353 e from by rw [← hw88]; exact e_up_ne _ _ (Or.inl (by decide))) ((fun e => Eq.trans (show w85 353 e = w68 353 e from by rw [← hw85]; exact e_up_ne _ _ (Or.inl (by decide))) ((fun e => rfl) e)) e)) e)) e)) k)
                                                  have hfy := hfo y9 (by omega) (by omega)
                                                  refine e_Ok.ps1 (x := (1, 275)) (q := 428) 1 rfl ?_
                                                  refine e_Ok.getr (z := 353) rfl (el_o rfl) rfl (ef_o rfl) ((j105 275 113 no_9s_21).trans (e_Has.eq hI.1 rfl)) ⟨by decide, by decide⟩ ?_
                                                  refine e_Ok.ps1 (x := (0, y9)) (q := 433) 1 rfl ?_
                                                  refine e_Ok.ald (z := w68 353 y9) rfl (el_o rfl) rfl (by omega) (hfo2 y9) (by omega) ?_
                                                  refine e_Ok.ps0 (q := 438) 1 rfl ?_
                                                  refine e_Ok.ast rfl (el_o rfl) rfl rfl (by omega) ?_
                                                  generalize hw120 : e_up v1 276 (1000 * p1 + y9 + 21060) (w68 353 y9) = w120
                                                  have hT122 : e_Has mTy w120 := e_Has.upr j106 hw120 (nR_WAY (by omega)) (by omega)
                                                  refine e_Ok.inc (z := y9 + 1) rfl rfl (by first | with_reducible rfl | omega) (by omega) ?_
                                                  show e_Ok 20 elay ecode eI (d + 1) 418 (442, [(9, (0, y9 + 1)), (0, (1, 275)), (1, (0, p1)), (2, (0, p2)), (3, (0, p3)), (7, (0, z71))], [], w120) _
                                                  refine e_Ok.ps0 (q := 396) 1 rfl ?_
                                                  refine e_Ok.sub eAlk (e_sub_of rfl ?_) (ih104 (y9 + 1) w120 ⟨(show e_fr mPm w w120 from e_fr.up j105 hw120 (by first | exact Or.inl rfl | (unfold mPm; omega))), hT122, by omega, (fun c k q => Eq.trans (show w120 c k = v1 c k from by rw [← hw120]; exact e_up_ne _ _ (Or.inl q)) (j108 c k q)), (fun k q => Eq.trans (show w120 276 k = v1 276 k from by rw [← hw120]; exact e_up_ne _ _ (Or.inr (by omega))) (j109 k (by omega))), (fun i g1 g2 => Decidable.byCases (p := i = y9) (fun e => by rw [e, ← hw120, if_pos (by omega)]; exact e_up_eq _ _ _ _) (fun e => Eq.trans (show w120 276 (1000 * p1 + i + 21060) = v1 276 (1000 * p1 + i + 21060) from by rw [← hw120]; exact e_up_ne _ _ (Or.inr (by omega))) (j110 i g1 (by omega))))⟩ (by omega))
                                                  exact ⟨rfl, rfl, rfl, rfl, rfl, rfl, trivial⟩
                                          refine e_Ok.sub eAlk (e_sub_of rfl ?_) (hL103 (1001 + 1 : Int).toNat 0 w94 ⟨(show e_fr mPm w w94 from e_fr.up (show e_fr mPm w w91 from e_fr.up (show e_fr mPm w w88 from e_fr.up (show e_fr mPm w w85 from e_fr.up f72 hw85 (by first | exact Or.inl rfl | (unfold mPm; omega))) hw88 (by first | exact Or.inl rfl | (unfold mPm; omega))) hw91 (by first | exact Or.inl rfl | (unfold mPm; omega))) hw94 (by first | exact Or.inl rfl | (unfold mPm; omega))), hT101, by omega, (fun c k _ => rfl), (fun k _ => rfl), (fun i g1 g2 => by omega)⟩ (by omega))
                                          exact ⟨rfl, rfl, rfl, rfl, rfl, rfl, trivial⟩
                                        · replace h81 : (0 : Int) ≠ 0 := (show ¬ ((0 : Int) = 0) from h81)
                                          exfalso; omega
                                    · replace h74 : (z71 : Int) < 0 := Int.not_le.mp (show ¬ ((z71 : Int) ≥ 0) from h74)
                                      exfalso; omega
                                · replace h66 : (0 : Int) ≠ 0 := (show ¬ ((0 : Int) = 0) from h66)
                                  exfalso; omega
                              · replace h51 : (y7 : Int) < m := Int.not_le.mp (show ¬ ((y7 : Int) ≥ m) from h51)
                                refine e_Ok.ps1 (x := (1, 275)) (q := 135) 1 rfl ?_
                                refine e_Ok.getr (z := 276) rfl (el_o rfl) rfl (ef_o rfl) (e_uq hw37 (Or.inr (by decide)) ((q31 275 0 no_9s_0).trans (e_Has.eq hI.1 rfl))) ⟨by decide, by decide⟩ ?_
                                refine e_Ok.ps2 (x := (0, y7)) (y := (0, 8)) (q := 142) 2 rfl ?_
                                refine e_Ok.add (z := y7 + 8) rfl (Int.add_comm _ _) (by omega) ?_
                                have h123 := (e_Has.now hI.1 (y7 + 8))
                                refine e_Ok.ald (z := w 276 (y7 + 8)) rfl (el_o rfl) rfl (by omega) (e_uq hw37 (Or.inl (by decide)) ((q31 276 (y7 + 8) no_9s_2).trans rfl)) (by omega) ?_
                                refine e_Ok.run (t' := (150, [(8, (0, w 276 (y7 + 8))), (0, (1, 275)), (1, (0, p1)), (2, (0, p2)), (3, (0, p3)), (4, (0, z30)), (5, (0, y5)), (6, (0, y6)), (7, (0, y7))], [(1, 275), (4, w 276 (y7 + 8))], w37)) 4 rfl ?_
                                refine e_Ok.getr (z := 288) rfl (el_o rfl) rfl (ef_o rfl) (e_uq hw37 (Or.inr (by decide)) ((q31 275 17 no_9s_0).trans (e_Has.eq hI.1 rfl))) ⟨by decide, by decide⟩ ?_
                                refine e_Ok.ps2 (x := (0, p1)) (y := (0, 6)) (q := 156) 2 rfl ?_
                                refine e_Ok.mul (z := 6 * p1) rfl rfl (by omega) ?_
                                refine e_Ok.ps1 (x := (0, y7)) (q := 159) 1 rfl ?_
                                refine e_Ok.add (z := 6 * p1 + y7) rfl rfl (by omega) ?_
                                have h124 := (e_Has.get hI.1 (c := 288) (k := 6 * p1 + y7) (lo := (-100000)) (hi := 0) rfl (by decide))
                                refine e_Ok.ald (z := w 288 (6 * p1 + y7)) rfl (el_o rfl) rfl (by omega) (e_uq hw37 (Or.inl (by decide)) ((q31 288 (6 * p1 + y7) no_9s_3).trans rfl)) (e_bq h124 (by decide) (by decide)) ?_
                                refine e_Ok.run (t' := (163, [(8, (0, w 276 (y7 + 8))), (0, (1, 275)), (1, (0, p1)), (2, (0, p2)), (3, (0, p3)), (4, (0, z30)), (5, (0, y5)), (6, (0, y6)), (7, (0, y7))], [(1, 275), (4, w 288 (6 * p1 + y7)), (4, w 276 (y7 + 8))], w37)) 2 rfl ?_
                                refine e_Ok.getr (z := 289) rfl (el_o rfl) rfl (ef_o rfl) (e_uq hw37 (Or.inr (by decide)) ((q31 275 18 no_9s_0).trans (e_Has.eq hI.1 rfl))) ⟨by decide, by decide⟩ ?_
                                refine e_Ok.ps2 (x := (0, p1)) (y := (0, 6)) (q := 169) 2 rfl ?_
                                refine e_Ok.mul (z := 6 * p1) rfl rfl (by omega) ?_
                                refine e_Ok.ps1 (x := (0, y7)) (q := 172) 1 rfl ?_
                                refine e_Ok.add (z := 6 * p1 + y7) rfl rfl (by omega) ?_
                                have h125 := (e_Has.get hI.1 (c := 289) (k := 6 * p1 + y7) (lo := 0) (hi := 100000) rfl (by decide))
                                refine e_Ok.ald (z := w 289 (6 * p1 + y7)) rfl (el_o rfl) rfl (by omega) (e_uq hw37 (Or.inl (by decide)) ((q31 289 (6 * p1 + y7) no_9s_4).trans rfl)) (e_bq h125 (by decide) (by decide)) ?_
                                refine e_Ok.run (t' := (175, [(8, (0, w 276 (y7 + 8))), (0, (1, 275)), (1, (0, p1)), (2, (0, p2)), (3, (0, p3)), (4, (0, z30)), (5, (0, y5)), (6, (0, y6)), (7, (0, y7))], [(4, w 289 (6 * p1 + y7)), (4, w 288 (6 * p1 + y7)), (4, w 276 (y7 + 8))], w37)) 1 rfl ?_
                                refine e_Ok.callS rfl (e_dq hd rfl) rfl rfl (c_266) (fun r126 w127 h128 => ?_)
                                obtain ⟨z129, rfl, rfl, q130⟩ := h128
                                obtain ⟨rfl, q130⟩ | ⟨rfl, q130⟩ := q130
                                · refine e_Ok.nrm (q := 178) (st' := [(0, 1)]) rfl rfl ?_
                                  refine e_Ok.if1 rfl (fun h131 => ?_) (fun h131 => ?_)
                                  · replace h131 : (1 : Int) = 0 := h131
                                    exfalso; omega
                                  · replace h131 : (1 : Int) ≠ 0 := (show ¬ ((1 : Int) = 0) from h131)
                                    refine e_Ok.ps2 (x := (1, 275)) (y := (0, w 276 (y7 + 8))) (q := 184) 2 rfl ?_
                                    refine e_Ok.getr (z := 348) rfl (el_o rfl) rfl (ef_o rfl) (e_uq hw37 (Or.inr (by decide)) ((q31 275 105 no_9s_0).trans (e_Has.eq hI.1 rfl))) ⟨by decide, by decide⟩ ?_
                                    refine e_Ok.ps1 (x := (0, y7)) (q := 189) 1 rfl ?_
                                    have h132 := (hf8 y7 (by omega) (by omega))
                                    refine e_Ok.ald (z := w28 348 y7) rfl (el_o rfl) rfl (by omega) (e_uq hw37 (Or.inl (by decide)) rfl) (by omega) ?_
                                    refine e_Ok.sub' (z := w 276 (y7 + 8) - w28 348 y7) rfl rfl (by omega) ?_
                                    refine e_Ok.ps1 (x := (0, p2)) (q := 192) 1 rfl ?_
                                    refine e_Ok.remd rfl (by omega) (by omega) (fun z133 hz133 z133a z133b => ?_)
                                    refine e_Ok.if1 rfl (fun h134 => ?_) (fun h134 => ?_)
                                    · replace h134 : (z133 : Int) = 0 := h134
                                      refine e_Ok.run (t' := (204, [(8, (0, w 276 (y7 + 8))), (0, (1, 275)), (1, (0, p1)), (2, (0, p2)), (3, (0, p3)), (4, (0, z30)), (5, (0, y5)), (6, (0, y6)), (7, (0, y7))], [(0, y7), (1, 275), (0, y5)], w37)) 3 rfl ?_
                                      refine e_Ok.callV rfl (e_dq hd rfl) rfl rfl rfl rfl (c_411_f hT40 (fun k => Eq.trans ((fun e => Eq.trans (show w37 347 e = w28 347 e from by rw [← hw37]; exact e_up_ne _ _ (Or.inl (by decide))) ((fun e => rfl) e)) k) (hf k)) (by omega) (by omega) hfN hFp) (fun r135 w136 h137 => ?_)
                                      obtain ⟨q138, rfl⟩ := h137
                                      obtain ⟨z139, hz139⟩ : ∃ z, z = prd f y7.toNat := ⟨_, rfl⟩
                                      rw [← hz139] at q138; subst q138
                                      have z139b := (show 1 ≤ z139 ∧ z139 ≤ 1000 from by rw [hz139]; exact prd_bd (by omega) (by omega) hfN hFp)
                                      show e_Ok 20 elay ecode eI (d + 1) 418 (207, [(8, (0, w 276 (y7 + 8))), (0, (1, 275)), (1, (0, p1)), (2, (0, p2)), (3, (0, p3)), (4, (0, z30)), (5, (0, y5)), (6, (0, y6)), (7, (0, y7))], [(0, z139), (0, y5)], w37) _
                                      refine e_Ok.ps1 (x := (1, 275)) (q := 208) 1 rfl ?_
                                      refine e_Ok.getr (z := 276) rfl (el_o rfl) rfl (ef_o rfl) (e_uq hw37 (Or.inr (by decide)) ((q31 275 0 no_9s_0).trans (e_Has.eq hI.1 rfl))) ⟨by decide, by decide⟩ ?_
                                      refine e_Ok.ps1 (x := (0, p1)) (q := 212) 1 rfl ?_
                                      refine e_Ok.callS rfl (e_dq hd rfl) rfl rfl (c_268 (by omega)) (fun r140 w141 h142 => ?_)
                                      obtain ⟨rfl, rfl⟩ := h142
                                      refine e_Ok.nrm (q := 215) (st' := [(0, 36 * p1 + 16), (1, 276), (0, z139), (0, y5)]) rfl rfl ?_
                                      refine e_Ok.ps1 (x := (0, 16)) (q := 217) 1 rfl ?_
                                      refine e_Ok.add (z := 36 * p1 + 32) rfl (e_adl (by decide)) (by omega) ?_
                                      refine e_Ok.ps1 (x := (0, y7)) (q := 220) 1 rfl ?_
                                      refine e_Ok.add (z := 36 * p1 + y7 + 32) rfl (by omega) (by omega) ?_
                                      have h143 := (e_Has.get hI.1 (c := 276) (k := 36 * p1 + y7 + 32) (lo := (-100000)) (hi := 100000) (nR_VALUE (a := p1) (j := y7) (by omega) (by omega)) (by decide))
                                      refine e_Ok.ald (z := w 276 (36 * p1 + y7 + 32)) rfl (el_o rfl) rfl (by omega) (e_uq hw37 (Or.inl (by decide)) ((q31 276 (36 * p1 + y7 + 32) no_9s_2).trans rfl)) (e_bq h143 (by decide) (by decide)) ?_
                                      refine e_Ok.ps1 (x := (1, 275)) (q := 223) 1 rfl ?_
                                      refine e_Ok.getr (z := 348) rfl (el_o rfl) rfl (ef_o rfl) (e_uq hw37 (Or.inr (by decide)) ((q31 275 105 no_9s_0).trans (e_Has.eq hI.1 rfl))) ⟨by decide, by decide⟩ ?_
                                      refine e_Ok.ps1 (x := (0, y7)) (q := 228) 1 rfl ?_
                                      refine e_Ok.ald (z := w28 348 y7) rfl (el_o rfl) rfl (by omega) (e_uq hw37 (Or.inl (by decide)) rfl) (by omega) ?_
                                      refine e_Ok.sub' (z := w 276 (36 * p1 + y7 + 32) - w28 348 y7) rfl rfl (by omega) ?_
                                      refine e_Ok.ps1 (x := (0, p2)) (q := 231) 1 rfl ?_
                                      have hgdF := gr_in (q31J y7 (by omega) (by omega)) (by omega) (hV y7 (by omega) (by omega)) (hV y7 (by omega) (by omega)) (gr_val (q31J y7 (by omega) (by omega)))
                                      have hgdFx : 0 ≤ w 276 (36 * p1 + y7 + 32) - w28 348 y7 := by rw [gr_val (q31J y7 (by omega) (by omega))]; exact Int.mul_nonneg hgdF.1.1 (by omega)
                                      have hVy := hV y7 (by omega) (by omega)
                                      refine e_Ok.divn (fun z144 hz144 => ?_) rfl (by omega) (by omega)
                                      replace hz144 : z144 = dF y7 := Eq.trans hz144 (hdF y7).symm
                                      have z144b : 0 ≤ dF y7 ∧ dF y7 < f y7 := by rw [hdF y7, hgdF.2, ← hf y7]; exact hgdF.1
                                      have hsdF : smd f dF (y7 + 1).toNat = y5 + z139 * z144 := by rw [show (y7 + 1).toNat = y7.toNat + 1 by omega]; show smd f dF y7.toNat + prd f y7.toNat * dF (y7.toNat : Int) = _; rw [← j44, ← hz139, show ((y7.toNat : Nat) : Int) = y7 by omega, ← hz144]
                                      have hbdF : ∀ k, 0 ≤ k → k < y7 + 1 → 0 ≤ dF k ∧ dF k < f k := fun k g1 g2 => Decidable.byCases (p := k = y7) (fun e => by rw [e]; exact z144b) (fun e => j46 k g1 (by omega))
                                      have hidF := smd_in (f := f) (d := dF) (n := (y7 + 1).toNat) (fun k g1 g2 => hbdF k g1 (by omega))
                                      have hjdF := prd_bd (f := f) (m := m) (j := y7 + 1) (by omega) (by omega) hfN hFp
                                      rw [hsdF] at hidF
                                      have hzdF : 0 ≤ z144 := by rw [hz144]; exact z144b.1
                                      have hkdF : 0 ≤ z139 * z144 := Int.mul_nonneg (by omega) hzdF
                                      have hldF : z144 ≤ 200001 := by have h1 := hfN y7 (by omega) (by omega); rw [hz144]; omega
                                      refine e_Ok.mul (z := z139 * z144) rfl (by omega) (by omega) ?_
                                      refine e_Ok.add (z := y5 + z139 * z144) rfl rfl (by omega) ?_
                                      refine e_Ok.run (t' := (241, [(5, (0, y5 + z139 * z144)), (8, (0, w 276 (y7 + 8))), (0, (1, 275)), (1, (0, p1)), (2, (0, p2)), (3, (0, p3)), (4, (0, z30)), (6, (0, y6)), (7, (0, y7))], [(0, y7), (1, 275), (0, y6)], w37)) 4 rfl ?_
                                      refine e_Ok.callV rfl (e_dq hd rfl) rfl rfl rfl rfl (c_411_f hT40 (fun k => Eq.trans ((fun e => Eq.trans (show w37 347 e = w28 347 e from by rw [← hw37]; exact e_up_ne _ _ (Or.inl (by decide))) ((fun e => rfl) e)) k) (hf k)) (by omega) (by omega) hfN hFp) (fun r145 w146 h147 => ?_)
                                      obtain ⟨q148, rfl⟩ := h147
                                      obtain ⟨z149, hz149⟩ : ∃ z, z = prd f y7.toNat := ⟨_, rfl⟩
                                      rw [← hz149] at q148; subst q148
                                      have z149b := (show 1 ≤ z149 ∧ z149 ≤ 1000 from by rw [hz149]; exact prd_bd (by omega) (by omega) hfN hFp)
                                      show e_Ok 20 elay ecode eI (d + 1) 418 (244, [(5, (0, y5 + z139 * z144)), (8, (0, w 276 (y7 + 8))), (0, (1, 275)), (1, (0, p1)), (2, (0, p2)), (3, (0, p3)), (4, (0, z30)), (6, (0, y6)), (7, (0, y7))], [(0, z149), (0, y6)], w37) _
                                      refine e_Ok.ps2 (x := (1, 275)) (y := (0, w 276 (y7 + 8))) (q := 247) 2 rfl ?_
                                      refine e_Ok.getr (z := 348) rfl (el_o rfl) rfl (ef_o rfl) (e_uq hw37 (Or.inr (by decide)) ((q31 275 105 no_9s_0).trans (e_Has.eq hI.1 rfl))) ⟨by decide, by decide⟩ ?_
                                      refine e_Ok.ps1 (x := (0, y7)) (q := 252) 1 rfl ?_
                                      refine e_Ok.ald (z := w28 348 y7) rfl (el_o rfl) rfl (by omega) (e_uq hw37 (Or.inl (by decide)) rfl) (by omega) ?_
                                      refine e_Ok.sub' (z := w 276 (y7 + 8) - w28 348 y7) rfl rfl (by omega) ?_
                                      refine e_Ok.ps1 (x := (0, p2)) (q := 255) 1 rfl ?_
                                      obtain ⟨qa, hqa⟩ := hz133.1 (by omega)
                                      have hgdT := gr_in (q31J y7 (by omega) (by omega)) (by omega) (hV y7 (by omega) (by omega)) (x := w 276 (y7 + 8)) ⟨by omega, by omega⟩ hqa
                                      have hgdTx : 0 ≤ w 276 (y7 + 8) - w28 348 y7 := by rw [hqa]; exact Int.mul_nonneg hgdT.1.1 (by omega)
                                      have hVy := hV y7 (by omega) (by omega)
                                      refine e_Ok.divn (fun z150 hz150 => ?_) rfl (by omega) (by omega)
                                      replace hz150 : z150 = dT y7 := Eq.trans hz150 (hdT y7).symm
                                      have z150b : 0 ≤ dT y7 ∧ dT y7 < f y7 := by rw [hdT y7, hgdT.2, ← hf y7]; exact hgdT.1
                                      have hsdT : smd f dT (y7 + 1).toNat = y6 + z149 * z150 := by rw [show (y7 + 1).toNat = y7.toNat + 1 by omega]; show smd f dT y7.toNat + prd f y7.toNat * dT (y7.toNat : Int) = _; rw [← j45, ← hz149, show ((y7.toNat : Nat) : Int) = y7 by omega, ← hz150]
                                      have hbdT : ∀ k, 0 ≤ k → k < y7 + 1 → 0 ≤ dT k ∧ dT k < f k := fun k g1 g2 => Decidable.byCases (p := k = y7) (fun e => by rw [e]; exact z150b) (fun e => j47 k g1 (by omega))
                                      have hidT := smd_in (f := f) (d := dT) (n := (y7 + 1).toNat) (fun k g1 g2 => hbdT k g1 (by omega))
                                      have hjdT := prd_bd (f := f) (m := m) (j := y7 + 1) (by omega) (by omega) hfN hFp
                                      rw [hsdT] at hidT
                                      have hzdT : 0 ≤ z150 := by rw [hz150]; exact z150b.1
                                      have hkdT : 0 ≤ z149 * z150 := Int.mul_nonneg (by omega) hzdT
                                      have hldT : z150 ≤ 200001 := by have h1 := hfN y7 (by omega) (by omega); rw [hz150]; omega
                                      refine e_Ok.mul (z := z149 * z150) rfl (by omega) (by omega) ?_
                                      refine e_Ok.add (z := y6 + z149 * z150) rfl rfl (by omega) ?_
                                      refine e_Ok.run (t' := (260, [(6, (0, y6 + z149 * z150)), (5, (0, y5 + z139 * z144)), (8, (0, w 276 (y7 + 8))), (0, (1, 275)), (1, (0, p1)), (2, (0, p2)), (3, (0, p3)), (4, (0, z30)), (7, (0, y7))], [], w37)) 1 rfl ?_
                                      refine e_Ok.inc (z := y7 + 1) rfl rfl (by first | with_reducible rfl | omega) (by omega) ?_
                                      show e_Ok 20 elay ecode eI (d + 1) 418 (263, [(7, (0, y7 + 1)), (6, (0, y6 + z149 * z150)), (5, (0, y5 + z139 * z144)), (8, (0, w 276 (y7 + 8))), (0, (1, 275)), (1, (0, p1)), (2, (0, p2)), (3, (0, p3)), (4, (0, z30))], [], w37) _
                                      refine e_Ok.ps0 (q := 123) 1 rfl ?_
                                      refine e_Ok.sub eAlk (e_sub_of rfl ?_) (ih42 (y5 + z139 * z144) (y6 + z149 * z150) (y7 + 1) ⟨by omega, hsdF.symm, hsdT.symm, hbdF, hbdT, (fun k g1 g2 => Decidable.byCases (p := k = y7) (fun e => by rw [e]; exact ⟨⟨by omega, by omega⟩, qa, hqa⟩) (fun e => j48 k g1 (by omega))), by omega, by omega⟩ (by omega))
                                      exact ⟨rfl, rfl, rfl, rfl, rfl, rfl, rfl, rfl, trivial⟩
                                    · replace h134 : (z133 : Int) ≠ 0 := (show ¬ ((z133 : Int) = 0) from h134)
                                      refine e_Ok.run (t' := (198, [(8, (0, w 276 (y7 + 8))), (0, (1, 275)), (1, (0, p1)), (2, (0, p2)), (3, (0, p3)), (4, (0, z30)), (5, (0, y5)), (6, (0, y6)), (7, (0, y7))], [(0, (-2))], w37)) 1 rfl ?_
                                      refine e_Ok.rets rfl rfl ?_
                                      have hp8 : w37 275 118 = w 275 118 + 1 := (e_ue hw37)
                                      exact ⟨_, rfl, Or.inl ⟨f38, (fun e => Eq.trans (show w37 276 e = w28 276 e from by rw [← hw37]; exact e_up_ne _ _ (Or.inl (by decide))) ((fun e => Eq.trans (q31 276 e no_9s_2) ((fun e => rfl) e)) e)), by omega⟩⟩
                                · refine e_Ok.nrm (q := 178) (st' := [(0, 0)]) rfl rfl ?_
                                  refine e_Ok.if1 rfl (fun h151 => ?_) (fun h151 => ?_)
                                  · replace h151 : (0 : Int) = 0 := h151
                                    refine e_Ok.ps1 (x := (0, (-2))) (q := 198) 1 rfl ?_
                                    refine e_Ok.rets rfl rfl ?_
                                    have hp8 : w37 275 118 = w 275 118 + 1 := (e_ue hw37)
                                    exact ⟨_, rfl, Or.inl ⟨f38, (fun e => Eq.trans (show w37 276 e = w28 276 e from by rw [← hw37]; exact e_up_ne _ _ (Or.inl (by decide))) ((fun e => Eq.trans (q31 276 e no_9s_2) ((fun e => rfl) e)) e)), by omega⟩⟩
                                  · replace h151 : (0 : Int) ≠ 0 := (show ¬ ((0 : Int) = 0) from h151)
                                    exfalso; omega
                          refine e_Ok.sub eAlk (e_sub_of rfl ?_) (hL41 (7 + 1 : Int).toNat 0 0 0 ⟨by omega, rfl, rfl, (fun k g1 g2 => by omega), (fun k g1 g2 => by omega), (fun k g1 g2 => by omega), by omega, by omega⟩ (by omega))
                          exact ⟨rfl, rfl, rfl, rfl, rfl, rfl, rfl, rfl, trivial⟩
                        · replace h36 : (0 : Int) ≠ 0 := (show ¬ ((0 : Int) = 0) from h36)
                          exfalso; omega
                      · replace h35 : (w 275 118 : Int) = 60 := Classical.not_not.mp (show ¬ ((w 275 118 : Int) ≠ 60) from h35)
                        refine e_Ok.ps1 (x := (1, 275)) (q := 84) 1 rfl ?_
                        refine e_Ok.getf (z := 0) rfl (el_o rfl) rfl (ef_o rfl) ((q31 275 6 no_9s_0).trans h6) (by omega) ?_
                        refine e_Ok.if1 rfl (fun h152 => ?_) (fun h152 => ?_)
                        · replace h152 : (0 : Int) ≠ 0 := h152
                          exfalso; omega
                        · replace h152 : (0 : Int) = 0 := Classical.not_not.mp (show ¬ ((0 : Int) ≠ 0) from h152)
                          refine e_Ok.ps1 (x := (0, (-3))) (q := 92) 1 rfl ?_
                          refine e_Ok.rets rfl rfl ?_
                          have hp8 : w28 275 118 = w 275 118 := ((q31 275 118 no_9s_0).trans rfl)
                          exact ⟨_, rfl, Or.inl ⟨f32, (fun e => Eq.trans (q31 276 e no_9s_2) ((fun e => rfl) e)), by omega⟩⟩
                · replace h26 : (w 276 (36 * p1 + 16) : Int) ≠ 0 := (show ¬ ((w 276 (36 * p1 + 16) : Int) = 0) from h26)
                  refine e_Ok.ps1 (x := (0, (-2))) (q := 57) 1 rfl ?_
                  refine e_Ok.rets rfl rfl ?_
                  have hp8 : w 275 118 = w 275 118 := rfl
                  exact ⟨_, rfl, Or.inl ⟨(e_fr.refl w), (fun e => rfl), by omega⟩⟩
            · replace h19 : (1 : Int) = 0 := Classical.not_not.mp (show ¬ ((1 : Int) ≠ 0) from h19)
              exfalso; omega
          · refine e_Ok.nrm (q := 29) (st' := [(0, 0)]) rfl rfl ?_
            refine e_Ok.if1 rfl (fun h153 => ?_) (fun h153 => ?_)
            · replace h153 : (0 : Int) ≠ 0 := h153
              exfalso; omega
            · replace h153 : (0 : Int) = 0 := Classical.not_not.mp (show ¬ ((0 : Int) ≠ 0) from h153)
              refine e_Ok.ps1 (x := (0, (-1))) (q := 33) 1 rfl ?_
              refine e_Ok.rets rfl rfl ?_
              have hp8 : w 275 118 = w 275 118 := rfl
              exact ⟨_, rfl, Or.inl ⟨(e_fr.refl w), (fun e => rfl), by omega⟩⟩
      · refine e_Ok.nrm (q := 17) (st' := [(0, 0)]) rfl rfl ?_
        refine e_Ok.if1 rfl (fun h154 => ?_) (fun h154 => ?_)
        · replace h154 : (0 : Int) = 0 := h154
          refine e_Ok.ps1 (x := (0, (-1))) (q := 33) 1 rfl ?_
          refine e_Ok.rets rfl rfl ?_
          have hp8 : w 275 118 = w 275 118 := rfl
          exact ⟨_, rfl, Or.inl ⟨(e_fr.refl w), (fun e => rfl), by omega⟩⟩
        · replace h154 : (0 : Int) ≠ 0 := (show ¬ ((0 : Int) = 0) from h154)
          exfalso; omega
  · refine e_Ok.nrm (q := 5) (st' := [(0, 0)]) rfl rfl ?_
    refine e_Ok.if1 rfl (fun h155 => ?_) (fun h155 => ?_)
    · replace h155 : (0 : Int) = 0 := h155
      refine e_Ok.ps1 (x := (0, (-1))) (q := 33) 1 rfl ?_
      refine e_Ok.rets rfl rfl ?_
      have hp8 : w 275 118 = w 275 118 := rfl
      exact ⟨_, rfl, Or.inl ⟨(e_fr.refl w), (fun e => rfl), by omega⟩⟩
    · replace h155 : (0 : Int) ≠ 0 := (show ¬ ((0 : Int) = 0) from h155)
      exfalso; omega
theorem no_9s_22 {k : Int} : ¬ mP 355 k := by unfold mP; omega
theorem no_9s_23 {k : Int} : ¬ mNc 355 k := by unfold mNc; omega
theorem no_9s_24 {k : Int} : ¬ mPm 355 k := by unfold mPm; omega
theorem no_9s_25 {k : Int} : ¬ mPm 354 k := by unfold mPm; omega
theorem no_9s_26 {k : Int} : ¬ mFo 276 k := by unfold mFo; omega
theorem su_9s_30 {c k : Int} (q : mFo c k) : mPm c k := by
  unfold mFo at q
  rcases q with q
  · exact Or.inr (Or.inr (Or.inr ⟨(by omega), (by omega)⟩))
set_option maxHeartbeats 4000000 in
theorem c_418_a {d : Nat} (hd : 33 ≤ d) {w : eW} {G : Int → Gh} (hI : mInv w G) (hB : bkE w) {p1 p2 p3 : Int} (g1 : -2147483648 ≤ p1 ∧ p1 ≤ 2147483647) (g2 : -2147483648 ≤ p2 ∧ p2 ≤ 2147483647) (g3 : -2147483648 ≤ p3 ∧ p3 ≤ 2147483647) (hpl : 0 ≤ w 275 118 ∧ w 275 118 ≤ 60) (h6 : w 275 6 = 1) (hA : plA w p1 p2 p3) {R E zz : Int} {g : Int → Int} (hR : 0 ≤ R ∧ R ≤ 1999) (hr7 : w 275 117 = R) (hzz : 0 ≤ zz ∧ zz ≤ 999) (hEE : 0 ≤ E ∧ E + zz ≤ 200000) (hE5 : w 355 R = E) (hE6 : w 356 R = E + zz) (hE4 : ∀ i, 0 ≤ i → i < zz → w 354 (E + i) = g i ∧ 0 ≤ g i ∧ g i ≤ 11) : e_Ok 20 elay ecode eI d 418 (0, [(0, (1, 275)), (1, (0, p1)), (2, (0, p2)), (3, (0, p3))], [], w) (fun r w' => ∃ z : Int, r = [(0, z)] ∧ e_fr mPm w w' ∧ e_Has mTy w' ∧ w' 275 118 = w 275 118 ∧ ∀ k, w' 276 k = plN w p1 p2 zz g k) := by
  obtain ⟨d, rfl⟩ : ∃ e, d = e + 1 := ⟨d - 1, by omega⟩
  obtain ⟨m, hmq⟩ : ∃ m, w 286 p1 = m := ⟨_, rfl⟩
  have hmb := e_Has.get hI.1 (c := 286) (k := p1) (lo := 0) (hi := 6) rfl (by decide)
  rw [hmq] at hmb
  have har := e_Has.get hI.1 (c := 275) (k := 10) (lo := 0) (hi := 4) rfl (by decide)
  have hA1 := hA.1
  have hA2 := hA.2.1
  have hA3 := hA.2.2.1
  refine e_Ok.run (t' := (2, [(0, (1, 275)), (1, (0, p1)), (2, (0, p2)), (3, (0, p3))], [(0, p1), (1, 275)], w)) 2 rfl ?_
  refine e_Ok.callV rfl (e_dq hd rfl) rfl rfl rfl rfl (c_270 (e_dq hd rfl) hI.1) (fun r1 w2 h3 => ?_)
  have h4 := e_Has.get hI.1 (c := 275) (k := 10) (lo := 0) (hi := 4) rfl (by decide)
  obtain ⟨z5, rfl, rfl, q6⟩ := h3
  obtain ⟨rfl, q6⟩ | ⟨rfl, q6⟩ := q6
  · refine e_Ok.nrm (q := 5) (st' := [(0, 1)]) rfl rfl ?_
    refine e_Ok.if1 rfl (fun h7 => ?_) (fun h7 => ?_)
    · replace h7 : (1 : Int) = 0 := h7
      exfalso; omega
    · replace h7 : (1 : Int) ≠ 0 := (show ¬ ((1 : Int) = 0) from h7)
      refine e_Ok.ps3 (x := (4, 16)) (y := (4, 1)) (z := (4, p2)) (q := 14) 4 rfl ?_
      refine e_Ok.callS rfl (e_dq hd rfl) rfl rfl (c_266) (fun r8 w9 h10 => ?_)
      obtain ⟨z11, rfl, rfl, q12⟩ := h10
      obtain ⟨rfl, q12⟩ | ⟨rfl, q12⟩ := q12
      · refine e_Ok.nrm (q := 17) (st' := [(0, 1)]) rfl rfl ?_
        refine e_Ok.if1 rfl (fun h13 => ?_) (fun h13 => ?_)
        · replace h13 : (1 : Int) = 0 := h13
          exfalso; omega
        · replace h13 : (1 : Int) ≠ 0 := (show ¬ ((1 : Int) = 0) from h13)
          refine e_Ok.ps3 (x := (4, 2000)) (y := (4, 0)) (z := (4, p3)) (q := 26) 4 rfl ?_
          refine e_Ok.callS rfl (e_dq hd rfl) rfl rfl (c_266) (fun r14 w15 h16 => ?_)
          obtain ⟨z17, rfl, rfl, q18⟩ := h16
          obtain ⟨rfl, q18⟩ | ⟨rfl, q18⟩ := q18
          · refine e_Ok.nrm (q := 29) (st' := [(0, 1)]) rfl rfl ?_
            refine e_Ok.if1 rfl (fun h19 => ?_) (fun h19 => ?_)
            · replace h19 : (1 : Int) ≠ 0 := h19
              refine e_Ok.ps1 (x := (1, 275)) (q := 35) 1 rfl ?_
              have h20 := (e_Has.get hI.1 (c := 275) (k := 3) (lo := 0) (hi := 1) rfl (by decide))
              refine e_Ok.getf (z := w 275 3) rfl (el_o rfl) rfl (ef_o rfl) rfl (e_bq h20 (by decide) (by decide)) ?_
              refine e_Ok.if1 rfl (fun h21 => ?_) (fun h21 => ?_)
              · replace h21 : (w 275 3 : Int) = 0 := h21
                refine e_Ok.ps1 (x := (0, (-2))) (q := 57) 1 rfl ?_
                refine e_Ok.rets rfl rfl ?_
                exfalso; first | omega | (rw [hfe] at xz; have := hA.2.2.2.1; rw [hmq] at this; omega) | (have := (hA.2.2.2.2 y7 (by omega) (by rw [hmq]; omega)).1; omega)
              · replace h21 : (w 275 3 : Int) ≠ 0 := (show ¬ ((w 275 3 : Int) = 0) from h21)
                refine e_Ok.ps1 (x := (1, 275)) (q := 42) 1 rfl ?_
                refine e_Ok.getr (z := 276) rfl (el_o rfl) rfl (ef_o rfl) (e_Has.eq hI.1 rfl) ⟨by decide, by decide⟩ ?_
                refine e_Ok.ps1 (x := (0, p1)) (q := 46) 1 rfl ?_
                refine e_Ok.callS rfl (e_dq hd rfl) rfl rfl (c_268 (by omega)) (fun r22 w23 h24 => ?_)
                obtain ⟨rfl, rfl⟩ := h24
                refine e_Ok.nrm (q := 49) (st' := [(0, 36 * p1 + 16), (1, 276)]) rfl rfl ?_
                refine e_Ok.ps1 (x := (0, 0)) (q := 50) 1 rfl ?_
                refine e_Ok.add (z := 36 * p1 + 16) rfl (e_adl (by decide)) (by omega) ?_
                have h25 := (e_Has.get hI.1 (c := 276) (k := 36 * p1 + 16) (lo := 0) (hi := 2) (nR_STATE (a := p1) (by omega)) (by decide))
                refine e_Ok.ald (z := w 276 (36 * p1 + 16)) rfl (el_o rfl) rfl (by omega) rfl (e_bq h25 (by decide) (by decide)) ?_
                refine e_Ok.if1 rfl (fun h26 => ?_) (fun h26 => ?_)
                · replace h26 : (w 276 (36 * p1 + 16) : Int) = 0 := h26
                  have hV : ∀ j, 0 ≤ j → j < m → w 288 (6 * p1 + j) ≤ w 276 (36 * p1 + j + 32) ∧ w 276 (36 * p1 + j + 32) ≤ w 289 (6 * p1 + j) := fun j q1 q2 => (hI.2.2.2.2.2.1.1 p1 j (by omega) (by omega) q1 (by rw [hmq]; exact q2)).1
                  refine e_Ok.ps3 (x := (0, p2)) (y := (0, p1)) (z := (1, 275)) (q := 61) 3 rfl ?_
                  refine e_Ok.callV rfl (e_dq hd rfl) rfl rfl rfl rfl (c_409 (e_dq hd rfl) hI.1 (by omega) (by omega) (fun j q1 q2 => hV j q1 (by rw [← hmq]; exact q2))) (fun r27 w28 h29 => ?_)
                  obtain ⟨z30, rfl, q31, q31J, q31z⟩ := h29
                  rw [hmq] at q31J q31z
                  have f32 : e_fr mPm w w28 := e_fr.trans (e_fr.refl w) (e_fr.mono q31 (fun c k q => su_9s_27 q))
                  have q31T := mT_Nc q31 hI.1
                  obtain ⟨f, hf⟩ : ∃ f : Int → Int, ∀ k, w28 347 k = f k := ⟨_, fun _ => rfl⟩
                  rw [show (fun k => w28 347 k) = f from funext hf] at q31z
                  have hf8 : ∀ j, 0 ≤ j → j < m → -100000 ≤ w28 348 j ∧ w28 348 j ≤ 100000 := fun j q1 q2 => gr_bd (q31J j q1 q2) (by omega) (hV j q1 q2) ⟨(e_Has.get hI.1 (c := 288) (k := 6 * p1 + j) (lo := -100000) (hi := 0) rfl (by decide)).1, (e_Has.get hI.1 (c := 289) (k := 6 * p1 + j) (lo := 0) (hi := 100000) rfl (by decide)).2⟩
                  have hfN : ∀ k, 0 ≤ k → k < m → 1 ≤ f k ∧ f k ≤ 200001 := fun k q1 q2 => by rw [← hf k]; exact ⟨(q31J k q1 q2).2.2.1, (q31J k q1 q2).2.2.2⟩
                  have hfe : prd f m.toNat = prd (ndF w p1 p2) m.toNat := prd_congr (fun k q1 q2 => by rw [← hf k, (q31J k q1 (by omega)).2.1]; rfl)
                  obtain ⟨rfl, q31z⟩ | ⟨q31b, q31z⟩ := q31z
                  · show e_Ok 20 elay ecode eI (d + 1) 418 (64, [(0, (1, 275)), (1, (0, p1)), (2, (0, p2)), (3, (0, p3))], [(0, 1001)], w28) _
                    refine e_Ok.run (t' := (71, [(4, (0, 1001)), (0, (1, 275)), (1, (0, p1)), (2, (0, p2)), (3, (0, p3))], [(0, 1000), (0, 1001)], w28)) 3 rfl ?_
                    refine e_Ok.if2 rfl (fun h33 => ?_) (fun h33 => ?_)
                    · replace h33 : (1001 : Int) > 1000 := h33
                      refine e_Ok.ps1 (x := (0, (-3))) (q := 92) 1 rfl ?_
                      refine e_Ok.rets rfl rfl ?_
                      exfalso; first | omega | (rw [hfe] at q31z; have := hA.2.2.2.1; rw [hmq] at this; omega) | (have := (hA.2.2.2.2 y7 (by omega) (by rw [hmq]; omega)).1; omega)
                    · replace h33 : (1001 : Int) ≤ 1000 := Int.not_lt.mp (show ¬ ((1001 : Int) > 1000) from h33)
                      exfalso; omega
                  · show e_Ok 20 elay ecode eI (d + 1) 418 (64, [(0, (1, 275)), (1, (0, p1)), (2, (0, p2)), (3, (0, p3))], [(0, z30)], w28) _
                    refine e_Ok.run (t' := (71, [(4, (0, z30)), (0, (1, 275)), (1, (0, p1)), (2, (0, p2)), (3, (0, p3))], [(0, 1000), (0, z30)], w28)) 3 rfl ?_
                    refine e_Ok.if2 rfl (fun h34 => ?_) (fun h34 => ?_)
                    · replace h34 : (z30 : Int) > 1000 := h34
                      exfalso; omega
                    · replace h34 : (z30 : Int) ≤ 1000 := Int.not_lt.mp (show ¬ ((z30 : Int) > 1000) from h34)
                      refine e_Ok.ps1 (x := (1, 275)) (q := 75) 1 rfl ?_
                      refine e_Ok.getf (z := w 275 118) rfl (el_o rfl) rfl (ef_o rfl) ((q31 275 118 no_9s_0).trans rfl) (by omega) ?_
                      refine e_Ok.ps1 (x := (0, 60)) (q := 80) 1 rfl ?_
                      refine e_Ok.if2 rfl (fun h35 => ?_) (fun h35 => ?_)
                      · replace h35 : (w 275 118 : Int) ≠ 60 := h35
                        have hF : plF p1 m f := ⟨by omega, by omega, hfN, by rw [← q31z]; omega⟩
                        have hFp := hF.2.2.2
                        obtain ⟨dF, hdF⟩ : ∃ d : Int → Int, ∀ j, d j = (w 276 (36 * p1 + j + 32) - w28 348 j) / p2 := ⟨_, fun _ => rfl⟩
                        obtain ⟨dT, hdT⟩ : ∃ d : Int → Int, ∀ j, d j = (w 276 (j + 8) - w28 348 j) / p2 := ⟨_, fun _ => rfl⟩
                        refine e_Ok.run (t' := (95, [(4, (0, z30)), (0, (1, 275)), (1, (0, p1)), (2, (0, p2)), (3, (0, p3))], [(1, 275), (1, 275)], w28)) 2 rfl ?_
                        refine e_Ok.getf (z := w 275 118) rfl (el_o rfl) rfl (ef_o rfl) ((q31 275 118 no_9s_0).trans rfl) (by omega) ?_
                        refine e_Ok.ps1 (x := (1, 275)) (q := 99) 1 rfl ?_
                        refine e_Ok.getf (z := 1) rfl (el_o rfl) rfl (ef_o rfl) ((q31 275 6 no_9s_0).trans h6) (by omega) ?_
                        refine e_Ok.if1 rfl (fun h36 => ?_) (fun h36 => ?_)
                        · replace h36 : (1 : Int) = 0 := h36
                          exfalso; omega
                        · replace h36 : (1 : Int) ≠ 0 := (show ¬ ((1 : Int) = 0) from h36)
                          refine e_Ok.ps1 (x := (0, 0)) (q := 110) 2 rfl ?_
                          refine e_Ok.add (z := w 275 118) rfl (by omega) (by omega) ?_
                          refine e_Ok.putf rfl (el_o rfl) rfl (ef_o rfl) ?_
                          generalize hw37 : e_up w28 275 118 (w 275 118) = w37
                          have hT40 : e_Has mTy w37 := e_Has.ups q31T hw37 (mt_o rfl)
                          refine e_Ok.run (t' := (123, [(7, (0, 0)), (6, (0, 0)), (5, (0, 0)), (4, (0, z30)), (0, (1, 275)), (1, (0, p1)), (2, (0, p2)), (3, (0, p3))], [], w37)) 6 rfl ?_
                          have hL41 : ∀ (nn : Nat) (y5 : Int) (y6 : Int) (y7 : Int), (0 ≤ y7 ∧ y7 ≤ m) ∧ y5 = smd f dF y7.toNat ∧ y6 = smd f dT y7.toNat ∧ (∀ k, 0 ≤ k → k < y7 → 0 ≤ dF k ∧ dF k < f k) ∧ (∀ k, 0 ≤ k → k < y7 → 0 ≤ dT k ∧ dT k < f k) ∧ (∀ j, 0 ≤ j → j < y7 → (w 288 (6 * p1 + j) ≤ w 276 (j + 8) ∧ w 276 (j + 8) ≤ w 289 (6 * p1 + j)) ∧ ∃ q, w 276 (j + 8) - w28 348 j = q * p2) ∧ (0 ≤ y5 ∧ y5 ≤ 999) ∧ (0 ≤ y6 ∧ y6 ≤ 999) → 7 - y7 < nn → e_Ok 20 elay ecode eI (d + 1) 418 (123, [(0, (1, 275)), (1, (0, p1)), (2, (0, p2)), (3, (0, p3)), (4, (0, z30)), (5, (0, y5)), (6, (0, y6)), (7, (0, y7))], [], w37) (fun r w' => ∃ z : Int, r = [(0, z)] ∧ e_fr mPm w w' ∧ e_Has mTy w' ∧ w' 275 118 = w 275 118 ∧ ∀ k, w' 276 k = plN w p1 p2 zz g k) := by
                            intro nn
                            induction nn with
                            | zero => intro y5 y6 y7 hj hm; obtain ⟨j43, j44, j45, j46, j47, j48, j49, j50⟩ := hj; exfalso; omega
                            | succ nn ih42 =>
                              intro y5 y6 y7 hj hm
                              obtain ⟨j43, j44, j45, j46, j47, j48, j49, j50⟩ := hj
                              refine e_Ok.run (t' := (126, [(0, (1, 275)), (1, (0, p1)), (2, (0, p2)), (3, (0, p3)), (4, (0, z30)), (5, (0, y5)), (6, (0, y6)), (7, (0, y7))], [(1, 275), (0, y7)], w37)) 2 rfl ?_
                              refine e_Ok.getr (z := 286) rfl (el_o rfl) rfl (ef_o rfl) (e_uq hw37 (Or.inr (by decide)) ((q31 275 15 no_9s_0).trans (e_Has.eq hI.1 rfl))) ⟨by decide, by decide⟩ ?_
                              refine e_Ok.ps1 (x := (0, p1)) (q := 130) 1 rfl ?_
                              refine e_Ok.ald (z := m) rfl (el_o rfl) rfl (by omega) (e_uq hw37 (Or.inl (by decide)) ((q31 286 p1 no_9s_1).trans hmq)) (by omega) ?_
                              refine e_Ok.if2 rfl (fun h51 => ?_) (fun h51 => ?_)
                              · replace h51 : (y7 : Int) ≥ m := h51
                                refine e_Ok.ps2 (x := (0, p1)) (y := (1, 275)) (q := 268) 2 rfl ?_
                                refine e_Ok.putf rfl (el_o rfl) rfl (ef_o rfl) ?_
                                generalize hw52 : e_up w37 275 110 p1 = w52
                                have hT54 : e_Has mTy w52 := e_Has.ups hT40 hw52 (mt_o rfl)
                                refine e_Ok.ps2 (x := (0, p2)) (y := (1, 275)) (q := 273) 2 rfl ?_
                                refine e_Ok.putf rfl (el_o rfl) rfl (ef_o rfl) ?_
                                generalize hw55 : e_up w52 275 111 p2 = w55
                                have hT57 : e_Has mTy w55 := e_Has.ups hT54 hw55 (mt_o rfl)
                                refine e_Ok.ps2 (x := (0, p3)) (y := (1, 275)) (q := 278) 2 rfl ?_
                                refine e_Ok.putf rfl (el_o rfl) rfl (ef_o rfl) ?_
                                generalize hw58 : e_up w55 275 112 p3 = w58
                                have hT60 : e_Has mTy w58 := e_Has.ups hT57 hw58 (mt_o rfl)
                                refine e_Ok.ps1 (x := (1, 275)) (q := 282) 1 rfl ?_
                                refine e_Ok.callV rfl (e_dq hd rfl) rfl rfl rfl rfl (c_302 (e_dq hd rfl) hT60) (fun r61 w62 h63 => ?_)
                                obtain ⟨rfl, q64, q64k⟩ := h63
                                have f65 : e_fr mPm w w62 := e_fr.trans (show e_fr mPm w w58 from e_fr.up (show e_fr mPm w w55 from e_fr.up (show e_fr mPm w w52 from e_fr.up (show e_fr mPm w w37 from e_fr.up f32 hw37 (by first | exact Or.inr (Or.inl ⟨rfl, Or.inr (Or.inr rfl)⟩) | (unfold mPm; omega))) hw52 (by first | exact Or.inr (Or.inl ⟨rfl, Or.inr (Or.inl ⟨(by decide), (by decide)⟩)⟩) | (unfold mPm; omega))) hw55 (by first | exact Or.inr (Or.inl ⟨rfl, Or.inr (Or.inl ⟨(by decide), (by decide)⟩)⟩) | (unfold mPm; omega))) hw58 (by first | exact Or.inr (Or.inl ⟨rfl, Or.inr (Or.inl ⟨(by decide), (by decide)⟩)⟩) | (unfold mPm; omega))) (e_fr.mono q64 (fun c k q => su_9s_28 q))
                                have q64T := mT_P q64 hT60
                                replace q64k : ∀ b, 0 ≤ b → b < w62 275 10 → e_pk2 w62 (7 * b) (w62 286 b) := fun b q1 q2 => by rw [q64 286 b no_9s_8]; exact q64k b q1 (by rw [← q64 275 10 no_9s_9]; exact q2)
                                refine e_Ok.nrm (q := 285) (st' := []) rfl rfl ?_
                                have hc111 : w62 275 111 = p2 := ((q64 275 111 no_9s_9).trans (e_uq hw58 (Or.inr (by decide)) (e_ue hw55)))
                                have hc112 : w62 275 112 = p3 := ((q64 275 112 no_9s_9).trans (e_ue hw58))
                                have hC : plC w62 p1 m f := ⟨((q64 275 110 no_9s_9).trans (e_uq hw58 (Or.inr (by omega)) (e_uq hw55 (Or.inr (by omega)) (e_ue hw52)))), ((q64 286 p1 no_9s_8).trans (e_uq hw58 (Or.inl (by omega)) (e_uq hw55 (Or.inl (by omega)) (e_uq hw52 (Or.inl (by omega)) (e_uq hw37 (Or.inl (by omega)) ((q31 286 p1 no_9s_1).trans hmq)))))), fun k => Eq.trans ((fun e => Eq.trans (q64 347 e no_9s_10) ((fun e => Eq.trans (show w58 347 e = w55 347 e from by rw [← hw58]; exact e_up_ne _ _ (Or.inl (by decide))) ((fun e => Eq.trans (show w55 347 e = w52 347 e from by rw [← hw55]; exact e_up_ne _ _ (Or.inl (by decide))) ((fun e => Eq.trans (show w52 347 e = w37 347 e from by rw [← hw52]; exact e_up_ne _ _ (Or.inl (by decide))) ((fun e => Eq.trans (show w37 347 e = w28 347 e from by rw [← hw37]; exact e_up_ne _ _ (Or.inl (by decide))) ((fun e => rfl) e)) e)) e)) e)) e)) k) (hf k), by omega, by omega, fun k q1 q2 => (by have h1 := hf8 k q1 q2; have h2 := (fun e => Eq.trans (q64 348 e no_9s_11) ((fun e => Eq.trans (show w58 348 e = w55 348 e from by rw [← hw58]; exact e_up_ne _ _ (Or.inl (by decide))) ((fun e => Eq.trans (show w55 348 e = w52 348 e from by rw [← hw55]; exact e_up_ne _ _ (Or.inl (by decide))) ((fun e => Eq.trans (show w52 348 e = w37 348 e from by rw [← hw52]; exact e_up_ne _ _ (Or.inl (by decide))) ((fun e => Eq.trans (show w37 348 e = w28 348 e from by rw [← hw37]; exact e_up_ne _ _ (Or.inl (by decide))) ((fun e => rfl) e)) e)) e)) e)) e)) k; omega), fun b q1 q2 => ⟨(by rw [f65 286 b no_9s_12]; exact (e_Has.get hI.1 (c := 286) (k := b) (lo := 0) (hi := 6) rfl (by decide)).2), q64k b q1 q2⟩⟩
                                refine e_Ok.run (t' := (286, [(0, (1, 275)), (1, (0, p1)), (2, (0, p2)), (3, (0, p3)), (4, (0, z30)), (5, (0, y5)), (6, (0, y6)), (7, (0, y7))], [(1, 275)], w62)) 1 rfl ?_
                                refine e_Ok.getf (z := 1) rfl (el_o rfl) rfl (ef_o rfl) ((q64 275 6 no_9s_9).trans (e_uq hw58 (Or.inr (by decide)) (e_uq hw55 (Or.inr (by decide)) (e_uq hw52 (Or.inr (by decide)) (e_uq hw37 (Or.inr (by decide)) ((q31 275 6 no_9s_0).trans h6)))))) (by omega) ?_
                                refine e_Ok.if1 rfl (fun h66 => ?_) (fun h66 => ?_)
                                · replace h66 : (1 : Int) = 0 := h66
                                  exfalso; omega
                                · replace h66 : (1 : Int) ≠ 0 := (show ¬ ((1 : Int) = 0) from h66)
                                  refine e_Ok.ps1 (x := (1, 275)) (q := 293) 1 rfl ?_
                                  refine e_Ok.getr (z := 355) rfl (el_o rfl) rfl (ef_o rfl) ((q64 275 115 no_9s_9).trans (e_uq hw58 (Or.inr (by decide)) (e_uq hw55 (Or.inr (by decide)) (e_uq hw52 (Or.inr (by decide)) (e_uq hw37 (Or.inr (by decide)) ((q31 275 115 no_9s_0).trans (e_Has.eq hI.1 rfl))))))) ⟨by decide, by decide⟩ ?_
                                  refine e_Ok.ps1 (x := (1, 275)) (q := 297) 1 rfl ?_
                                  refine e_Ok.getf (z := R) rfl (el_o rfl) rfl (ef_o rfl) ((q64 275 117 no_9s_9).trans (e_uq hw58 (Or.inr (by decide)) (e_uq hw55 (Or.inr (by decide)) (e_uq hw52 (Or.inr (by decide)) (e_uq hw37 (Or.inr (by decide)) ((q31 275 117 no_9s_0).trans hr7)))))) (by omega) ?_
                                  refine e_Ok.ald (z := E) rfl (el_o rfl) rfl (by omega) ((q64 355 R no_9s_22).trans (e_uq hw58 (Or.inl (by decide)) (e_uq hw55 (Or.inl (by decide)) (e_uq hw52 (Or.inl (by decide)) (e_uq hw37 (Or.inl (by decide)) ((q31 355 R no_9s_23).trans hE5)))))) (by omega) ?_
                                  refine e_Ok.if1 rfl (fun h67 => ?_) (fun h67 => ?_)
                                  · replace h67 : (E : Int) < 0 := h67
                                    exfalso; omega
                                  · replace h67 : (E : Int) ≥ 0 := Int.not_lt.mp (show ¬ ((E : Int) < 0) from h67)
                                    refine e_Ok.ps2 (x := (1, 275)) (y := (1, 275)) (q := 306) 2 rfl ?_
                                    refine e_Ok.getf (z := R) rfl (el_o rfl) rfl (ef_o rfl) ((q64 275 117 no_9s_9).trans (e_uq hw58 (Or.inr (by decide)) (e_uq hw55 (Or.inr (by decide)) (e_uq hw52 (Or.inr (by decide)) (e_uq hw37 (Or.inr (by decide)) ((q31 275 117 no_9s_0).trans hr7)))))) (by omega) ?_
                                    refine e_Ok.callV rfl (e_dq hd rfl) rfl rfl rfl rfl (c_421 q64T (z := zz) (E := E) (R := R) hR hzz hEE (Eq.trans (f65 355 R no_9s_24) hE5) (Eq.trans (f65 356 R no_9s_18) hE6) (fun i q1 q2 => by rw [f65 354 i no_9s_25]; have := hE4 (i - E) (by omega) (by omega); rw [show E + (i - E) = i by omega] at this; omega)) (fun r68 w69 h70 => ?_)
                                    obtain ⟨rfl, q71, q71w⟩ := h70
                                    have f72 : e_fr mPm w w69 := e_fr.trans f65 (e_fr.mono q71 (fun c k q => su_9s_30 q))
                                    have q71T := mT_Fo q71 q64T
                                    have hfo : ∀ i, 0 ≤ i → i < zz → w69 353 i = g i := fun i q1 q2 => Eq.trans (q71w i q1 q2) (Eq.trans (f65 354 _ no_9s_25) (hE4 i q1 q2).1)
                                    refine e_Ok.nrm (q := 312) (st' := [(0, zz)]) rfl rfl ?_
                                    refine e_Ok.run (t' := (329, [(7, (0, zz)), (0, (1, 275)), (1, (0, p1)), (2, (0, p2)), (3, (0, p3)), (4, (0, z30)), (5, (0, y5)), (6, (0, y6))], [(0, zz)], w69)) 3 rfl ?_
                                    refine e_Ok.if1 rfl (fun h73 => ?_) (fun h73 => ?_)
                                    · replace h73 : (zz : Int) ≥ 0 := h73
                                      refine e_Ok.ps1 (x := (1, 275)) (q := 336) 1 rfl ?_
                                      refine e_Ok.callV rfl (e_dq hd rfl) rfl rfl rfl rfl (c_422_x q71T (bkE.fr hB (f72 275 5 no_9s_16) (f72 275 6 no_9s_17) (fun k => f72 356 k no_9s_18)).1) (fun r74 w75 h76 => ?_)
                                      obtain ⟨z77, rfl, rfl, q78⟩ := h76
                                      have hmb2 : mBk w69 ↔ mBk w := by unfold mBk; rw [f72 275 5 no_9s_16, f72 275 6 no_9s_17]
                                      obtain ⟨rfl, q78⟩ | ⟨rfl, q78⟩ := q78
                                      · exact absurd (hmb2.1 q78).2 (by omega)
                                      refine e_Ok.nrm (q := 339) (st' := [(0, 0)]) rfl rfl ?_
                                      refine e_Ok.if1 rfl (fun h79 => ?_) (fun h79 => ?_)
                                      · replace h79 : (0 : Int) = 0 := h79
                                        refine e_Ok.ps1 (x := (0, p1)) (q := 346) 1 rfl ?_
                                        refine e_Ok.callS rfl (e_dq hd rfl) rfl rfl (c_268 (by omega)) (fun r80 w81 h82 => ?_)
                                        obtain ⟨rfl, rfl⟩ := h82
                                        refine e_Ok.nrm (q := 349) (st' := [(0, 36 * p1 + 16)]) rfl rfl ?_
                                        refine e_Ok.run (t' := (352, [(8, (0, 36 * p1 + 16)), (7, (0, zz)), (0, (1, 275)), (1, (0, p1)), (2, (0, p2)), (3, (0, p3)), (4, (0, z30)), (5, (0, y5)), (6, (0, y6))], [(1, 275)], w69)) 2 rfl ?_
                                        refine e_Ok.getr (z := 276) rfl (el_o rfl) rfl (ef_o rfl) ((q71 275 0 no_9s_5).trans ((q64 275 0 no_9s_9).trans (e_uq hw58 (Or.inr (by decide)) (e_uq hw55 (Or.inr (by decide)) (e_uq hw52 (Or.inr (by decide)) (e_uq hw37 (Or.inr (by decide)) ((q31 275 0 no_9s_0).trans (e_Has.eq hI.1 rfl)))))))) ⟨by decide, by decide⟩ ?_
                                        refine e_Ok.ps2 (x := (0, 3)) (y := (0, 36 * p1 + 16)) (q := 358) 2 rfl ?_
                                        refine e_Ok.add (z := 36 * p1 + 19) rfl (e_adl (by decide)) (by omega) ?_
                                        refine e_Ok.ps1 (x := (0, zz)) (q := 361) 1 rfl ?_
                                        refine e_Ok.ast rfl (el_o rfl) rfl rfl (by omega) ?_
                                        generalize hw83 : e_up w69 276 (36 * p1 + 19) zz = w83
                                        have hT85 : e_Has mTy w83 := e_Has.upr q71T hw83 (nR_WAY_SIZE (a := p1) (by omega)) (by omega)
                                        refine e_Ok.ps1 (x := (1, 275)) (q := 363) 1 rfl ?_
                                        refine e_Ok.getr (z := 276) rfl (el_o rfl) rfl (ef_o rfl) (e_uq hw83 (Or.inl (by decide)) ((q71 275 0 no_9s_5).trans ((q64 275 0 no_9s_9).trans (e_uq hw58 (Or.inr (by decide)) (e_uq hw55 (Or.inr (by decide)) (e_uq hw52 (Or.inr (by decide)) (e_uq hw37 (Or.inr (by decide)) ((q31 275 0 no_9s_0).trans (e_Has.eq hI.1 rfl))))))))) ⟨by decide, by decide⟩ ?_
                                        refine e_Ok.ps2 (x := (0, 10)) (y := (0, 36 * p1 + 16)) (q := 370) 2 rfl ?_
                                        refine e_Ok.add (z := 36 * p1 + 26) rfl (e_adl (by decide)) (by omega) ?_
                                        refine e_Ok.ps1 (x := (0, p2)) (q := 372) 1 rfl ?_
                                        refine e_Ok.ast rfl (el_o rfl) rfl rfl (by omega) ?_
                                        generalize hw86 : e_up w83 276 (36 * p1 + 26) p2 = w86
                                        have hT88 : e_Has mTy w86 := e_Has.upr hT85 hw86 (nR_WIDE (a := p1) (by omega)) (by omega)
                                        refine e_Ok.ps1 (x := (1, 275)) (q := 374) 1 rfl ?_
                                        refine e_Ok.getr (z := 276) rfl (el_o rfl) rfl (ef_o rfl) (e_uq hw86 (Or.inl (by decide)) (e_uq hw83 (Or.inl (by decide)) ((q71 275 0 no_9s_5).trans ((q64 275 0 no_9s_9).trans (e_uq hw58 (Or.inr (by decide)) (e_uq hw55 (Or.inr (by decide)) (e_uq hw52 (Or.inr (by decide)) (e_uq hw37 (Or.inr (by decide)) ((q31 275 0 no_9s_0).trans (e_Has.eq hI.1 rfl)))))))))) ⟨by decide, by decide⟩ ?_
                                        refine e_Ok.ps2 (x := (0, 4)) (y := (0, 36 * p1 + 16)) (q := 380) 2 rfl ?_
                                        refine e_Ok.add (z := 36 * p1 + 20) rfl (e_adl (by decide)) (by omega) ?_
                                        refine e_Ok.ps1 (x := (0, 1)) (q := 382) 1 rfl ?_
                                        refine e_Ok.ast rfl (el_o rfl) rfl rfl (by omega) ?_
                                        generalize hw89 : e_up w86 276 (36 * p1 + 20) 1 = w89
                                        have hT91 : e_Has mTy w89 := e_Has.upr hT88 hw89 (nR_FRESH (a := p1) (by omega)) (by omega)
                                        refine e_Ok.ps1 (x := (1, 275)) (q := 384) 1 rfl ?_
                                        refine e_Ok.getr (z := 276) rfl (el_o rfl) rfl (ef_o rfl) (e_uq hw89 (Or.inl (by decide)) (e_uq hw86 (Or.inl (by decide)) (e_uq hw83 (Or.inl (by decide)) ((q71 275 0 no_9s_5).trans ((q64 275 0 no_9s_9).trans (e_uq hw58 (Or.inr (by decide)) (e_uq hw55 (Or.inr (by decide)) (e_uq hw52 (Or.inr (by decide)) (e_uq hw37 (Or.inr (by decide)) ((q31 275 0 no_9s_0).trans (e_Has.eq hI.1 rfl))))))))))) ⟨by decide, by decide⟩ ?_
                                        refine e_Ok.ps2 (x := (0, 5)) (y := (0, 36 * p1 + 16)) (q := 390) 2 rfl ?_
                                        refine e_Ok.add (z := 36 * p1 + 21) rfl (e_adl (by decide)) (by omega) ?_
                                        refine e_Ok.ps1 (x := (0, 1)) (q := 392) 1 rfl ?_
                                        refine e_Ok.ast rfl (el_o rfl) rfl rfl (by omega) ?_
                                        generalize hw92 : e_up w89 276 (36 * p1 + 21) 1 = w92
                                        have hT94 : e_Has mTy w92 := e_Has.upr hT91 hw92 (nR_BUT_OWN (a := p1) (by omega)) (by omega)
                                        refine e_Ok.run (t' := (396, [(9, (0, 0)), (8, (0, 36 * p1 + 16)), (7, (0, zz)), (0, (1, 275)), (1, (0, p1)), (2, (0, p2)), (3, (0, p3)), (4, (0, z30)), (5, (0, y5)), (6, (0, y6))], [], w92)) 2 rfl ?_
                                        have hL95 : ∀ (nn : Nat) (y9 : Int) (v1 : eW), e_fr mPm w v1 ∧ e_Has mTy v1 ∧ (0 ≤ y9 ∧ y9 ≤ 1000) ∧ (∀ c k, c ≠ 276 → v1 c k = w92 c k) ∧ (∀ k, ¬ (1000 * p1 + 21060 ≤ k ∧ k < 1000 * p1 + y9 + 21060) → v1 276 k = w92 276 k) ∧ (∀ i, 0 ≤ i → i < y9 → v1 276 (1000 * p1 + i + 21060) = if i < zz then w69 353 i else 0) → 1001 - y9 < nn → e_Ok 20 elay ecode eI (d + 1) 418 (396, [(0, (1, 275)), (1, (0, p1)), (2, (0, p2)), (3, (0, p3)), (7, (0, zz)), (9, (0, y9))], [], v1) (fun r w' => ∃ z : Int, r = [(0, z)] ∧ e_fr mPm w w' ∧ e_Has mTy w' ∧ w' 275 118 = w 275 118 ∧ ∀ k, w' 276 k = plN w p1 p2 zz g k) := by
                                          intro nn
                                          induction nn with
                                          | zero => intro y9 v1 hj hm; obtain ⟨j103, j104, j105, j106, j107, j108⟩ := hj; exfalso; omega
                                          | succ nn ih101 =>
                                            intro y9 v1 hj hm
                                            obtain ⟨j103, j104, j105, j106, j107, j108⟩ := hj
                                            refine e_Ok.run (t' := (401, [(0, (1, 275)), (1, (0, p1)), (2, (0, p2)), (3, (0, p3)), (7, (0, zz)), (9, (0, y9))], [(0, 1000), (0, y9)], v1)) 2 rfl ?_
                                            refine e_Ok.if2 rfl (fun h109 => ?_) (fun h109 => ?_)
                                            · replace h109 : (y9 : Int) ≥ 1000 := h109
                                              have hw19 : v1 276 (36 * p1 + 19) = zz := Eq.trans (j107 _ (by omega)) (e_uq hw92 (Or.inr (e_neo (by decide))) (e_uq hw89 (Or.inr (e_neo (by decide))) (e_uq hw86 (Or.inr (e_neo (by decide))) (e_ue hw83))))
                                              have hw20 : v1 276 (36 * p1 + 20) = 1 := Eq.trans (j107 _ (by omega)) (e_uq hw92 (Or.inr (e_neo (by decide))) (e_ue hw89))
                                              have hw21 : v1 276 (36 * p1 + 21) = 1 := Eq.trans (j107 _ (by omega)) (e_ue hw92)
                                              have hw26 : v1 276 (36 * p1 + 26) = p2 := Eq.trans (j107 _ (by omega)) (e_uq hw92 (Or.inr (e_neo (by decide))) (e_uq hw89 (Or.inr (e_neo (by decide))) (e_ue hw86)))
                                              have hwn : ∀ k, v1 276 k = plN w p1 p2 zz (fun i => w69 353 i) k := fun k => by
                                                unfold plN
                                                by_cases c1 : k = 36 * p1 + 19
                                                · rw [if_pos c1, c1]; exact hw19
                                                by_cases c2 : k = 36 * p1 + 26
                                                · rw [if_neg c1, if_pos c2, c2]; exact hw26
                                                by_cases c3 : k = 36 * p1 + 20
                                                · rw [if_neg c1, if_neg c2, if_pos c3, c3]; exact hw20
                                                by_cases c4 : k = 36 * p1 + 21
                                                · rw [if_neg c1, if_neg c2, if_neg c3, if_pos c4, c4]; exact hw21
                                                rw [if_neg c1, if_neg c2, if_neg c3, if_neg c4]
                                                by_cases c5 : 1000 * p1 + 21060 ≤ k ∧ k < 1000 * p1 + 22060
                                                · rw [if_pos c5]
                                                  have := j108 (k - (1000 * p1 + 21060)) (by omega) (by omega)
                                                  rw [show 1000 * p1 + (k - (1000 * p1 + 21060)) + 21060 = k by omega] at this
                                                  exact this
                                                · rw [if_neg c5]
                                                  refine Eq.trans (j107 k (by omega)) ?_
                                                  rw [← hw92]; refine Eq.trans (e_up_ne _ _ (Or.inr (by omega))) ?_
                                                  rw [← hw89]; refine Eq.trans (e_up_ne _ _ (Or.inr (by omega))) ?_
                                                  rw [← hw86]; refine Eq.trans (e_up_ne _ _ (Or.inr (by omega))) ?_
                                                  rw [← hw83]; refine Eq.trans (e_up_ne _ _ (Or.inr (by omega))) ?_
                                                  exact (fun e => Eq.trans (q71 276 e no_9s_26) ((fun e => Eq.trans (q64 276 e no_9s_15) ((fun e => Eq.trans (show w58 276 e = w55 276 e from by rw [← hw58]; exact e_up_ne _ _ (Or.inl (by decide))) ((fun e => Eq.trans (show w55 276 e = w52 276 e from by rw [← hw55]; exact e_up_ne _ _ (Or.inl (by decide))) ((fun e => Eq.trans (show w52 276 e = w37 276 e from by rw [← hw52]; exact e_up_ne _ _ (Or.inl (by decide))) ((fun e => Eq.trans (show w37 276 e = w28 276 e from by rw [← hw37]; exact e_up_ne _ _ (Or.inl (by decide))) ((fun e => Eq.trans (q31 276 e no_9s_2) ((fun e => rfl) e)) e)) e)) e)) e)) e)) e)) k
                                              have hvT : e_Has mTy v1 := j104
                                              refine e_Ok.run (t' := (451, [(0, (1, 275)), (1, (0, p1)), (2, (0, p2)), (3, (0, p3)), (7, (0, zz)), (9, (0, y9))], [(0, p3), (0, p2), (0, p1), (0, 10), (1, 275)], v1)) 5 rfl ?_
                                              refine e_Ok.callV rfl (e_dq hd rfl) rfl rfl rfl rfl (c_423_a (e_dq hd rfl) hvT (Eq.trans (j103 275 6 no_9s_17) h6)) (fun r110 w111 h112 => ?_)
                                              obtain ⟨rfl, rfl⟩ := h112
                                              refine e_Ok.nrm (q := 454) (st' := []) rfl rfl ?_
                                              refine e_Ok.ps1 (x := (0, zz)) (q := 456) 1 rfl ?_
                                              refine e_Ok.rets rfl rfl ?_
                                              have hp8 : v1 275 118 = w 275 118 := Eq.trans (j106 275 118 (by decide)) (e_uq hw92 (Or.inl (by decide)) (e_uq hw89 (Or.inl (by decide)) (e_uq hw86 (Or.inl (by decide)) (e_uq hw83 (Or.inl (by decide)) ((q71 275 118 no_9s_5).trans ((q64 275 118 no_9s_9).trans (e_uq hw58 (Or.inr (by decide)) (e_uq hw55 (Or.inr (by decide)) (e_uq hw52 (Or.inr (by decide)) (e_ue hw37))))))))))
                                              exact ⟨_, rfl, j103, hvT, hp8, fun k => by rw [hwn k]; exact plN_eq (fun i g1 g2 => hfo i g1 g2) k⟩
                                            · replace h109 : (y9 : Int) < 1000 := Int.not_le.mp (show ¬ ((y9 : Int) ≥ 1000) from h109)
                                              refine e_Ok.ps1 (x := (1, 275)) (q := 405) 1 rfl ?_
                                              refine e_Ok.getr (z := 276) rfl (el_o rfl) rfl (ef_o rfl) ((j103 275 0 no_9s_20).trans (e_Has.eq hI.1 rfl)) ⟨by decide, by decide⟩ ?_
                                              refine e_Ok.ps3 (x := (0, p1)) (y := (0, 1000)) (z := (0, 21060)) (q := 415) 3 rfl ?_
                                              refine e_Ok.mul (z := 1000 * p1) rfl rfl (by omega) ?_
                                              refine e_Ok.add (z := 1000 * p1 + 21060) rfl (Int.add_comm _ _) (by omega) ?_
                                              refine e_Ok.ps1 (x := (0, y9)) (q := 419) 1 rfl ?_
                                              refine e_Ok.add (z := 1000 * p1 + y9 + 21060) rfl (by omega) (by omega) ?_
                                              refine e_Ok.ps2 (x := (0, zz)) (y := (0, y9)) (q := 424) 2 rfl ?_
                                              refine e_Ok.if2 rfl (fun h114 => ?_) (fun h114 => ?_)
                                              · replace h114 : (y9 : Int) ≥ zz := h114
                                                refine e_Ok.ps1 (x := (0, 0)) (q := 438) 1 rfl ?_
                                                refine e_Ok.ast rfl (el_o rfl) rfl rfl (by omega) ?_
                                                generalize hw115 : e_up v1 276 (1000 * p1 + y9 + 21060) 0 = w115
                                                have hT117 : e_Has mTy w115 := e_Has.upr j104 hw115 (nR_WAY (by omega)) (by omega)
                                                refine e_Ok.inc (z := y9 + 1) rfl rfl (by first | with_reducible rfl | omega) (by omega) ?_
                                                show e_Ok 20 elay ecode eI (d + 1) 418 (442, [(9, (0, y9 + 1)), (0, (1, 275)), (1, (0, p1)), (2, (0, p2)), (3, (0, p3)), (7, (0, zz))], [], w115) _
                                                refine e_Ok.ps0 (q := 396) 1 rfl ?_
                                                refine e_Ok.sub eAlk (e_sub_of rfl ?_) (ih101 (y9 + 1) w115 ⟨(show e_fr mPm w w115 from e_fr.up j103 hw115 (by first | exact Or.inl rfl | (unfold mPm; omega))), hT117, by omega, (fun c k q => Eq.trans (show w115 c k = v1 c k from by rw [← hw115]; exact e_up_ne _ _ (Or.inl q)) (j106 c k q)), (fun k q => Eq.trans (show w115 276 k = v1 276 k from by rw [← hw115]; exact e_up_ne _ _ (Or.inr (by omega))) (j107 k (by omega))), (fun i g1 g2 => Decidable.byCases (p := i = y9) (fun e => by rw [e, ← hw115, if_neg (by omega)]; exact e_up_eq _ _ _ _) (fun e => Eq.trans (show w115 276 (1000 * p1 + i + 21060) = v1 276 (1000 * p1 + i + 21060) from by rw [← hw115]; exact e_up_ne _ _ (Or.inr (by omega))) (j108 i g1 (by omega))))⟩ (by omega))
                                                exact ⟨rfl, rfl, rfl, rfl, rfl, rfl, trivial⟩
                                              · replace h114 : (y9 : Int) < zz := Int.not_le.mp (show ¬ ((y9 : Int) ≥ zz) from h114)
                                                have hfo2 : ∀ k, v1 353 k = w69 353 k := fun k => Eq.trans (j106 353 k (by decide)) ((fun e => Eq.trans (show w92 353 e = w89 353 e from by rw [← hw92]; exact e_up_ne _ _ (Or.inl (by decide))) ((fun e => Eq.trans (show w89 353 e = w86 353 e from by rw [← hw89]; exact e_up_ne _ _ (Or.inl (by decide))) ((fun e => Eq.trans (show w86 353 e = w83 353 e from by rw [← hw86]; exact e_up_ne _ _ (Or.inl (by decide))) ((fun e => Eq.trans (show w83 353 e = w69 353 e from by rw [← hw83]; exact e_up_ne _ _ (Or.inl (by decide))) ((fun e => rfl) e)) e)) e)) e)) k)
                                                have hfy : 0 ≤ w69 353 y9 ∧ w69 353 y9 ≤ 11 := by rw [hfo y9 (by omega) (by omega)]; exact (hE4 y9 (by omega) (by omega)).2
                                                refine e_Ok.ps1 (x := (1, 275)) (q := 428) 1 rfl ?_
                                                refine e_Ok.getr (z := 353) rfl (el_o rfl) rfl (ef_o rfl) ((j103 275 113 no_9s_21).trans (e_Has.eq hI.1 rfl)) ⟨by decide, by decide⟩ ?_
                                                refine e_Ok.ps1 (x := (0, y9)) (q := 433) 1 rfl ?_
                                                refine e_Ok.ald (z := w69 353 y9) rfl (el_o rfl) rfl (by omega) (hfo2 y9) (by omega) ?_
                                                refine e_Ok.ps0 (q := 438) 1 rfl ?_
                                                refine e_Ok.ast rfl (el_o rfl) rfl rfl (by omega) ?_
                                                generalize hw118 : e_up v1 276 (1000 * p1 + y9 + 21060) (w69 353 y9) = w118
                                                have hT120 : e_Has mTy w118 := e_Has.upr j104 hw118 (nR_WAY (by omega)) (by omega)
                                                refine e_Ok.inc (z := y9 + 1) rfl rfl (by first | with_reducible rfl | omega) (by omega) ?_
                                                show e_Ok 20 elay ecode eI (d + 1) 418 (442, [(9, (0, y9 + 1)), (0, (1, 275)), (1, (0, p1)), (2, (0, p2)), (3, (0, p3)), (7, (0, zz))], [], w118) _
                                                refine e_Ok.ps0 (q := 396) 1 rfl ?_
                                                refine e_Ok.sub eAlk (e_sub_of rfl ?_) (ih101 (y9 + 1) w118 ⟨(show e_fr mPm w w118 from e_fr.up j103 hw118 (by first | exact Or.inl rfl | (unfold mPm; omega))), hT120, by omega, (fun c k q => Eq.trans (show w118 c k = v1 c k from by rw [← hw118]; exact e_up_ne _ _ (Or.inl q)) (j106 c k q)), (fun k q => Eq.trans (show w118 276 k = v1 276 k from by rw [← hw118]; exact e_up_ne _ _ (Or.inr (by omega))) (j107 k (by omega))), (fun i g1 g2 => Decidable.byCases (p := i = y9) (fun e => by rw [e, ← hw118, if_pos (by omega)]; exact e_up_eq _ _ _ _) (fun e => Eq.trans (show w118 276 (1000 * p1 + i + 21060) = v1 276 (1000 * p1 + i + 21060) from by rw [← hw118]; exact e_up_ne _ _ (Or.inr (by omega))) (j108 i g1 (by omega))))⟩ (by omega))
                                                exact ⟨rfl, rfl, rfl, rfl, rfl, rfl, trivial⟩
                                        refine e_Ok.sub eAlk (e_sub_of rfl ?_) (hL95 (1001 + 1 : Int).toNat 0 w92 ⟨(show e_fr mPm w w92 from e_fr.up (show e_fr mPm w w89 from e_fr.up (show e_fr mPm w w86 from e_fr.up (show e_fr mPm w w83 from e_fr.up f72 hw83 (by first | exact Or.inl rfl | (unfold mPm; omega))) hw86 (by first | exact Or.inl rfl | (unfold mPm; omega))) hw89 (by first | exact Or.inl rfl | (unfold mPm; omega))) hw92 (by first | exact Or.inl rfl | (unfold mPm; omega))), hT94, by omega, (fun c k _ => rfl), (fun k _ => rfl), (fun i g1 g2 => by omega)⟩ (by omega))
                                        exact ⟨rfl, rfl, rfl, rfl, rfl, rfl, trivial⟩
                                      · replace h79 : (0 : Int) ≠ 0 := (show ¬ ((0 : Int) = 0) from h79)
                                        exfalso; omega
                                    · replace h73 : (zz : Int) < 0 := Int.not_le.mp (show ¬ ((zz : Int) ≥ 0) from h73)
                                      exfalso; omega
                              · replace h51 : (y7 : Int) < m := Int.not_le.mp (show ¬ ((y7 : Int) ≥ m) from h51)
                                refine e_Ok.ps1 (x := (1, 275)) (q := 135) 1 rfl ?_
                                refine e_Ok.getr (z := 276) rfl (el_o rfl) rfl (ef_o rfl) (e_uq hw37 (Or.inr (by decide)) ((q31 275 0 no_9s_0).trans (e_Has.eq hI.1 rfl))) ⟨by decide, by decide⟩ ?_
                                refine e_Ok.ps2 (x := (0, y7)) (y := (0, 8)) (q := 142) 2 rfl ?_
                                refine e_Ok.add (z := y7 + 8) rfl (Int.add_comm _ _) (by omega) ?_
                                have h121 := (e_Has.now hI.1 (y7 + 8))
                                refine e_Ok.ald (z := w 276 (y7 + 8)) rfl (el_o rfl) rfl (by omega) (e_uq hw37 (Or.inl (by decide)) ((q31 276 (y7 + 8) no_9s_2).trans rfl)) (by omega) ?_
                                refine e_Ok.run (t' := (150, [(8, (0, w 276 (y7 + 8))), (0, (1, 275)), (1, (0, p1)), (2, (0, p2)), (3, (0, p3)), (4, (0, z30)), (5, (0, y5)), (6, (0, y6)), (7, (0, y7))], [(1, 275), (4, w 276 (y7 + 8))], w37)) 4 rfl ?_
                                refine e_Ok.getr (z := 288) rfl (el_o rfl) rfl (ef_o rfl) (e_uq hw37 (Or.inr (by decide)) ((q31 275 17 no_9s_0).trans (e_Has.eq hI.1 rfl))) ⟨by decide, by decide⟩ ?_
                                refine e_Ok.ps2 (x := (0, p1)) (y := (0, 6)) (q := 156) 2 rfl ?_
                                refine e_Ok.mul (z := 6 * p1) rfl rfl (by omega) ?_
                                refine e_Ok.ps1 (x := (0, y7)) (q := 159) 1 rfl ?_
                                refine e_Ok.add (z := 6 * p1 + y7) rfl rfl (by omega) ?_
                                have h122 := (e_Has.get hI.1 (c := 288) (k := 6 * p1 + y7) (lo := (-100000)) (hi := 0) rfl (by decide))
                                refine e_Ok.ald (z := w 288 (6 * p1 + y7)) rfl (el_o rfl) rfl (by omega) (e_uq hw37 (Or.inl (by decide)) ((q31 288 (6 * p1 + y7) no_9s_3).trans rfl)) (e_bq h122 (by decide) (by decide)) ?_
                                refine e_Ok.run (t' := (163, [(8, (0, w 276 (y7 + 8))), (0, (1, 275)), (1, (0, p1)), (2, (0, p2)), (3, (0, p3)), (4, (0, z30)), (5, (0, y5)), (6, (0, y6)), (7, (0, y7))], [(1, 275), (4, w 288 (6 * p1 + y7)), (4, w 276 (y7 + 8))], w37)) 2 rfl ?_
                                refine e_Ok.getr (z := 289) rfl (el_o rfl) rfl (ef_o rfl) (e_uq hw37 (Or.inr (by decide)) ((q31 275 18 no_9s_0).trans (e_Has.eq hI.1 rfl))) ⟨by decide, by decide⟩ ?_
                                refine e_Ok.ps2 (x := (0, p1)) (y := (0, 6)) (q := 169) 2 rfl ?_
                                refine e_Ok.mul (z := 6 * p1) rfl rfl (by omega) ?_
                                refine e_Ok.ps1 (x := (0, y7)) (q := 172) 1 rfl ?_
                                refine e_Ok.add (z := 6 * p1 + y7) rfl rfl (by omega) ?_
                                have h123 := (e_Has.get hI.1 (c := 289) (k := 6 * p1 + y7) (lo := 0) (hi := 100000) rfl (by decide))
                                refine e_Ok.ald (z := w 289 (6 * p1 + y7)) rfl (el_o rfl) rfl (by omega) (e_uq hw37 (Or.inl (by decide)) ((q31 289 (6 * p1 + y7) no_9s_4).trans rfl)) (e_bq h123 (by decide) (by decide)) ?_
                                refine e_Ok.run (t' := (175, [(8, (0, w 276 (y7 + 8))), (0, (1, 275)), (1, (0, p1)), (2, (0, p2)), (3, (0, p3)), (4, (0, z30)), (5, (0, y5)), (6, (0, y6)), (7, (0, y7))], [(4, w 289 (6 * p1 + y7)), (4, w 288 (6 * p1 + y7)), (4, w 276 (y7 + 8))], w37)) 1 rfl ?_
                                refine e_Ok.callS rfl (e_dq hd rfl) rfl rfl (c_266) (fun r124 w125 h126 => ?_)
                                obtain ⟨z127, rfl, rfl, q128⟩ := h126
                                obtain ⟨rfl, q128⟩ | ⟨rfl, q128⟩ := q128
                                · refine e_Ok.nrm (q := 178) (st' := [(0, 1)]) rfl rfl ?_
                                  refine e_Ok.if1 rfl (fun h129 => ?_) (fun h129 => ?_)
                                  · replace h129 : (1 : Int) = 0 := h129
                                    exfalso; omega
                                  · replace h129 : (1 : Int) ≠ 0 := (show ¬ ((1 : Int) = 0) from h129)
                                    refine e_Ok.ps2 (x := (1, 275)) (y := (0, w 276 (y7 + 8))) (q := 184) 2 rfl ?_
                                    refine e_Ok.getr (z := 348) rfl (el_o rfl) rfl (ef_o rfl) (e_uq hw37 (Or.inr (by decide)) ((q31 275 105 no_9s_0).trans (e_Has.eq hI.1 rfl))) ⟨by decide, by decide⟩ ?_
                                    refine e_Ok.ps1 (x := (0, y7)) (q := 189) 1 rfl ?_
                                    have h130 := (hf8 y7 (by omega) (by omega))
                                    refine e_Ok.ald (z := w28 348 y7) rfl (el_o rfl) rfl (by omega) (e_uq hw37 (Or.inl (by decide)) rfl) (by omega) ?_
                                    refine e_Ok.sub' (z := w 276 (y7 + 8) - w28 348 y7) rfl rfl (by omega) ?_
                                    refine e_Ok.ps1 (x := (0, p2)) (q := 192) 1 rfl ?_
                                    refine e_Ok.remd rfl (by omega) (by omega) (fun z131 hz131 z131a z131b => ?_)
                                    have hz1310 : z131 = 0 := hz131.2 (by obtain ⟨qq, hqq⟩ := (hA.2.2.2.2 y7 (by omega) (by rw [hmq]; omega)).2; exact ⟨qq, by rw [(q31J y7 (by omega) (by omega)).1]; exact hqq⟩)
                                    refine e_Ok.if1 rfl (fun h132 => ?_) (fun h132 => ?_)
                                    · replace h132 : (z131 : Int) = 0 := h132
                                      refine e_Ok.run (t' := (204, [(8, (0, w 276 (y7 + 8))), (0, (1, 275)), (1, (0, p1)), (2, (0, p2)), (3, (0, p3)), (4, (0, z30)), (5, (0, y5)), (6, (0, y6)), (7, (0, y7))], [(0, y7), (1, 275), (0, y5)], w37)) 3 rfl ?_
                                      refine e_Ok.callV rfl (e_dq hd rfl) rfl rfl rfl rfl (c_411_f hT40 (fun k => Eq.trans ((fun e => Eq.trans (show w37 347 e = w28 347 e from by rw [← hw37]; exact e_up_ne _ _ (Or.inl (by decide))) ((fun e => rfl) e)) k) (hf k)) (by omega) (by omega) hfN hFp) (fun r133 w134 h135 => ?_)
                                      obtain ⟨q136, rfl⟩ := h135
                                      obtain ⟨z137, hz137⟩ : ∃ z, z = prd f y7.toNat := ⟨_, rfl⟩
                                      rw [← hz137] at q136; subst q136
                                      have z137b := (show 1 ≤ z137 ∧ z137 ≤ 1000 from by rw [hz137]; exact prd_bd (by omega) (by omega) hfN hFp)
                                      show e_Ok 20 elay ecode eI (d + 1) 418 (207, [(8, (0, w 276 (y7 + 8))), (0, (1, 275)), (1, (0, p1)), (2, (0, p2)), (3, (0, p3)), (4, (0, z30)), (5, (0, y5)), (6, (0, y6)), (7, (0, y7))], [(0, z137), (0, y5)], w37) _
                                      refine e_Ok.ps1 (x := (1, 275)) (q := 208) 1 rfl ?_
                                      refine e_Ok.getr (z := 276) rfl (el_o rfl) rfl (ef_o rfl) (e_uq hw37 (Or.inr (by decide)) ((q31 275 0 no_9s_0).trans (e_Has.eq hI.1 rfl))) ⟨by decide, by decide⟩ ?_
                                      refine e_Ok.ps1 (x := (0, p1)) (q := 212) 1 rfl ?_
                                      refine e_Ok.callS rfl (e_dq hd rfl) rfl rfl (c_268 (by omega)) (fun r138 w139 h140 => ?_)
                                      obtain ⟨rfl, rfl⟩ := h140
                                      refine e_Ok.nrm (q := 215) (st' := [(0, 36 * p1 + 16), (1, 276), (0, z137), (0, y5)]) rfl rfl ?_
                                      refine e_Ok.ps1 (x := (0, 16)) (q := 217) 1 rfl ?_
                                      refine e_Ok.add (z := 36 * p1 + 32) rfl (e_adl (by decide)) (by omega) ?_
                                      refine e_Ok.ps1 (x := (0, y7)) (q := 220) 1 rfl ?_
                                      refine e_Ok.add (z := 36 * p1 + y7 + 32) rfl (by omega) (by omega) ?_
                                      have h141 := (e_Has.get hI.1 (c := 276) (k := 36 * p1 + y7 + 32) (lo := (-100000)) (hi := 100000) (nR_VALUE (a := p1) (j := y7) (by omega) (by omega)) (by decide))
                                      refine e_Ok.ald (z := w 276 (36 * p1 + y7 + 32)) rfl (el_o rfl) rfl (by omega) (e_uq hw37 (Or.inl (by decide)) ((q31 276 (36 * p1 + y7 + 32) no_9s_2).trans rfl)) (e_bq h141 (by decide) (by decide)) ?_
                                      refine e_Ok.ps1 (x := (1, 275)) (q := 223) 1 rfl ?_
                                      refine e_Ok.getr (z := 348) rfl (el_o rfl) rfl (ef_o rfl) (e_uq hw37 (Or.inr (by decide)) ((q31 275 105 no_9s_0).trans (e_Has.eq hI.1 rfl))) ⟨by decide, by decide⟩ ?_
                                      refine e_Ok.ps1 (x := (0, y7)) (q := 228) 1 rfl ?_
                                      refine e_Ok.ald (z := w28 348 y7) rfl (el_o rfl) rfl (by omega) (e_uq hw37 (Or.inl (by decide)) rfl) (by omega) ?_
                                      refine e_Ok.sub' (z := w 276 (36 * p1 + y7 + 32) - w28 348 y7) rfl rfl (by omega) ?_
                                      refine e_Ok.ps1 (x := (0, p2)) (q := 231) 1 rfl ?_
                                      have hgdF := gr_in (q31J y7 (by omega) (by omega)) (by omega) (hV y7 (by omega) (by omega)) (hV y7 (by omega) (by omega)) (gr_val (q31J y7 (by omega) (by omega)))
                                      have hgdFx : 0 ≤ w 276 (36 * p1 + y7 + 32) - w28 348 y7 := by rw [gr_val (q31J y7 (by omega) (by omega))]; exact Int.mul_nonneg hgdF.1.1 (by omega)
                                      have hVy := hV y7 (by omega) (by omega)
                                      refine e_Ok.divn (fun z142 hz142 => ?_) rfl (by omega) (by omega)
                                      replace hz142 : z142 = dF y7 := Eq.trans hz142 (hdF y7).symm
                                      have z142b : 0 ≤ dF y7 ∧ dF y7 < f y7 := by rw [hdF y7, hgdF.2, ← hf y7]; exact hgdF.1
                                      have hsdF : smd f dF (y7 + 1).toNat = y5 + z137 * z142 := by rw [show (y7 + 1).toNat = y7.toNat + 1 by omega]; show smd f dF y7.toNat + prd f y7.toNat * dF (y7.toNat : Int) = _; rw [← j44, ← hz137, show ((y7.toNat : Nat) : Int) = y7 by omega, ← hz142]
                                      have hbdF : ∀ k, 0 ≤ k → k < y7 + 1 → 0 ≤ dF k ∧ dF k < f k := fun k g1 g2 => Decidable.byCases (p := k = y7) (fun e => by rw [e]; exact z142b) (fun e => j46 k g1 (by omega))
                                      have hidF := smd_in (f := f) (d := dF) (n := (y7 + 1).toNat) (fun k g1 g2 => hbdF k g1 (by omega))
                                      have hjdF := prd_bd (f := f) (m := m) (j := y7 + 1) (by omega) (by omega) hfN hFp
                                      rw [hsdF] at hidF
                                      have hzdF : 0 ≤ z142 := by rw [hz142]; exact z142b.1
                                      have hkdF : 0 ≤ z137 * z142 := Int.mul_nonneg (by omega) hzdF
                                      have hldF : z142 ≤ 200001 := by have h1 := hfN y7 (by omega) (by omega); rw [hz142]; omega
                                      refine e_Ok.mul (z := z137 * z142) rfl (by omega) (by omega) ?_
                                      refine e_Ok.add (z := y5 + z137 * z142) rfl rfl (by omega) ?_
                                      refine e_Ok.run (t' := (241, [(5, (0, y5 + z137 * z142)), (8, (0, w 276 (y7 + 8))), (0, (1, 275)), (1, (0, p1)), (2, (0, p2)), (3, (0, p3)), (4, (0, z30)), (6, (0, y6)), (7, (0, y7))], [(0, y7), (1, 275), (0, y6)], w37)) 4 rfl ?_
                                      refine e_Ok.callV rfl (e_dq hd rfl) rfl rfl rfl rfl (c_411_f hT40 (fun k => Eq.trans ((fun e => Eq.trans (show w37 347 e = w28 347 e from by rw [← hw37]; exact e_up_ne _ _ (Or.inl (by decide))) ((fun e => rfl) e)) k) (hf k)) (by omega) (by omega) hfN hFp) (fun r143 w144 h145 => ?_)
                                      obtain ⟨q146, rfl⟩ := h145
                                      obtain ⟨z147, hz147⟩ : ∃ z, z = prd f y7.toNat := ⟨_, rfl⟩
                                      rw [← hz147] at q146; subst q146
                                      have z147b := (show 1 ≤ z147 ∧ z147 ≤ 1000 from by rw [hz147]; exact prd_bd (by omega) (by omega) hfN hFp)
                                      show e_Ok 20 elay ecode eI (d + 1) 418 (244, [(5, (0, y5 + z137 * z142)), (8, (0, w 276 (y7 + 8))), (0, (1, 275)), (1, (0, p1)), (2, (0, p2)), (3, (0, p3)), (4, (0, z30)), (6, (0, y6)), (7, (0, y7))], [(0, z147), (0, y6)], w37) _
                                      refine e_Ok.ps2 (x := (1, 275)) (y := (0, w 276 (y7 + 8))) (q := 247) 2 rfl ?_
                                      refine e_Ok.getr (z := 348) rfl (el_o rfl) rfl (ef_o rfl) (e_uq hw37 (Or.inr (by decide)) ((q31 275 105 no_9s_0).trans (e_Has.eq hI.1 rfl))) ⟨by decide, by decide⟩ ?_
                                      refine e_Ok.ps1 (x := (0, y7)) (q := 252) 1 rfl ?_
                                      refine e_Ok.ald (z := w28 348 y7) rfl (el_o rfl) rfl (by omega) (e_uq hw37 (Or.inl (by decide)) rfl) (by omega) ?_
                                      refine e_Ok.sub' (z := w 276 (y7 + 8) - w28 348 y7) rfl rfl (by omega) ?_
                                      refine e_Ok.ps1 (x := (0, p2)) (q := 255) 1 rfl ?_
                                      obtain ⟨qa, hqa⟩ := hz131.1 (by omega)
                                      have hgdT := gr_in (q31J y7 (by omega) (by omega)) (by omega) (hV y7 (by omega) (by omega)) (x := w 276 (y7 + 8)) ⟨by omega, by omega⟩ hqa
                                      have hgdTx : 0 ≤ w 276 (y7 + 8) - w28 348 y7 := by rw [hqa]; exact Int.mul_nonneg hgdT.1.1 (by omega)
                                      have hVy := hV y7 (by omega) (by omega)
                                      refine e_Ok.divn (fun z148 hz148 => ?_) rfl (by omega) (by omega)
                                      replace hz148 : z148 = dT y7 := Eq.trans hz148 (hdT y7).symm
                                      have z148b : 0 ≤ dT y7 ∧ dT y7 < f y7 := by rw [hdT y7, hgdT.2, ← hf y7]; exact hgdT.1
                                      have hsdT : smd f dT (y7 + 1).toNat = y6 + z147 * z148 := by rw [show (y7 + 1).toNat = y7.toNat + 1 by omega]; show smd f dT y7.toNat + prd f y7.toNat * dT (y7.toNat : Int) = _; rw [← j45, ← hz147, show ((y7.toNat : Nat) : Int) = y7 by omega, ← hz148]
                                      have hbdT : ∀ k, 0 ≤ k → k < y7 + 1 → 0 ≤ dT k ∧ dT k < f k := fun k g1 g2 => Decidable.byCases (p := k = y7) (fun e => by rw [e]; exact z148b) (fun e => j47 k g1 (by omega))
                                      have hidT := smd_in (f := f) (d := dT) (n := (y7 + 1).toNat) (fun k g1 g2 => hbdT k g1 (by omega))
                                      have hjdT := prd_bd (f := f) (m := m) (j := y7 + 1) (by omega) (by omega) hfN hFp
                                      rw [hsdT] at hidT
                                      have hzdT : 0 ≤ z148 := by rw [hz148]; exact z148b.1
                                      have hkdT : 0 ≤ z147 * z148 := Int.mul_nonneg (by omega) hzdT
                                      have hldT : z148 ≤ 200001 := by have h1 := hfN y7 (by omega) (by omega); rw [hz148]; omega
                                      refine e_Ok.mul (z := z147 * z148) rfl (by omega) (by omega) ?_
                                      refine e_Ok.add (z := y6 + z147 * z148) rfl rfl (by omega) ?_
                                      refine e_Ok.run (t' := (260, [(6, (0, y6 + z147 * z148)), (5, (0, y5 + z137 * z142)), (8, (0, w 276 (y7 + 8))), (0, (1, 275)), (1, (0, p1)), (2, (0, p2)), (3, (0, p3)), (4, (0, z30)), (7, (0, y7))], [], w37)) 1 rfl ?_
                                      refine e_Ok.inc (z := y7 + 1) rfl rfl (by first | with_reducible rfl | omega) (by omega) ?_
                                      show e_Ok 20 elay ecode eI (d + 1) 418 (263, [(7, (0, y7 + 1)), (6, (0, y6 + z147 * z148)), (5, (0, y5 + z137 * z142)), (8, (0, w 276 (y7 + 8))), (0, (1, 275)), (1, (0, p1)), (2, (0, p2)), (3, (0, p3)), (4, (0, z30))], [], w37) _
                                      refine e_Ok.ps0 (q := 123) 1 rfl ?_
                                      refine e_Ok.sub eAlk (e_sub_of rfl ?_) (ih42 (y5 + z137 * z142) (y6 + z147 * z148) (y7 + 1) ⟨by omega, hsdF.symm, hsdT.symm, hbdF, hbdT, (fun k g1 g2 => Decidable.byCases (p := k = y7) (fun e => by rw [e]; exact ⟨⟨by omega, by omega⟩, qa, hqa⟩) (fun e => j48 k g1 (by omega))), by omega, by omega⟩ (by omega))
                                      exact ⟨rfl, rfl, rfl, rfl, rfl, rfl, rfl, rfl, trivial⟩
                                    · replace h132 : (z131 : Int) ≠ 0 := (show ¬ ((z131 : Int) = 0) from h132)
                                      refine e_Ok.run (t' := (198, [(8, (0, w 276 (y7 + 8))), (0, (1, 275)), (1, (0, p1)), (2, (0, p2)), (3, (0, p3)), (4, (0, z30)), (5, (0, y5)), (6, (0, y6)), (7, (0, y7))], [(0, (-2))], w37)) 1 rfl ?_
                                      refine e_Ok.rets rfl rfl ?_
                                      exfalso; first | omega | (rw [hfe] at q31z; have := hA.2.2.2.1; rw [hmq] at this; omega) | (have := (hA.2.2.2.2 y7 (by omega) (by rw [hmq]; omega)).1; omega)
                                · refine e_Ok.nrm (q := 178) (st' := [(0, 0)]) rfl rfl ?_
                                  refine e_Ok.if1 rfl (fun h149 => ?_) (fun h149 => ?_)
                                  · replace h149 : (0 : Int) = 0 := h149
                                    refine e_Ok.ps1 (x := (0, (-2))) (q := 198) 1 rfl ?_
                                    refine e_Ok.rets rfl rfl ?_
                                    exfalso; first | omega | (rw [hfe] at q31z; have := hA.2.2.2.1; rw [hmq] at this; omega) | (have := (hA.2.2.2.2 y7 (by omega) (by rw [hmq]; omega)).1; omega)
                                  · replace h149 : (0 : Int) ≠ 0 := (show ¬ ((0 : Int) = 0) from h149)
                                    exfalso; omega
                          refine e_Ok.sub eAlk (e_sub_of rfl ?_) (hL41 (7 + 1 : Int).toNat 0 0 0 ⟨by omega, rfl, rfl, (fun k g1 g2 => by omega), (fun k g1 g2 => by omega), (fun k g1 g2 => by omega), by omega, by omega⟩ (by omega))
                          exact ⟨rfl, rfl, rfl, rfl, rfl, rfl, rfl, rfl, trivial⟩
                      · replace h35 : (w 275 118 : Int) = 60 := Classical.not_not.mp (show ¬ ((w 275 118 : Int) ≠ 60) from h35)
                        refine e_Ok.ps1 (x := (1, 275)) (q := 84) 1 rfl ?_
                        refine e_Ok.getf (z := 1) rfl (el_o rfl) rfl (ef_o rfl) ((q31 275 6 no_9s_0).trans h6) (by omega) ?_
                        refine e_Ok.if1 rfl (fun h150 => ?_) (fun h150 => ?_)
                        · replace h150 : (1 : Int) ≠ 0 := h150
                          have hF : plF p1 m f := ⟨by omega, by omega, hfN, by rw [← q31z]; omega⟩
                          have hFp := hF.2.2.2
                          obtain ⟨dF, hdF⟩ : ∃ d : Int → Int, ∀ j, d j = (w 276 (36 * p1 + j + 32) - w28 348 j) / p2 := ⟨_, fun _ => rfl⟩
                          obtain ⟨dT, hdT⟩ : ∃ d : Int → Int, ∀ j, d j = (w 276 (j + 8) - w28 348 j) / p2 := ⟨_, fun _ => rfl⟩
                          refine e_Ok.run (t' := (95, [(4, (0, z30)), (0, (1, 275)), (1, (0, p1)), (2, (0, p2)), (3, (0, p3))], [(1, 275), (1, 275)], w28)) 2 rfl ?_
                          refine e_Ok.getf (z := w 275 118) rfl (el_o rfl) rfl (ef_o rfl) ((q31 275 118 no_9s_0).trans rfl) (by omega) ?_
                          refine e_Ok.ps1 (x := (1, 275)) (q := 99) 1 rfl ?_
                          refine e_Ok.getf (z := 1) rfl (el_o rfl) rfl (ef_o rfl) ((q31 275 6 no_9s_0).trans h6) (by omega) ?_
                          refine e_Ok.if1 rfl (fun h151 => ?_) (fun h151 => ?_)
                          · replace h151 : (1 : Int) = 0 := h151
                            exfalso; omega
                          · replace h151 : (1 : Int) ≠ 0 := (show ¬ ((1 : Int) = 0) from h151)
                            refine e_Ok.ps1 (x := (0, 0)) (q := 110) 2 rfl ?_
                            refine e_Ok.add (z := w 275 118) rfl (by omega) (by omega) ?_
                            refine e_Ok.putf rfl (el_o rfl) rfl (ef_o rfl) ?_
                            generalize hw152 : e_up w28 275 118 (w 275 118) = w152
                            have hT154 : e_Has mTy w152 := e_Has.ups q31T hw152 (mt_o rfl)
                            refine e_Ok.run (t' := (123, [(7, (0, 0)), (6, (0, 0)), (5, (0, 0)), (4, (0, z30)), (0, (1, 275)), (1, (0, p1)), (2, (0, p2)), (3, (0, p3))], [], w152)) 6 rfl ?_
                            have hL155 : ∀ (nn : Nat) (y5 : Int) (y6 : Int) (y7 : Int), (0 ≤ y7 ∧ y7 ≤ m) ∧ y5 = smd f dF y7.toNat ∧ y6 = smd f dT y7.toNat ∧ (∀ k, 0 ≤ k → k < y7 → 0 ≤ dF k ∧ dF k < f k) ∧ (∀ k, 0 ≤ k → k < y7 → 0 ≤ dT k ∧ dT k < f k) ∧ (∀ j, 0 ≤ j → j < y7 → (w 288 (6 * p1 + j) ≤ w 276 (j + 8) ∧ w 276 (j + 8) ≤ w 289 (6 * p1 + j)) ∧ ∃ q, w 276 (j + 8) - w28 348 j = q * p2) ∧ (0 ≤ y5 ∧ y5 ≤ 999) ∧ (0 ≤ y6 ∧ y6 ≤ 999) → 7 - y7 < nn → e_Ok 20 elay ecode eI (d + 1) 418 (123, [(0, (1, 275)), (1, (0, p1)), (2, (0, p2)), (3, (0, p3)), (4, (0, z30)), (5, (0, y5)), (6, (0, y6)), (7, (0, y7))], [], w152) (fun r w' => ∃ z : Int, r = [(0, z)] ∧ e_fr mPm w w' ∧ e_Has mTy w' ∧ w' 275 118 = w 275 118 ∧ ∀ k, w' 276 k = plN w p1 p2 zz g k) := by
                              intro nn
                              induction nn with
                              | zero => intro y5 y6 y7 hj hm; obtain ⟨j157, j158, j159, j160, j161, j162, j163, j164⟩ := hj; exfalso; omega
                              | succ nn ih156 =>
                                intro y5 y6 y7 hj hm
                                obtain ⟨j157, j158, j159, j160, j161, j162, j163, j164⟩ := hj
                                refine e_Ok.run (t' := (126, [(0, (1, 275)), (1, (0, p1)), (2, (0, p2)), (3, (0, p3)), (4, (0, z30)), (5, (0, y5)), (6, (0, y6)), (7, (0, y7))], [(1, 275), (0, y7)], w152)) 2 rfl ?_
                                refine e_Ok.getr (z := 286) rfl (el_o rfl) rfl (ef_o rfl) (e_uq hw152 (Or.inr (by decide)) ((q31 275 15 no_9s_0).trans (e_Has.eq hI.1 rfl))) ⟨by decide, by decide⟩ ?_
                                refine e_Ok.ps1 (x := (0, p1)) (q := 130) 1 rfl ?_
                                refine e_Ok.ald (z := m) rfl (el_o rfl) rfl (by omega) (e_uq hw152 (Or.inl (by decide)) ((q31 286 p1 no_9s_1).trans hmq)) (by omega) ?_
                                refine e_Ok.if2 rfl (fun h165 => ?_) (fun h165 => ?_)
                                · replace h165 : (y7 : Int) ≥ m := h165
                                  refine e_Ok.ps2 (x := (0, p1)) (y := (1, 275)) (q := 268) 2 rfl ?_
                                  refine e_Ok.putf rfl (el_o rfl) rfl (ef_o rfl) ?_
                                  generalize hw166 : e_up w152 275 110 p1 = w166
                                  have hT168 : e_Has mTy w166 := e_Has.ups hT154 hw166 (mt_o rfl)
                                  refine e_Ok.ps2 (x := (0, p2)) (y := (1, 275)) (q := 273) 2 rfl ?_
                                  refine e_Ok.putf rfl (el_o rfl) rfl (ef_o rfl) ?_
                                  generalize hw169 : e_up w166 275 111 p2 = w169
                                  have hT171 : e_Has mTy w169 := e_Has.ups hT168 hw169 (mt_o rfl)
                                  refine e_Ok.ps2 (x := (0, p3)) (y := (1, 275)) (q := 278) 2 rfl ?_
                                  refine e_Ok.putf rfl (el_o rfl) rfl (ef_o rfl) ?_
                                  generalize hw172 : e_up w169 275 112 p3 = w172
                                  have hT174 : e_Has mTy w172 := e_Has.ups hT171 hw172 (mt_o rfl)
                                  refine e_Ok.ps1 (x := (1, 275)) (q := 282) 1 rfl ?_
                                  refine e_Ok.callV rfl (e_dq hd rfl) rfl rfl rfl rfl (c_302 (e_dq hd rfl) hT174) (fun r175 w176 h177 => ?_)
                                  obtain ⟨rfl, q178, q178k⟩ := h177
                                  have f179 : e_fr mPm w w176 := e_fr.trans (show e_fr mPm w w172 from e_fr.up (show e_fr mPm w w169 from e_fr.up (show e_fr mPm w w166 from e_fr.up (show e_fr mPm w w152 from e_fr.up f32 hw152 (by first | exact Or.inr (Or.inl ⟨rfl, Or.inr (Or.inr rfl)⟩) | (unfold mPm; omega))) hw166 (by first | exact Or.inr (Or.inl ⟨rfl, Or.inr (Or.inl ⟨(by decide), (by decide)⟩)⟩) | (unfold mPm; omega))) hw169 (by first | exact Or.inr (Or.inl ⟨rfl, Or.inr (Or.inl ⟨(by decide), (by decide)⟩)⟩) | (unfold mPm; omega))) hw172 (by first | exact Or.inr (Or.inl ⟨rfl, Or.inr (Or.inl ⟨(by decide), (by decide)⟩)⟩) | (unfold mPm; omega))) (e_fr.mono q178 (fun c k q => su_9s_28 q))
                                  have q178T := mT_P q178 hT174
                                  replace q178k : ∀ b, 0 ≤ b → b < w176 275 10 → e_pk2 w176 (7 * b) (w176 286 b) := fun b q1 q2 => by rw [q178 286 b no_9s_8]; exact q178k b q1 (by rw [← q178 275 10 no_9s_9]; exact q2)
                                  refine e_Ok.nrm (q := 285) (st' := []) rfl rfl ?_
                                  have hc111 : w176 275 111 = p2 := ((q178 275 111 no_9s_9).trans (e_uq hw172 (Or.inr (by decide)) (e_ue hw169)))
                                  have hc112 : w176 275 112 = p3 := ((q178 275 112 no_9s_9).trans (e_ue hw172))
                                  have hC : plC w176 p1 m f := ⟨((q178 275 110 no_9s_9).trans (e_uq hw172 (Or.inr (by omega)) (e_uq hw169 (Or.inr (by omega)) (e_ue hw166)))), ((q178 286 p1 no_9s_8).trans (e_uq hw172 (Or.inl (by omega)) (e_uq hw169 (Or.inl (by omega)) (e_uq hw166 (Or.inl (by omega)) (e_uq hw152 (Or.inl (by omega)) ((q31 286 p1 no_9s_1).trans hmq)))))), fun k => Eq.trans ((fun e => Eq.trans (q178 347 e no_9s_10) ((fun e => Eq.trans (show w172 347 e = w169 347 e from by rw [← hw172]; exact e_up_ne _ _ (Or.inl (by decide))) ((fun e => Eq.trans (show w169 347 e = w166 347 e from by rw [← hw169]; exact e_up_ne _ _ (Or.inl (by decide))) ((fun e => Eq.trans (show w166 347 e = w152 347 e from by rw [← hw166]; exact e_up_ne _ _ (Or.inl (by decide))) ((fun e => Eq.trans (show w152 347 e = w28 347 e from by rw [← hw152]; exact e_up_ne _ _ (Or.inl (by decide))) ((fun e => rfl) e)) e)) e)) e)) e)) k) (hf k), by omega, by omega, fun k q1 q2 => (by have h1 := hf8 k q1 q2; have h2 := (fun e => Eq.trans (q178 348 e no_9s_11) ((fun e => Eq.trans (show w172 348 e = w169 348 e from by rw [← hw172]; exact e_up_ne _ _ (Or.inl (by decide))) ((fun e => Eq.trans (show w169 348 e = w166 348 e from by rw [← hw169]; exact e_up_ne _ _ (Or.inl (by decide))) ((fun e => Eq.trans (show w166 348 e = w152 348 e from by rw [← hw166]; exact e_up_ne _ _ (Or.inl (by decide))) ((fun e => Eq.trans (show w152 348 e = w28 348 e from by rw [← hw152]; exact e_up_ne _ _ (Or.inl (by decide))) ((fun e => rfl) e)) e)) e)) e)) e)) k; omega), fun b q1 q2 => ⟨(by rw [f179 286 b no_9s_12]; exact (e_Has.get hI.1 (c := 286) (k := b) (lo := 0) (hi := 6) rfl (by decide)).2), q178k b q1 q2⟩⟩
                                  refine e_Ok.run (t' := (286, [(0, (1, 275)), (1, (0, p1)), (2, (0, p2)), (3, (0, p3)), (4, (0, z30)), (5, (0, y5)), (6, (0, y6)), (7, (0, y7))], [(1, 275)], w176)) 1 rfl ?_
                                  refine e_Ok.getf (z := 1) rfl (el_o rfl) rfl (ef_o rfl) ((q178 275 6 no_9s_9).trans (e_uq hw172 (Or.inr (by decide)) (e_uq hw169 (Or.inr (by decide)) (e_uq hw166 (Or.inr (by decide)) (e_uq hw152 (Or.inr (by decide)) ((q31 275 6 no_9s_0).trans h6)))))) (by omega) ?_
                                  refine e_Ok.if1 rfl (fun h180 => ?_) (fun h180 => ?_)
                                  · replace h180 : (1 : Int) = 0 := h180
                                    exfalso; omega
                                  · replace h180 : (1 : Int) ≠ 0 := (show ¬ ((1 : Int) = 0) from h180)
                                    refine e_Ok.ps1 (x := (1, 275)) (q := 293) 1 rfl ?_
                                    refine e_Ok.getr (z := 355) rfl (el_o rfl) rfl (ef_o rfl) ((q178 275 115 no_9s_9).trans (e_uq hw172 (Or.inr (by decide)) (e_uq hw169 (Or.inr (by decide)) (e_uq hw166 (Or.inr (by decide)) (e_uq hw152 (Or.inr (by decide)) ((q31 275 115 no_9s_0).trans (e_Has.eq hI.1 rfl))))))) ⟨by decide, by decide⟩ ?_
                                    refine e_Ok.ps1 (x := (1, 275)) (q := 297) 1 rfl ?_
                                    refine e_Ok.getf (z := R) rfl (el_o rfl) rfl (ef_o rfl) ((q178 275 117 no_9s_9).trans (e_uq hw172 (Or.inr (by decide)) (e_uq hw169 (Or.inr (by decide)) (e_uq hw166 (Or.inr (by decide)) (e_uq hw152 (Or.inr (by decide)) ((q31 275 117 no_9s_0).trans hr7)))))) (by omega) ?_
                                    refine e_Ok.ald (z := E) rfl (el_o rfl) rfl (by omega) ((q178 355 R no_9s_22).trans (e_uq hw172 (Or.inl (by decide)) (e_uq hw169 (Or.inl (by decide)) (e_uq hw166 (Or.inl (by decide)) (e_uq hw152 (Or.inl (by decide)) ((q31 355 R no_9s_23).trans hE5)))))) (by omega) ?_
                                    refine e_Ok.if1 rfl (fun h181 => ?_) (fun h181 => ?_)
                                    · replace h181 : (E : Int) < 0 := h181
                                      exfalso; omega
                                    · replace h181 : (E : Int) ≥ 0 := Int.not_lt.mp (show ¬ ((E : Int) < 0) from h181)
                                      refine e_Ok.ps2 (x := (1, 275)) (y := (1, 275)) (q := 306) 2 rfl ?_
                                      refine e_Ok.getf (z := R) rfl (el_o rfl) rfl (ef_o rfl) ((q178 275 117 no_9s_9).trans (e_uq hw172 (Or.inr (by decide)) (e_uq hw169 (Or.inr (by decide)) (e_uq hw166 (Or.inr (by decide)) (e_uq hw152 (Or.inr (by decide)) ((q31 275 117 no_9s_0).trans hr7)))))) (by omega) ?_
                                      refine e_Ok.callV rfl (e_dq hd rfl) rfl rfl rfl rfl (c_421 q178T (z := zz) (E := E) (R := R) hR hzz hEE (Eq.trans (f179 355 R no_9s_24) hE5) (Eq.trans (f179 356 R no_9s_18) hE6) (fun i q1 q2 => by rw [f179 354 i no_9s_25]; have := hE4 (i - E) (by omega) (by omega); rw [show E + (i - E) = i by omega] at this; omega)) (fun r182 w183 h184 => ?_)
                                      obtain ⟨rfl, q185, q185w⟩ := h184
                                      have f186 : e_fr mPm w w183 := e_fr.trans f179 (e_fr.mono q185 (fun c k q => su_9s_30 q))
                                      have q185T := mT_Fo q185 q178T
                                      have hfo : ∀ i, 0 ≤ i → i < zz → w183 353 i = g i := fun i q1 q2 => Eq.trans (q185w i q1 q2) (Eq.trans (f179 354 _ no_9s_25) (hE4 i q1 q2).1)
                                      refine e_Ok.nrm (q := 312) (st' := [(0, zz)]) rfl rfl ?_
                                      refine e_Ok.run (t' := (329, [(7, (0, zz)), (0, (1, 275)), (1, (0, p1)), (2, (0, p2)), (3, (0, p3)), (4, (0, z30)), (5, (0, y5)), (6, (0, y6))], [(0, zz)], w183)) 3 rfl ?_
                                      refine e_Ok.if1 rfl (fun h187 => ?_) (fun h187 => ?_)
                                      · replace h187 : (zz : Int) ≥ 0 := h187
                                        refine e_Ok.ps1 (x := (1, 275)) (q := 336) 1 rfl ?_
                                        refine e_Ok.callV rfl (e_dq hd rfl) rfl rfl rfl rfl (c_422_x q185T (bkE.fr hB (f186 275 5 no_9s_16) (f186 275 6 no_9s_17) (fun k => f186 356 k no_9s_18)).1) (fun r188 w189 h190 => ?_)
                                        obtain ⟨z191, rfl, rfl, q192⟩ := h190
                                        have hmb2 : mBk w183 ↔ mBk w := by unfold mBk; rw [f186 275 5 no_9s_16, f186 275 6 no_9s_17]
                                        obtain ⟨rfl, q192⟩ | ⟨rfl, q192⟩ := q192
                                        · exact absurd (hmb2.1 q192).2 (by omega)
                                        refine e_Ok.nrm (q := 339) (st' := [(0, 0)]) rfl rfl ?_
                                        refine e_Ok.if1 rfl (fun h193 => ?_) (fun h193 => ?_)
                                        · replace h193 : (0 : Int) = 0 := h193
                                          refine e_Ok.ps1 (x := (0, p1)) (q := 346) 1 rfl ?_
                                          refine e_Ok.callS rfl (e_dq hd rfl) rfl rfl (c_268 (by omega)) (fun r194 w195 h196 => ?_)
                                          obtain ⟨rfl, rfl⟩ := h196
                                          refine e_Ok.nrm (q := 349) (st' := [(0, 36 * p1 + 16)]) rfl rfl ?_
                                          refine e_Ok.run (t' := (352, [(8, (0, 36 * p1 + 16)), (7, (0, zz)), (0, (1, 275)), (1, (0, p1)), (2, (0, p2)), (3, (0, p3)), (4, (0, z30)), (5, (0, y5)), (6, (0, y6))], [(1, 275)], w183)) 2 rfl ?_
                                          refine e_Ok.getr (z := 276) rfl (el_o rfl) rfl (ef_o rfl) ((q185 275 0 no_9s_5).trans ((q178 275 0 no_9s_9).trans (e_uq hw172 (Or.inr (by decide)) (e_uq hw169 (Or.inr (by decide)) (e_uq hw166 (Or.inr (by decide)) (e_uq hw152 (Or.inr (by decide)) ((q31 275 0 no_9s_0).trans (e_Has.eq hI.1 rfl)))))))) ⟨by decide, by decide⟩ ?_
                                          refine e_Ok.ps2 (x := (0, 3)) (y := (0, 36 * p1 + 16)) (q := 358) 2 rfl ?_
                                          refine e_Ok.add (z := 36 * p1 + 19) rfl (e_adl (by decide)) (by omega) ?_
                                          refine e_Ok.ps1 (x := (0, zz)) (q := 361) 1 rfl ?_
                                          refine e_Ok.ast rfl (el_o rfl) rfl rfl (by omega) ?_
                                          generalize hw197 : e_up w183 276 (36 * p1 + 19) zz = w197
                                          have hT199 : e_Has mTy w197 := e_Has.upr q185T hw197 (nR_WAY_SIZE (a := p1) (by omega)) (by omega)
                                          refine e_Ok.ps1 (x := (1, 275)) (q := 363) 1 rfl ?_
                                          refine e_Ok.getr (z := 276) rfl (el_o rfl) rfl (ef_o rfl) (e_uq hw197 (Or.inl (by decide)) ((q185 275 0 no_9s_5).trans ((q178 275 0 no_9s_9).trans (e_uq hw172 (Or.inr (by decide)) (e_uq hw169 (Or.inr (by decide)) (e_uq hw166 (Or.inr (by decide)) (e_uq hw152 (Or.inr (by decide)) ((q31 275 0 no_9s_0).trans (e_Has.eq hI.1 rfl))))))))) ⟨by decide, by decide⟩ ?_
                                          refine e_Ok.ps2 (x := (0, 10)) (y := (0, 36 * p1 + 16)) (q := 370) 2 rfl ?_
                                          refine e_Ok.add (z := 36 * p1 + 26) rfl (e_adl (by decide)) (by omega) ?_
                                          refine e_Ok.ps1 (x := (0, p2)) (q := 372) 1 rfl ?_
                                          refine e_Ok.ast rfl (el_o rfl) rfl rfl (by omega) ?_
                                          generalize hw200 : e_up w197 276 (36 * p1 + 26) p2 = w200
                                          have hT202 : e_Has mTy w200 := e_Has.upr hT199 hw200 (nR_WIDE (a := p1) (by omega)) (by omega)
                                          refine e_Ok.ps1 (x := (1, 275)) (q := 374) 1 rfl ?_
                                          refine e_Ok.getr (z := 276) rfl (el_o rfl) rfl (ef_o rfl) (e_uq hw200 (Or.inl (by decide)) (e_uq hw197 (Or.inl (by decide)) ((q185 275 0 no_9s_5).trans ((q178 275 0 no_9s_9).trans (e_uq hw172 (Or.inr (by decide)) (e_uq hw169 (Or.inr (by decide)) (e_uq hw166 (Or.inr (by decide)) (e_uq hw152 (Or.inr (by decide)) ((q31 275 0 no_9s_0).trans (e_Has.eq hI.1 rfl)))))))))) ⟨by decide, by decide⟩ ?_
                                          refine e_Ok.ps2 (x := (0, 4)) (y := (0, 36 * p1 + 16)) (q := 380) 2 rfl ?_
                                          refine e_Ok.add (z := 36 * p1 + 20) rfl (e_adl (by decide)) (by omega) ?_
                                          refine e_Ok.ps1 (x := (0, 1)) (q := 382) 1 rfl ?_
                                          refine e_Ok.ast rfl (el_o rfl) rfl rfl (by omega) ?_
                                          generalize hw203 : e_up w200 276 (36 * p1 + 20) 1 = w203
                                          have hT205 : e_Has mTy w203 := e_Has.upr hT202 hw203 (nR_FRESH (a := p1) (by omega)) (by omega)
                                          refine e_Ok.ps1 (x := (1, 275)) (q := 384) 1 rfl ?_
                                          refine e_Ok.getr (z := 276) rfl (el_o rfl) rfl (ef_o rfl) (e_uq hw203 (Or.inl (by decide)) (e_uq hw200 (Or.inl (by decide)) (e_uq hw197 (Or.inl (by decide)) ((q185 275 0 no_9s_5).trans ((q178 275 0 no_9s_9).trans (e_uq hw172 (Or.inr (by decide)) (e_uq hw169 (Or.inr (by decide)) (e_uq hw166 (Or.inr (by decide)) (e_uq hw152 (Or.inr (by decide)) ((q31 275 0 no_9s_0).trans (e_Has.eq hI.1 rfl))))))))))) ⟨by decide, by decide⟩ ?_
                                          refine e_Ok.ps2 (x := (0, 5)) (y := (0, 36 * p1 + 16)) (q := 390) 2 rfl ?_
                                          refine e_Ok.add (z := 36 * p1 + 21) rfl (e_adl (by decide)) (by omega) ?_
                                          refine e_Ok.ps1 (x := (0, 1)) (q := 392) 1 rfl ?_
                                          refine e_Ok.ast rfl (el_o rfl) rfl rfl (by omega) ?_
                                          generalize hw206 : e_up w203 276 (36 * p1 + 21) 1 = w206
                                          have hT208 : e_Has mTy w206 := e_Has.upr hT205 hw206 (nR_BUT_OWN (a := p1) (by omega)) (by omega)
                                          refine e_Ok.run (t' := (396, [(9, (0, 0)), (8, (0, 36 * p1 + 16)), (7, (0, zz)), (0, (1, 275)), (1, (0, p1)), (2, (0, p2)), (3, (0, p3)), (4, (0, z30)), (5, (0, y5)), (6, (0, y6))], [], w206)) 2 rfl ?_
                                          have hL209 : ∀ (nn : Nat) (y9 : Int) (v1 : eW), e_fr mPm w v1 ∧ e_Has mTy v1 ∧ (0 ≤ y9 ∧ y9 ≤ 1000) ∧ (∀ c k, c ≠ 276 → v1 c k = w206 c k) ∧ (∀ k, ¬ (1000 * p1 + 21060 ≤ k ∧ k < 1000 * p1 + y9 + 21060) → v1 276 k = w206 276 k) ∧ (∀ i, 0 ≤ i → i < y9 → v1 276 (1000 * p1 + i + 21060) = if i < zz then w183 353 i else 0) → 1001 - y9 < nn → e_Ok 20 elay ecode eI (d + 1) 418 (396, [(0, (1, 275)), (1, (0, p1)), (2, (0, p2)), (3, (0, p3)), (7, (0, zz)), (9, (0, y9))], [], v1) (fun r w' => ∃ z : Int, r = [(0, z)] ∧ e_fr mPm w w' ∧ e_Has mTy w' ∧ w' 275 118 = w 275 118 ∧ ∀ k, w' 276 k = plN w p1 p2 zz g k) := by
                                            intro nn
                                            induction nn with
                                            | zero => intro y9 v1 hj hm; obtain ⟨j211, j212, j213, j214, j215, j216⟩ := hj; exfalso; omega
                                            | succ nn ih210 =>
                                              intro y9 v1 hj hm
                                              obtain ⟨j211, j212, j213, j214, j215, j216⟩ := hj
                                              refine e_Ok.run (t' := (401, [(0, (1, 275)), (1, (0, p1)), (2, (0, p2)), (3, (0, p3)), (7, (0, zz)), (9, (0, y9))], [(0, 1000), (0, y9)], v1)) 2 rfl ?_
                                              refine e_Ok.if2 rfl (fun h217 => ?_) (fun h217 => ?_)
                                              · replace h217 : (y9 : Int) ≥ 1000 := h217
                                                have hw19 : v1 276 (36 * p1 + 19) = zz := Eq.trans (j215 _ (by omega)) (e_uq hw206 (Or.inr (e_neo (by decide))) (e_uq hw203 (Or.inr (e_neo (by decide))) (e_uq hw200 (Or.inr (e_neo (by decide))) (e_ue hw197))))
                                                have hw20 : v1 276 (36 * p1 + 20) = 1 := Eq.trans (j215 _ (by omega)) (e_uq hw206 (Or.inr (e_neo (by decide))) (e_ue hw203))
                                                have hw21 : v1 276 (36 * p1 + 21) = 1 := Eq.trans (j215 _ (by omega)) (e_ue hw206)
                                                have hw26 : v1 276 (36 * p1 + 26) = p2 := Eq.trans (j215 _ (by omega)) (e_uq hw206 (Or.inr (e_neo (by decide))) (e_uq hw203 (Or.inr (e_neo (by decide))) (e_ue hw200)))
                                                have hwn : ∀ k, v1 276 k = plN w p1 p2 zz (fun i => w183 353 i) k := fun k => by
                                                  unfold plN
                                                  by_cases c1 : k = 36 * p1 + 19
                                                  · rw [if_pos c1, c1]; exact hw19
                                                  by_cases c2 : k = 36 * p1 + 26
                                                  · rw [if_neg c1, if_pos c2, c2]; exact hw26
                                                  by_cases c3 : k = 36 * p1 + 20
                                                  · rw [if_neg c1, if_neg c2, if_pos c3, c3]; exact hw20
                                                  by_cases c4 : k = 36 * p1 + 21
                                                  · rw [if_neg c1, if_neg c2, if_neg c3, if_pos c4, c4]; exact hw21
                                                  rw [if_neg c1, if_neg c2, if_neg c3, if_neg c4]
                                                  by_cases c5 : 1000 * p1 + 21060 ≤ k ∧ k < 1000 * p1 + 22060
                                                  · rw [if_pos c5]
                                                    have := j216 (k - (1000 * p1 + 21060)) (by omega) (by omega)
                                                    rw [show 1000 * p1 + (k - (1000 * p1 + 21060)) + 21060 = k by omega] at this
                                                    exact this
                                                  · rw [if_neg c5]
                                                    refine Eq.trans (j215 k (by omega)) ?_
                                                    rw [← hw206]; refine Eq.trans (e_up_ne _ _ (Or.inr (by omega))) ?_
                                                    rw [← hw203]; refine Eq.trans (e_up_ne _ _ (Or.inr (by omega))) ?_
                                                    rw [← hw200]; refine Eq.trans (e_up_ne _ _ (Or.inr (by omega))) ?_
                                                    rw [← hw197]; refine Eq.trans (e_up_ne _ _ (Or.inr (by omega))) ?_
                                                    exact (fun e => Eq.trans (q185 276 e no_9s_26) ((fun e => Eq.trans (q178 276 e no_9s_15) ((fun e => Eq.trans (show w172 276 e = w169 276 e from by rw [← hw172]; exact e_up_ne _ _ (Or.inl (by decide))) ((fun e => Eq.trans (show w169 276 e = w166 276 e from by rw [← hw169]; exact e_up_ne _ _ (Or.inl (by decide))) ((fun e => Eq.trans (show w166 276 e = w152 276 e from by rw [← hw166]; exact e_up_ne _ _ (Or.inl (by decide))) ((fun e => Eq.trans (show w152 276 e = w28 276 e from by rw [← hw152]; exact e_up_ne _ _ (Or.inl (by decide))) ((fun e => Eq.trans (q31 276 e no_9s_2) ((fun e => rfl) e)) e)) e)) e)) e)) e)) e)) k
                                                have hvT : e_Has mTy v1 := j212
                                                refine e_Ok.run (t' := (451, [(0, (1, 275)), (1, (0, p1)), (2, (0, p2)), (3, (0, p3)), (7, (0, zz)), (9, (0, y9))], [(0, p3), (0, p2), (0, p1), (0, 10), (1, 275)], v1)) 5 rfl ?_
                                                refine e_Ok.callV rfl (e_dq hd rfl) rfl rfl rfl rfl (c_423_a (e_dq hd rfl) hvT (Eq.trans (j211 275 6 no_9s_17) h6)) (fun r218 w219 h220 => ?_)
                                                obtain ⟨rfl, rfl⟩ := h220
                                                refine e_Ok.nrm (q := 454) (st' := []) rfl rfl ?_
                                                refine e_Ok.ps1 (x := (0, zz)) (q := 456) 1 rfl ?_
                                                refine e_Ok.rets rfl rfl ?_
                                                have hp8 : v1 275 118 = w 275 118 := Eq.trans (j214 275 118 (by decide)) (e_uq hw206 (Or.inl (by decide)) (e_uq hw203 (Or.inl (by decide)) (e_uq hw200 (Or.inl (by decide)) (e_uq hw197 (Or.inl (by decide)) ((q185 275 118 no_9s_5).trans ((q178 275 118 no_9s_9).trans (e_uq hw172 (Or.inr (by decide)) (e_uq hw169 (Or.inr (by decide)) (e_uq hw166 (Or.inr (by decide)) (e_ue hw152))))))))))
                                                exact ⟨_, rfl, j211, hvT, hp8, fun k => by rw [hwn k]; exact plN_eq (fun i g1 g2 => hfo i g1 g2) k⟩
                                              · replace h217 : (y9 : Int) < 1000 := Int.not_le.mp (show ¬ ((y9 : Int) ≥ 1000) from h217)
                                                refine e_Ok.ps1 (x := (1, 275)) (q := 405) 1 rfl ?_
                                                refine e_Ok.getr (z := 276) rfl (el_o rfl) rfl (ef_o rfl) ((j211 275 0 no_9s_20).trans (e_Has.eq hI.1 rfl)) ⟨by decide, by decide⟩ ?_
                                                refine e_Ok.ps3 (x := (0, p1)) (y := (0, 1000)) (z := (0, 21060)) (q := 415) 3 rfl ?_
                                                refine e_Ok.mul (z := 1000 * p1) rfl rfl (by omega) ?_
                                                refine e_Ok.add (z := 1000 * p1 + 21060) rfl (Int.add_comm _ _) (by omega) ?_
                                                refine e_Ok.ps1 (x := (0, y9)) (q := 419) 1 rfl ?_
                                                refine e_Ok.add (z := 1000 * p1 + y9 + 21060) rfl (by omega) (by omega) ?_
                                                refine e_Ok.ps2 (x := (0, zz)) (y := (0, y9)) (q := 424) 2 rfl ?_
                                                refine e_Ok.if2 rfl (fun h222 => ?_) (fun h222 => ?_)
                                                · replace h222 : (y9 : Int) ≥ zz := h222
                                                  refine e_Ok.ps1 (x := (0, 0)) (q := 438) 1 rfl ?_
                                                  refine e_Ok.ast rfl (el_o rfl) rfl rfl (by omega) ?_
                                                  generalize hw223 : e_up v1 276 (1000 * p1 + y9 + 21060) 0 = w223
                                                  have hT225 : e_Has mTy w223 := e_Has.upr j212 hw223 (nR_WAY (by omega)) (by omega)
                                                  refine e_Ok.inc (z := y9 + 1) rfl rfl (by first | with_reducible rfl | omega) (by omega) ?_
                                                  show e_Ok 20 elay ecode eI (d + 1) 418 (442, [(9, (0, y9 + 1)), (0, (1, 275)), (1, (0, p1)), (2, (0, p2)), (3, (0, p3)), (7, (0, zz))], [], w223) _
                                                  refine e_Ok.ps0 (q := 396) 1 rfl ?_
                                                  refine e_Ok.sub eAlk (e_sub_of rfl ?_) (ih210 (y9 + 1) w223 ⟨(show e_fr mPm w w223 from e_fr.up j211 hw223 (by first | exact Or.inl rfl | (unfold mPm; omega))), hT225, by omega, (fun c k q => Eq.trans (show w223 c k = v1 c k from by rw [← hw223]; exact e_up_ne _ _ (Or.inl q)) (j214 c k q)), (fun k q => Eq.trans (show w223 276 k = v1 276 k from by rw [← hw223]; exact e_up_ne _ _ (Or.inr (by omega))) (j215 k (by omega))), (fun i g1 g2 => Decidable.byCases (p := i = y9) (fun e => by rw [e, ← hw223, if_neg (by omega)]; exact e_up_eq _ _ _ _) (fun e => Eq.trans (show w223 276 (1000 * p1 + i + 21060) = v1 276 (1000 * p1 + i + 21060) from by rw [← hw223]; exact e_up_ne _ _ (Or.inr (by omega))) (j216 i g1 (by omega))))⟩ (by omega))
                                                  exact ⟨rfl, rfl, rfl, rfl, rfl, rfl, trivial⟩
                                                · replace h222 : (y9 : Int) < zz := Int.not_le.mp (show ¬ ((y9 : Int) ≥ zz) from h222)
                                                  have hfo2 : ∀ k, v1 353 k = w183 353 k := fun k => Eq.trans (j214 353 k (by decide)) ((fun e => Eq.trans (show w206 353 e = w203 353 e from by rw [← hw206]; exact e_up_ne _ _ (Or.inl (by decide))) ((fun e => Eq.trans (show w203 353 e = w200 353 e from by rw [← hw203]; exact e_up_ne _ _ (Or.inl (by decide))) ((fun e => Eq.trans (show w200 353 e = w197 353 e from by rw [← hw200]; exact e_up_ne _ _ (Or.inl (by decide))) ((fun e => Eq.trans (show w197 353 e = w183 353 e from by rw [← hw197]; exact e_up_ne _ _ (Or.inl (by decide))) ((fun e => rfl) e)) e)) e)) e)) k)
                                                  have hfy : 0 ≤ w183 353 y9 ∧ w183 353 y9 ≤ 11 := by rw [hfo y9 (by omega) (by omega)]; exact (hE4 y9 (by omega) (by omega)).2
                                                  refine e_Ok.ps1 (x := (1, 275)) (q := 428) 1 rfl ?_
                                                  refine e_Ok.getr (z := 353) rfl (el_o rfl) rfl (ef_o rfl) ((j211 275 113 no_9s_21).trans (e_Has.eq hI.1 rfl)) ⟨by decide, by decide⟩ ?_
                                                  refine e_Ok.ps1 (x := (0, y9)) (q := 433) 1 rfl ?_
                                                  refine e_Ok.ald (z := w183 353 y9) rfl (el_o rfl) rfl (by omega) (hfo2 y9) (by omega) ?_
                                                  refine e_Ok.ps0 (q := 438) 1 rfl ?_
                                                  refine e_Ok.ast rfl (el_o rfl) rfl rfl (by omega) ?_
                                                  generalize hw226 : e_up v1 276 (1000 * p1 + y9 + 21060) (w183 353 y9) = w226
                                                  have hT228 : e_Has mTy w226 := e_Has.upr j212 hw226 (nR_WAY (by omega)) (by omega)
                                                  refine e_Ok.inc (z := y9 + 1) rfl rfl (by first | with_reducible rfl | omega) (by omega) ?_
                                                  show e_Ok 20 elay ecode eI (d + 1) 418 (442, [(9, (0, y9 + 1)), (0, (1, 275)), (1, (0, p1)), (2, (0, p2)), (3, (0, p3)), (7, (0, zz))], [], w226) _
                                                  refine e_Ok.ps0 (q := 396) 1 rfl ?_
                                                  refine e_Ok.sub eAlk (e_sub_of rfl ?_) (ih210 (y9 + 1) w226 ⟨(show e_fr mPm w w226 from e_fr.up j211 hw226 (by first | exact Or.inl rfl | (unfold mPm; omega))), hT228, by omega, (fun c k q => Eq.trans (show w226 c k = v1 c k from by rw [← hw226]; exact e_up_ne _ _ (Or.inl q)) (j214 c k q)), (fun k q => Eq.trans (show w226 276 k = v1 276 k from by rw [← hw226]; exact e_up_ne _ _ (Or.inr (by omega))) (j215 k (by omega))), (fun i g1 g2 => Decidable.byCases (p := i = y9) (fun e => by rw [e, ← hw226, if_pos (by omega)]; exact e_up_eq _ _ _ _) (fun e => Eq.trans (show w226 276 (1000 * p1 + i + 21060) = v1 276 (1000 * p1 + i + 21060) from by rw [← hw226]; exact e_up_ne _ _ (Or.inr (by omega))) (j216 i g1 (by omega))))⟩ (by omega))
                                                  exact ⟨rfl, rfl, rfl, rfl, rfl, rfl, trivial⟩
                                          refine e_Ok.sub eAlk (e_sub_of rfl ?_) (hL209 (1001 + 1 : Int).toNat 0 w206 ⟨(show e_fr mPm w w206 from e_fr.up (show e_fr mPm w w203 from e_fr.up (show e_fr mPm w w200 from e_fr.up (show e_fr mPm w w197 from e_fr.up f186 hw197 (by first | exact Or.inl rfl | (unfold mPm; omega))) hw200 (by first | exact Or.inl rfl | (unfold mPm; omega))) hw203 (by first | exact Or.inl rfl | (unfold mPm; omega))) hw206 (by first | exact Or.inl rfl | (unfold mPm; omega))), hT208, by omega, (fun c k _ => rfl), (fun k _ => rfl), (fun i g1 g2 => by omega)⟩ (by omega))
                                          exact ⟨rfl, rfl, rfl, rfl, rfl, rfl, trivial⟩
                                        · replace h193 : (0 : Int) ≠ 0 := (show ¬ ((0 : Int) = 0) from h193)
                                          exfalso; omega
                                      · replace h187 : (zz : Int) < 0 := Int.not_le.mp (show ¬ ((zz : Int) ≥ 0) from h187)
                                        exfalso; omega
                                · replace h165 : (y7 : Int) < m := Int.not_le.mp (show ¬ ((y7 : Int) ≥ m) from h165)
                                  refine e_Ok.ps1 (x := (1, 275)) (q := 135) 1 rfl ?_
                                  refine e_Ok.getr (z := 276) rfl (el_o rfl) rfl (ef_o rfl) (e_uq hw152 (Or.inr (by decide)) ((q31 275 0 no_9s_0).trans (e_Has.eq hI.1 rfl))) ⟨by decide, by decide⟩ ?_
                                  refine e_Ok.ps2 (x := (0, y7)) (y := (0, 8)) (q := 142) 2 rfl ?_
                                  refine e_Ok.add (z := y7 + 8) rfl (Int.add_comm _ _) (by omega) ?_
                                  have h229 := (e_Has.now hI.1 (y7 + 8))
                                  refine e_Ok.ald (z := w 276 (y7 + 8)) rfl (el_o rfl) rfl (by omega) (e_uq hw152 (Or.inl (by decide)) ((q31 276 (y7 + 8) no_9s_2).trans rfl)) (by omega) ?_
                                  refine e_Ok.run (t' := (150, [(8, (0, w 276 (y7 + 8))), (0, (1, 275)), (1, (0, p1)), (2, (0, p2)), (3, (0, p3)), (4, (0, z30)), (5, (0, y5)), (6, (0, y6)), (7, (0, y7))], [(1, 275), (4, w 276 (y7 + 8))], w152)) 4 rfl ?_
                                  refine e_Ok.getr (z := 288) rfl (el_o rfl) rfl (ef_o rfl) (e_uq hw152 (Or.inr (by decide)) ((q31 275 17 no_9s_0).trans (e_Has.eq hI.1 rfl))) ⟨by decide, by decide⟩ ?_
                                  refine e_Ok.ps2 (x := (0, p1)) (y := (0, 6)) (q := 156) 2 rfl ?_
                                  refine e_Ok.mul (z := 6 * p1) rfl rfl (by omega) ?_
                                  refine e_Ok.ps1 (x := (0, y7)) (q := 159) 1 rfl ?_
                                  refine e_Ok.add (z := 6 * p1 + y7) rfl rfl (by omega) ?_
                                  have h230 := (e_Has.get hI.1 (c := 288) (k := 6 * p1 + y7) (lo := (-100000)) (hi := 0) rfl (by decide))
                                  refine e_Ok.ald (z := w 288 (6 * p1 + y7)) rfl (el_o rfl) rfl (by omega) (e_uq hw152 (Or.inl (by decide)) ((q31 288 (6 * p1 + y7) no_9s_3).trans rfl)) (e_bq h230 (by decide) (by decide)) ?_
                                  refine e_Ok.run (t' := (163, [(8, (0, w 276 (y7 + 8))), (0, (1, 275)), (1, (0, p1)), (2, (0, p2)), (3, (0, p3)), (4, (0, z30)), (5, (0, y5)), (6, (0, y6)), (7, (0, y7))], [(1, 275), (4, w 288 (6 * p1 + y7)), (4, w 276 (y7 + 8))], w152)) 2 rfl ?_
                                  refine e_Ok.getr (z := 289) rfl (el_o rfl) rfl (ef_o rfl) (e_uq hw152 (Or.inr (by decide)) ((q31 275 18 no_9s_0).trans (e_Has.eq hI.1 rfl))) ⟨by decide, by decide⟩ ?_
                                  refine e_Ok.ps2 (x := (0, p1)) (y := (0, 6)) (q := 169) 2 rfl ?_
                                  refine e_Ok.mul (z := 6 * p1) rfl rfl (by omega) ?_
                                  refine e_Ok.ps1 (x := (0, y7)) (q := 172) 1 rfl ?_
                                  refine e_Ok.add (z := 6 * p1 + y7) rfl rfl (by omega) ?_
                                  have h231 := (e_Has.get hI.1 (c := 289) (k := 6 * p1 + y7) (lo := 0) (hi := 100000) rfl (by decide))
                                  refine e_Ok.ald (z := w 289 (6 * p1 + y7)) rfl (el_o rfl) rfl (by omega) (e_uq hw152 (Or.inl (by decide)) ((q31 289 (6 * p1 + y7) no_9s_4).trans rfl)) (e_bq h231 (by decide) (by decide)) ?_
                                  refine e_Ok.run (t' := (175, [(8, (0, w 276 (y7 + 8))), (0, (1, 275)), (1, (0, p1)), (2, (0, p2)), (3, (0, p3)), (4, (0, z30)), (5, (0, y5)), (6, (0, y6)), (7, (0, y7))], [(4, w 289 (6 * p1 + y7)), (4, w 288 (6 * p1 + y7)), (4, w 276 (y7 + 8))], w152)) 1 rfl ?_
                                  refine e_Ok.callS rfl (e_dq hd rfl) rfl rfl (c_266) (fun r232 w233 h234 => ?_)
                                  obtain ⟨z235, rfl, rfl, q236⟩ := h234
                                  obtain ⟨rfl, q236⟩ | ⟨rfl, q236⟩ := q236
                                  · refine e_Ok.nrm (q := 178) (st' := [(0, 1)]) rfl rfl ?_
                                    refine e_Ok.if1 rfl (fun h237 => ?_) (fun h237 => ?_)
                                    · replace h237 : (1 : Int) = 0 := h237
                                      exfalso; omega
                                    · replace h237 : (1 : Int) ≠ 0 := (show ¬ ((1 : Int) = 0) from h237)
                                      refine e_Ok.ps2 (x := (1, 275)) (y := (0, w 276 (y7 + 8))) (q := 184) 2 rfl ?_
                                      refine e_Ok.getr (z := 348) rfl (el_o rfl) rfl (ef_o rfl) (e_uq hw152 (Or.inr (by decide)) ((q31 275 105 no_9s_0).trans (e_Has.eq hI.1 rfl))) ⟨by decide, by decide⟩ ?_
                                      refine e_Ok.ps1 (x := (0, y7)) (q := 189) 1 rfl ?_
                                      have h238 := (hf8 y7 (by omega) (by omega))
                                      refine e_Ok.ald (z := w28 348 y7) rfl (el_o rfl) rfl (by omega) (e_uq hw152 (Or.inl (by decide)) rfl) (by omega) ?_
                                      refine e_Ok.sub' (z := w 276 (y7 + 8) - w28 348 y7) rfl rfl (by omega) ?_
                                      refine e_Ok.ps1 (x := (0, p2)) (q := 192) 1 rfl ?_
                                      refine e_Ok.remd rfl (by omega) (by omega) (fun z239 hz239 z239a z239b => ?_)
                                      have hz2390 : z239 = 0 := hz239.2 (by obtain ⟨qq, hqq⟩ := (hA.2.2.2.2 y7 (by omega) (by rw [hmq]; omega)).2; exact ⟨qq, by rw [(q31J y7 (by omega) (by omega)).1]; exact hqq⟩)
                                      refine e_Ok.if1 rfl (fun h240 => ?_) (fun h240 => ?_)
                                      · replace h240 : (z239 : Int) = 0 := h240
                                        refine e_Ok.run (t' := (204, [(8, (0, w 276 (y7 + 8))), (0, (1, 275)), (1, (0, p1)), (2, (0, p2)), (3, (0, p3)), (4, (0, z30)), (5, (0, y5)), (6, (0, y6)), (7, (0, y7))], [(0, y7), (1, 275), (0, y5)], w152)) 3 rfl ?_
                                        refine e_Ok.callV rfl (e_dq hd rfl) rfl rfl rfl rfl (c_411_f hT154 (fun k => Eq.trans ((fun e => Eq.trans (show w152 347 e = w28 347 e from by rw [← hw152]; exact e_up_ne _ _ (Or.inl (by decide))) ((fun e => rfl) e)) k) (hf k)) (by omega) (by omega) hfN hFp) (fun r241 w242 h243 => ?_)
                                        obtain ⟨q244, rfl⟩ := h243
                                        obtain ⟨z245, hz245⟩ : ∃ z, z = prd f y7.toNat := ⟨_, rfl⟩
                                        rw [← hz245] at q244; subst q244
                                        have z245b := (show 1 ≤ z245 ∧ z245 ≤ 1000 from by rw [hz245]; exact prd_bd (by omega) (by omega) hfN hFp)
                                        show e_Ok 20 elay ecode eI (d + 1) 418 (207, [(8, (0, w 276 (y7 + 8))), (0, (1, 275)), (1, (0, p1)), (2, (0, p2)), (3, (0, p3)), (4, (0, z30)), (5, (0, y5)), (6, (0, y6)), (7, (0, y7))], [(0, z245), (0, y5)], w152) _
                                        refine e_Ok.ps1 (x := (1, 275)) (q := 208) 1 rfl ?_
                                        refine e_Ok.getr (z := 276) rfl (el_o rfl) rfl (ef_o rfl) (e_uq hw152 (Or.inr (by decide)) ((q31 275 0 no_9s_0).trans (e_Has.eq hI.1 rfl))) ⟨by decide, by decide⟩ ?_
                                        refine e_Ok.ps1 (x := (0, p1)) (q := 212) 1 rfl ?_
                                        refine e_Ok.callS rfl (e_dq hd rfl) rfl rfl (c_268 (by omega)) (fun r246 w247 h248 => ?_)
                                        obtain ⟨rfl, rfl⟩ := h248
                                        refine e_Ok.nrm (q := 215) (st' := [(0, 36 * p1 + 16), (1, 276), (0, z245), (0, y5)]) rfl rfl ?_
                                        refine e_Ok.ps1 (x := (0, 16)) (q := 217) 1 rfl ?_
                                        refine e_Ok.add (z := 36 * p1 + 32) rfl (e_adl (by decide)) (by omega) ?_
                                        refine e_Ok.ps1 (x := (0, y7)) (q := 220) 1 rfl ?_
                                        refine e_Ok.add (z := 36 * p1 + y7 + 32) rfl (by omega) (by omega) ?_
                                        have h249 := (e_Has.get hI.1 (c := 276) (k := 36 * p1 + y7 + 32) (lo := (-100000)) (hi := 100000) (nR_VALUE (a := p1) (j := y7) (by omega) (by omega)) (by decide))
                                        refine e_Ok.ald (z := w 276 (36 * p1 + y7 + 32)) rfl (el_o rfl) rfl (by omega) (e_uq hw152 (Or.inl (by decide)) ((q31 276 (36 * p1 + y7 + 32) no_9s_2).trans rfl)) (e_bq h249 (by decide) (by decide)) ?_
                                        refine e_Ok.ps1 (x := (1, 275)) (q := 223) 1 rfl ?_
                                        refine e_Ok.getr (z := 348) rfl (el_o rfl) rfl (ef_o rfl) (e_uq hw152 (Or.inr (by decide)) ((q31 275 105 no_9s_0).trans (e_Has.eq hI.1 rfl))) ⟨by decide, by decide⟩ ?_
                                        refine e_Ok.ps1 (x := (0, y7)) (q := 228) 1 rfl ?_
                                        refine e_Ok.ald (z := w28 348 y7) rfl (el_o rfl) rfl (by omega) (e_uq hw152 (Or.inl (by decide)) rfl) (by omega) ?_
                                        refine e_Ok.sub' (z := w 276 (36 * p1 + y7 + 32) - w28 348 y7) rfl rfl (by omega) ?_
                                        refine e_Ok.ps1 (x := (0, p2)) (q := 231) 1 rfl ?_
                                        have hgdF := gr_in (q31J y7 (by omega) (by omega)) (by omega) (hV y7 (by omega) (by omega)) (hV y7 (by omega) (by omega)) (gr_val (q31J y7 (by omega) (by omega)))
                                        have hgdFx : 0 ≤ w 276 (36 * p1 + y7 + 32) - w28 348 y7 := by rw [gr_val (q31J y7 (by omega) (by omega))]; exact Int.mul_nonneg hgdF.1.1 (by omega)
                                        have hVy := hV y7 (by omega) (by omega)
                                        refine e_Ok.divn (fun z250 hz250 => ?_) rfl (by omega) (by omega)
                                        replace hz250 : z250 = dF y7 := Eq.trans hz250 (hdF y7).symm
                                        have z250b : 0 ≤ dF y7 ∧ dF y7 < f y7 := by rw [hdF y7, hgdF.2, ← hf y7]; exact hgdF.1
                                        have hsdF : smd f dF (y7 + 1).toNat = y5 + z245 * z250 := by rw [show (y7 + 1).toNat = y7.toNat + 1 by omega]; show smd f dF y7.toNat + prd f y7.toNat * dF (y7.toNat : Int) = _; rw [← j158, ← hz245, show ((y7.toNat : Nat) : Int) = y7 by omega, ← hz250]
                                        have hbdF : ∀ k, 0 ≤ k → k < y7 + 1 → 0 ≤ dF k ∧ dF k < f k := fun k g1 g2 => Decidable.byCases (p := k = y7) (fun e => by rw [e]; exact z250b) (fun e => j160 k g1 (by omega))
                                        have hidF := smd_in (f := f) (d := dF) (n := (y7 + 1).toNat) (fun k g1 g2 => hbdF k g1 (by omega))
                                        have hjdF := prd_bd (f := f) (m := m) (j := y7 + 1) (by omega) (by omega) hfN hFp
                                        rw [hsdF] at hidF
                                        have hzdF : 0 ≤ z250 := by rw [hz250]; exact z250b.1
                                        have hkdF : 0 ≤ z245 * z250 := Int.mul_nonneg (by omega) hzdF
                                        have hldF : z250 ≤ 200001 := by have h1 := hfN y7 (by omega) (by omega); rw [hz250]; omega
                                        refine e_Ok.mul (z := z245 * z250) rfl (by omega) (by omega) ?_
                                        refine e_Ok.add (z := y5 + z245 * z250) rfl rfl (by omega) ?_
                                        refine e_Ok.run (t' := (241, [(5, (0, y5 + z245 * z250)), (8, (0, w 276 (y7 + 8))), (0, (1, 275)), (1, (0, p1)), (2, (0, p2)), (3, (0, p3)), (4, (0, z30)), (6, (0, y6)), (7, (0, y7))], [(0, y7), (1, 275), (0, y6)], w152)) 4 rfl ?_
                                        refine e_Ok.callV rfl (e_dq hd rfl) rfl rfl rfl rfl (c_411_f hT154 (fun k => Eq.trans ((fun e => Eq.trans (show w152 347 e = w28 347 e from by rw [← hw152]; exact e_up_ne _ _ (Or.inl (by decide))) ((fun e => rfl) e)) k) (hf k)) (by omega) (by omega) hfN hFp) (fun r251 w252 h253 => ?_)
                                        obtain ⟨q254, rfl⟩ := h253
                                        obtain ⟨z255, hz255⟩ : ∃ z, z = prd f y7.toNat := ⟨_, rfl⟩
                                        rw [← hz255] at q254; subst q254
                                        have z255b := (show 1 ≤ z255 ∧ z255 ≤ 1000 from by rw [hz255]; exact prd_bd (by omega) (by omega) hfN hFp)
                                        show e_Ok 20 elay ecode eI (d + 1) 418 (244, [(5, (0, y5 + z245 * z250)), (8, (0, w 276 (y7 + 8))), (0, (1, 275)), (1, (0, p1)), (2, (0, p2)), (3, (0, p3)), (4, (0, z30)), (6, (0, y6)), (7, (0, y7))], [(0, z255), (0, y6)], w152) _
                                        refine e_Ok.ps2 (x := (1, 275)) (y := (0, w 276 (y7 + 8))) (q := 247) 2 rfl ?_
                                        refine e_Ok.getr (z := 348) rfl (el_o rfl) rfl (ef_o rfl) (e_uq hw152 (Or.inr (by decide)) ((q31 275 105 no_9s_0).trans (e_Has.eq hI.1 rfl))) ⟨by decide, by decide⟩ ?_
                                        refine e_Ok.ps1 (x := (0, y7)) (q := 252) 1 rfl ?_
                                        refine e_Ok.ald (z := w28 348 y7) rfl (el_o rfl) rfl (by omega) (e_uq hw152 (Or.inl (by decide)) rfl) (by omega) ?_
                                        refine e_Ok.sub' (z := w 276 (y7 + 8) - w28 348 y7) rfl rfl (by omega) ?_
                                        refine e_Ok.ps1 (x := (0, p2)) (q := 255) 1 rfl ?_
                                        obtain ⟨qa, hqa⟩ := hz239.1 (by omega)
                                        have hgdT := gr_in (q31J y7 (by omega) (by omega)) (by omega) (hV y7 (by omega) (by omega)) (x := w 276 (y7 + 8)) ⟨by omega, by omega⟩ hqa
                                        have hgdTx : 0 ≤ w 276 (y7 + 8) - w28 348 y7 := by rw [hqa]; exact Int.mul_nonneg hgdT.1.1 (by omega)
                                        have hVy := hV y7 (by omega) (by omega)
                                        refine e_Ok.divn (fun z256 hz256 => ?_) rfl (by omega) (by omega)
                                        replace hz256 : z256 = dT y7 := Eq.trans hz256 (hdT y7).symm
                                        have z256b : 0 ≤ dT y7 ∧ dT y7 < f y7 := by rw [hdT y7, hgdT.2, ← hf y7]; exact hgdT.1
                                        have hsdT : smd f dT (y7 + 1).toNat = y6 + z255 * z256 := by rw [show (y7 + 1).toNat = y7.toNat + 1 by omega]; show smd f dT y7.toNat + prd f y7.toNat * dT (y7.toNat : Int) = _; rw [← j159, ← hz255, show ((y7.toNat : Nat) : Int) = y7 by omega, ← hz256]
                                        have hbdT : ∀ k, 0 ≤ k → k < y7 + 1 → 0 ≤ dT k ∧ dT k < f k := fun k g1 g2 => Decidable.byCases (p := k = y7) (fun e => by rw [e]; exact z256b) (fun e => j161 k g1 (by omega))
                                        have hidT := smd_in (f := f) (d := dT) (n := (y7 + 1).toNat) (fun k g1 g2 => hbdT k g1 (by omega))
                                        have hjdT := prd_bd (f := f) (m := m) (j := y7 + 1) (by omega) (by omega) hfN hFp
                                        rw [hsdT] at hidT
                                        have hzdT : 0 ≤ z256 := by rw [hz256]; exact z256b.1
                                        have hkdT : 0 ≤ z255 * z256 := Int.mul_nonneg (by omega) hzdT
                                        have hldT : z256 ≤ 200001 := by have h1 := hfN y7 (by omega) (by omega); rw [hz256]; omega
                                        refine e_Ok.mul (z := z255 * z256) rfl (by omega) (by omega) ?_
                                        refine e_Ok.add (z := y6 + z255 * z256) rfl rfl (by omega) ?_
                                        refine e_Ok.run (t' := (260, [(6, (0, y6 + z255 * z256)), (5, (0, y5 + z245 * z250)), (8, (0, w 276 (y7 + 8))), (0, (1, 275)), (1, (0, p1)), (2, (0, p2)), (3, (0, p3)), (4, (0, z30)), (7, (0, y7))], [], w152)) 1 rfl ?_
                                        refine e_Ok.inc (z := y7 + 1) rfl rfl (by first | with_reducible rfl | omega) (by omega) ?_
                                        show e_Ok 20 elay ecode eI (d + 1) 418 (263, [(7, (0, y7 + 1)), (6, (0, y6 + z255 * z256)), (5, (0, y5 + z245 * z250)), (8, (0, w 276 (y7 + 8))), (0, (1, 275)), (1, (0, p1)), (2, (0, p2)), (3, (0, p3)), (4, (0, z30))], [], w152) _
                                        refine e_Ok.ps0 (q := 123) 1 rfl ?_
                                        refine e_Ok.sub eAlk (e_sub_of rfl ?_) (ih156 (y5 + z245 * z250) (y6 + z255 * z256) (y7 + 1) ⟨by omega, hsdF.symm, hsdT.symm, hbdF, hbdT, (fun k g1 g2 => Decidable.byCases (p := k = y7) (fun e => by rw [e]; exact ⟨⟨by omega, by omega⟩, qa, hqa⟩) (fun e => j162 k g1 (by omega))), by omega, by omega⟩ (by omega))
                                        exact ⟨rfl, rfl, rfl, rfl, rfl, rfl, rfl, rfl, trivial⟩
                                      · replace h240 : (z239 : Int) ≠ 0 := (show ¬ ((z239 : Int) = 0) from h240)
                                        refine e_Ok.run (t' := (198, [(8, (0, w 276 (y7 + 8))), (0, (1, 275)), (1, (0, p1)), (2, (0, p2)), (3, (0, p3)), (4, (0, z30)), (5, (0, y5)), (6, (0, y6)), (7, (0, y7))], [(0, (-2))], w152)) 1 rfl ?_
                                        refine e_Ok.rets rfl rfl ?_
                                        exfalso; first | omega | (rw [hfe] at q31z; have := hA.2.2.2.1; rw [hmq] at this; omega) | (have := (hA.2.2.2.2 y7 (by omega) (by rw [hmq]; omega)).1; omega)
                                  · refine e_Ok.nrm (q := 178) (st' := [(0, 0)]) rfl rfl ?_
                                    refine e_Ok.if1 rfl (fun h257 => ?_) (fun h257 => ?_)
                                    · replace h257 : (0 : Int) = 0 := h257
                                      refine e_Ok.ps1 (x := (0, (-2))) (q := 198) 1 rfl ?_
                                      refine e_Ok.rets rfl rfl ?_
                                      exfalso; first | omega | (rw [hfe] at q31z; have := hA.2.2.2.1; rw [hmq] at this; omega) | (have := (hA.2.2.2.2 y7 (by omega) (by rw [hmq]; omega)).1; omega)
                                    · replace h257 : (0 : Int) ≠ 0 := (show ¬ ((0 : Int) = 0) from h257)
                                      exfalso; omega
                            refine e_Ok.sub eAlk (e_sub_of rfl ?_) (hL155 (7 + 1 : Int).toNat 0 0 0 ⟨by omega, rfl, rfl, (fun k g1 g2 => by omega), (fun k g1 g2 => by omega), (fun k g1 g2 => by omega), by omega, by omega⟩ (by omega))
                            exact ⟨rfl, rfl, rfl, rfl, rfl, rfl, rfl, rfl, trivial⟩
                        · replace h150 : (1 : Int) = 0 := Classical.not_not.mp (show ¬ ((1 : Int) ≠ 0) from h150)
                          exfalso; omega
                · replace h26 : (w 276 (36 * p1 + 16) : Int) ≠ 0 := (show ¬ ((w 276 (36 * p1 + 16) : Int) = 0) from h26)
                  refine e_Ok.ps1 (x := (0, (-2))) (q := 57) 1 rfl ?_
                  refine e_Ok.rets rfl rfl ?_
                  exfalso; first | omega | (rw [hfe] at q31z; have := hA.2.2.2.1; rw [hmq] at this; omega) | (have := (hA.2.2.2.2 y7 (by omega) (by rw [hmq]; omega)).1; omega)
            · replace h19 : (1 : Int) = 0 := Classical.not_not.mp (show ¬ ((1 : Int) ≠ 0) from h19)
              exfalso; omega
          · refine e_Ok.nrm (q := 29) (st' := [(0, 0)]) rfl rfl ?_
            refine e_Ok.if1 rfl (fun h258 => ?_) (fun h258 => ?_)
            · replace h258 : (0 : Int) ≠ 0 := h258
              exfalso; omega
            · replace h258 : (0 : Int) = 0 := Classical.not_not.mp (show ¬ ((0 : Int) ≠ 0) from h258)
              refine e_Ok.ps1 (x := (0, (-1))) (q := 33) 1 rfl ?_
              refine e_Ok.rets rfl rfl ?_
              exfalso; first | omega | (rw [hfe] at q31z; have := hA.2.2.2.1; rw [hmq] at this; omega) | (have := (hA.2.2.2.2 y7 (by omega) (by rw [hmq]; omega)).1; omega)
      · refine e_Ok.nrm (q := 17) (st' := [(0, 0)]) rfl rfl ?_
        refine e_Ok.if1 rfl (fun h259 => ?_) (fun h259 => ?_)
        · replace h259 : (0 : Int) = 0 := h259
          refine e_Ok.ps1 (x := (0, (-1))) (q := 33) 1 rfl ?_
          refine e_Ok.rets rfl rfl ?_
          exfalso; first | omega | (rw [hfe] at q31z; have := hA.2.2.2.1; rw [hmq] at this; omega) | (have := (hA.2.2.2.2 y7 (by omega) (by rw [hmq]; omega)).1; omega)
        · replace h259 : (0 : Int) ≠ 0 := (show ¬ ((0 : Int) = 0) from h259)
          exfalso; omega
  · refine e_Ok.nrm (q := 5) (st' := [(0, 0)]) rfl rfl ?_
    refine e_Ok.if1 rfl (fun h260 => ?_) (fun h260 => ?_)
    · replace h260 : (0 : Int) = 0 := h260
      refine e_Ok.ps1 (x := (0, (-1))) (q := 33) 1 rfl ?_
      refine e_Ok.rets rfl rfl ?_
      exfalso; first | omega | (rw [hfe] at q31z; have := hA.2.2.2.1; rw [hmq] at this; omega) | (have := (hA.2.2.2.2 y7 (by omega) (by rw [hmq]; omega)).1; omega)
    · replace h260 : (0 : Int) ≠ 0 := (show ¬ ((0 : Int) = 0) from h260)
      exfalso; omega
end
