noncomputable section
/-! the law's loop -/
theorem e_GS.sw {code : Nat → Nat → eE} {M p a b : Nat} {l : eL} {r : List eV} {w : eW} {G : eS → Prop} (hG : e_GS code M G) {x : Int} {tg : Nat} {arms : List (Int × Int × Nat)} (hc : code M p = (0, ei_sw arms, a, b)) (ht : e_arm x arms = some tg) (h : G (tg, l, r, w)) : G (p, l, (0, x) :: r, w) := by
  refine hG.step hc ?_ h
  show (match e_arm x arms with | some tg => _ | none => none) = _
  rw [ht]
theorem L_and63 (n : Int32) : ∃ z : Int, eB (fun x y => x &&& y) n.toInt 63 = some z ∧ 0 ≤ z ∧ z ≤ 63 := by
  refine ⟨(n &&& 63).toInt, ?_, ?_⟩
  · show some _ = some _
    rw [Int32.ofInt_toInt]
    rfl
  · obtain ⟨j, hj, e⟩ := pk_andE n (m := 63) 6 (by decide)
    rw [e]
    have : (nI j).toInt = (j : Int) := Int32.toInt_ofNat_of_lt (by omega)
    rw [this]
    omega
set_option maxHeartbeats 4000000 in
theorem law_loop {L : Nat} {xs : Nat → Int32} {G : eS → Prop} (hS : e_GS (codeL L xs) 0 G) (hCk : law_GC L xs kcode Bk G) (hCm : law_GC L xs ecode Bm G) (hL2 : L ≤ 3072) (hE : ∀ (i : Int) (u : eW), G (2149, [(3, (0, i)), (0, (1, 362)), (1, (1, 0)), (2, (1, 275))], [(0, 1)], u)) : ∀ (n : Nat) (i : Int) (u : eW), lwS u → 0 ≤ i → i ≤ (L : Int) + 6 → (L : Int) + 7 - i ≤ n → G (18, [(3, (0, i)), (0, (1, 362)), (1, (1, 0)), (2, (1, 275))], [], u) := by
  intro n
  induction n with
  | zero => intro i u hR hi hm hn; exfalso; omega
  | succ n ih =>
    intro i u hR hi hm hn
    refine e_GS.run hS (t' := (20, [(3, (0, i)), (0, (1, 362)), (1, (1, 0)), (2, (1, 275))], [(1, 362), (0, i)], u)) 2 rfl ?_
    refine e_GS.step hS (t' := (21, [(3, (0, i)), (0, (1, 362)), (1, (1, 0)), (2, (1, 275))], [(0, (L : Int)), (0, i)], u)) rfl rfl ?_
    refine e_GS.run hS (t' := (23, [(3, (0, i)), (0, (1, 362)), (1, (1, 0)), (2, (1, 275))], [(0, 6), (0, (L : Int)), (0, i)], u)) 1 rfl ?_
    have e6 : eF_sub (L : Int) 6 = some ((L : Int) - 6) := by
      show some (e32 ((L : Int) - 6)) = _
      rw [e32_id (by omega) (by omega)]
    refine e_GS.step hS (t' := (24, [(3, (0, i)), (0, (1, 362)), (1, (1, 0)), (2, (1, 275))], [(0, (L : Int) - 6), (0, i)], u)) rfl (j_bin e6) ?_
    refine e_GS.if2 hS rfl (fun h => ?_) (fun h => ?_)
    · refine e_GS.run hS (t' := (2149, [(3, (0, i)), (0, (1, 362)), (1, (1, 0)), (2, (1, 275))], [(0, 1)], u)) 1 rfl ?_
      exact hE i u
    · replace h : ¬ i > (L : Int) - 6 := h
      refine e_GS.run hS (t' := (29, [(3, (0, i)), (0, (1, 362)), (1, (1, 0)), (2, (1, 275))], [(0, i), (1, 362)], u)) 2 rfl ?_
      refine e_GS.step hS (t' := (30, [(3, (0, i)), (0, (1, 362)), (1, (1, 0)), (2, (1, 275))], [(0, (xs i.toNat).toInt)], u)) rfl ?_ ?_
      · have e : g_scd L xs 30 [(0, i), (1, 362)] = some (30, [(0, (xs i.toNat).toInt)]) := if_pos ⟨rfl, by omega, by omega⟩
        show (g_scd L xs 30 [(0, i), (1, 362)]).map _ = _
        rw [e]
        rfl
      refine e_GS.run hS (t' := (32, [(3, (0, i)), (0, (1, 362)), (1, (1, 0)), (2, (1, 275))], [(0, 63), (0, (xs i.toNat).toInt)], u)) 1 rfl ?_
      obtain ⟨z, hz, z0, z1⟩ := L_and63 (xs i.toNat)
      refine e_GS.step hS (t' := (33, [(3, (0, i)), (0, (1, 362)), (1, (1, 0)), (2, (1, 275))], [(0, z)], u)) rfl (j_bin hz) ?_
      have hK : ∀ v, lwS v → G (2142, [(3, (0, i)), (0, (1, 362)), (1, (1, 0)), (2, (1, 275))], [], v) := fun v hv => by
        refine e_GS.step hS (t' := (2145, [(3, (0, i + 6)), (0, (1, 362)), (1, (1, 0)), (2, (1, 275))], [], v)) rfl ?_ ?_
        · show some (2145, (3, (0, e32 (i + 6))) :: _, _, _) = _
          rw [e32_id (by omega) (by omega)]
          rfl
        refine e_GS.run hS (t' := (18, [(3, (0, i + 6)), (0, (1, 362)), (1, (1, 0)), (2, (1, 275))], [], v)) 1 rfl ?_
        exact ih (i + 6) v hv (by omega) (by omega) (by omega)
      obtain ⟨k, rfl⟩ : ∃ k : Nat, z = k := ⟨z.toNat, by omega⟩
      match k, (show k < 64 by omega) with
      | 0, _ => exact e_GS.sw hS rfl rfl (law5_arm_0 hS hCk hCm hR hi (by omega) hL2 hK)
      | 1, _ => exact e_GS.sw hS rfl rfl (law5_arm_1 hS hCk hCm hR hi (by omega) hL2 hK)
      | 2, _ => exact e_GS.sw hS rfl rfl (law5_arm_2 hS hCk hCm hR hi (by omega) hL2 hK)
      | 3, _ => exact e_GS.sw hS rfl rfl (law5_arm_3 hS hCk hCm hR hi (by omega) hL2 hK)
      | 4, _ => exact e_GS.sw hS rfl rfl (law5_arm_4 hS hCk hCm hR hi (by omega) hL2 hK)
      | 5, _ => exact e_GS.sw hS rfl rfl (law5_arm_5 hS hCk hCm hR hi (by omega) hL2 hK)
      | 6, _ => exact e_GS.sw hS rfl rfl (law5_arm_6 hS hCk hCm hR hi (by omega) hL2 hK)
      | 7, _ => exact e_GS.sw hS rfl rfl (law5_arm_7 hS hCk hCm hR hi (by omega) hL2 hK)
      | 8, _ => exact e_GS.sw hS rfl rfl (law5_arm_8 hS hCk hCm hR hi (by omega) hL2 hK)
      | 9, _ => exact e_GS.sw hS rfl rfl (law5_arm_9 hS hCk hCm hR hi (by omega) hL2 hK)
      | 10, _ => exact e_GS.sw hS rfl rfl (law5_arm_10 hS hCk hCm hR hi (by omega) hL2 hK)
      | 11, _ => exact e_GS.sw hS rfl rfl (law5_arm_11 hS hCk hCm hR hi (by omega) hL2 hK)
      | 12, _ => exact e_GS.sw hS rfl rfl (law5_arm_12 hS hCk hCm hR hi (by omega) hL2 hK)
      | 13, _ => exact e_GS.sw hS rfl rfl (law5_arm_13 hS hCk hCm hR hi (by omega) hL2 hK)
      | 14, _ => exact e_GS.sw hS rfl rfl (law5_arm_14 hS hCk hCm hR hi (by omega) hL2 hK)
      | 15, _ => exact e_GS.sw hS rfl rfl (law5_arm_15 hS hCk hCm hR hi (by omega) hL2 hK)
      | 16, _ => exact e_GS.sw hS rfl rfl (law5_arm_16 hS hCk hCm hR hi (by omega) hL2 hK)
      | 17, _ => exact e_GS.sw hS rfl rfl (law5_arm_17 hS hCk hCm hR hi (by omega) hL2 hK)
      | 18, _ => exact e_GS.sw hS rfl rfl (law5_arm_18 hS hCk hCm hR hi (by omega) hL2 hK)
      | 19, _ => exact e_GS.sw hS rfl rfl (law5_arm_19 hS hCk hCm hR hi (by omega) hL2 hK)
      | 20, _ => exact e_GS.sw hS rfl rfl (law5_arm_20 hS hCk hCm hR hi (by omega) hL2 hK)
      | 21, _ => exact e_GS.sw hS rfl rfl (law5_arm_21 hS hCk hCm hR hi (by omega) hL2 hK)
      | 22, _ => exact e_GS.sw hS rfl rfl (law5_arm_22 hS hCk hCm hR hi (by omega) hL2 hK)
      | 23, _ => exact e_GS.sw hS rfl rfl (law5_arm_23 hS hCk hCm hR hi (by omega) hL2 hK)
      | 24, _ => exact e_GS.sw hS rfl rfl (law5_arm_24 hS hCk hCm hR hi (by omega) hL2 hK)
      | 25, _ => exact e_GS.sw hS rfl rfl (law5_arm_25 hS hCk hCm hR hi (by omega) hL2 hK)
      | 26, _ => exact e_GS.sw hS rfl rfl (law5_arm_26 hS hCk hCm hR hi (by omega) hL2 hK)
      | 27, _ => exact e_GS.sw hS rfl rfl (law5_arm_27 hS hCk hCm hR hi (by omega) hL2 hK)
      | 28, _ => exact e_GS.sw hS rfl rfl (law5_arm_28 hS hCk hCm hR hi (by omega) hL2 hK)
      | 29, _ => exact e_GS.sw hS rfl rfl (law5_arm_29 hS hCk hCm hR hi (by omega) hL2 hK)
      | 30, _ => exact e_GS.sw hS rfl rfl (law5_arm_30 hS hCk hCm hR hi (by omega) hL2 hK)
      | 31, _ => exact e_GS.sw hS rfl rfl (law5_arm_31 hS hCk hCm hR hi (by omega) hL2 hK)
      | 32, _ => exact e_GS.sw hS rfl rfl (law5_arm_32 hS hCk hCm hR hi (by omega) hL2 hK)
      | 33, _ => exact e_GS.sw hS rfl rfl (law5_arm_33 hS hCk hCm hR hi (by omega) hL2 hK)
      | 34, _ => exact e_GS.sw hS rfl rfl (law5_arm_34 hS hCk hCm hR hi (by omega) hL2 hK)
      | 35, _ => exact e_GS.sw hS rfl rfl (law5_arm_35 hS hCk hCm hR hi (by omega) hL2 hK)
      | 36, _ => exact e_GS.sw hS rfl rfl (law5_arm_36 hS hCk hCm hR hi (by omega) hL2 hK)
      | 37, _ => exact e_GS.sw hS rfl rfl (law5_arm_37 hS hCk hCm hR hi (by omega) hL2 hK)
      | 38, _ => exact e_GS.sw hS rfl rfl (law5_arm_38 hS hCk hCm hR hi (by omega) hL2 hK)
      | 39, _ => exact e_GS.sw hS rfl rfl (law5_arm_39 hS hCk hCm hR hi (by omega) hL2 hK)
      | 40, _ => exact e_GS.sw hS rfl rfl (law5_arm_40 hS hCk hCm hR hi (by omega) hL2 hK)
      | 41, _ => exact e_GS.sw hS rfl rfl (law5_arm_41 hS hCk hCm hR hi (by omega) hL2 hK)
      | 42, _ => exact e_GS.sw hS rfl rfl (law5_arm_42 hS hCk hCm hR hi (by omega) hL2 hK)
      | 43, _ => exact e_GS.sw hS rfl rfl (law5_arm_43 hS hCk hCm hR hi (by omega) hL2 hK)
      | 44, _ => exact e_GS.sw hS rfl rfl (law5_arm_44 hS hCk hCm hR hi (by omega) hL2 hK)
      | 45, _ => exact e_GS.sw hS rfl rfl (law5_arm_45 hS hCk hCm hR hi (by omega) hL2 hK)
      | 46, _ => exact e_GS.sw hS rfl rfl (law5_arm_46 hS hCk hCm hR hi (by omega) hL2 hK)
      | 47, _ => exact e_GS.sw hS rfl rfl (law5_arm_47 hS hCk hCm hR hi (by omega) hL2 hK)
      | 48, _ => exact e_GS.sw hS rfl rfl (law5_arm_48 hS hCk hCm hR hi (by omega) hL2 hK)
      | 49, _ => exact e_GS.sw hS rfl rfl (law5_arm_49 hS hCk hCm hR hi (by omega) hL2 hK)
      | 50, _ => exact e_GS.sw hS rfl rfl (law5_arm_50 hS hCk hCm hR hi (by omega) hL2 hK)
      | 51, _ => exact e_GS.sw hS rfl rfl (law5_arm_51 hS hCk hCm hR hi (by omega) hL2 hK)
      | 52, _ => exact e_GS.sw hS rfl rfl (hK u hR)
      | 53, _ => exact e_GS.sw hS rfl rfl (hK u hR)
      | 54, _ => exact e_GS.sw hS rfl rfl (hK u hR)
      | 55, _ => exact e_GS.sw hS rfl rfl (hK u hR)
      | 56, _ => exact e_GS.sw hS rfl rfl (hK u hR)
      | 57, _ => exact e_GS.sw hS rfl rfl (hK u hR)
      | 58, _ => exact e_GS.sw hS rfl rfl (hK u hR)
      | 59, _ => exact e_GS.sw hS rfl rfl (hK u hR)
      | 60, _ => exact e_GS.sw hS rfl rfl (hK u hR)
      | 61, _ => exact e_GS.sw hS rfl rfl (hK u hR)
      | 62, _ => exact e_GS.sw hS rfl rfl (hK u hR)
      | 63, _ => exact e_GS.sw hS rfl rfl (hK u hR)
      | k + 64, hk => exact absurd hk (by omega)
end
