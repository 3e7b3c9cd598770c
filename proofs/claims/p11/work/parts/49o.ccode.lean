noncomputable section
/-! the constructors' tables together -/
def x_tr0 : Nat → Nat → xE := (x_TC 19 (x_TC 9 (x_TC 4 (x_TC 1 (x_TC 0 (fun _ => fun _ => x_e7) (fun _ => tb_1)) (x_TC 2 (fun _ => tb_2) (x_TC 3 (fun _ => tb_3) (fun _ => tb_4)))) (x_TC 6 (x_TC 5 (fun _ => tb_5) (fun _ => tb_6)) (x_TC 7 (fun _ => tb_7) (x_TC 8 (fun _ => tb_8) (fun _ => tb_9))))) (x_TC 14 (x_TC 11 (x_TC 10 (fun _ => tb_10) (fun _ => tb_11)) (x_TC 12 (fun _ => tb_12) (x_TC 13 (fun _ => tb_13) (fun _ => tb_14)))) (x_TC 16 (x_TC 15 (fun _ => tb_15) (fun _ => tb_16)) (x_TC 17 (fun _ => tb_17) (x_TC 18 (fun _ => tb_18) (fun _ => tb_19)))))) (x_TC 29 (x_TC 24 (x_TC 21 (x_TC 20 (fun _ => tb_20) (fun _ => tb_21)) (x_TC 22 (fun _ => tb_22) (x_TC 23 (fun _ => tb_23) (fun _ => tb_24)))) (x_TC 26 (x_TC 25 (fun _ => tb_25) (fun _ => tb_26)) (x_TC 27 (fun _ => tb_27) (x_TC 28 (fun _ => tb_28) (fun _ => tb_29))))) (x_TC 34 (x_TC 31 (x_TC 30 (fun _ => tb_30) (fun _ => tb_31)) (x_TC 32 (fun _ => tb_32) (x_TC 33 (fun _ => tb_33) (fun _ => tb_34)))) (x_TC 37 (x_TC 35 (fun _ => tb_35) (x_TC 36 (fun _ => tb_36) (fun _ => tb_37))) (x_TC 38 (fun _ => tb_38) (x_TC 39 (fun _ => tb_39) (fun _ => tb_40)))))))
def x_code0 : Nat → Nat → xE := fun M => bif Nat.beq M 0 then tb_0 else x_tr0 M
def x_lp : Nat → xLp := fun L => bif Nat.beq L 0 then ((1, 99999), x_wk 24 (0, 33060) (0, 33060) [(0, (99, 0, 0)), (1, (3, 24, 0))] [(0, (0, 0, 0))], 24, 66) else bif Nat.beq L 1 then ((1, 99999), x_wk 24 (0, 448) (0, 448) [(0, (99, 0, 0)), (1, (3, 24, 0))] [(29, (0, 0, 0))], 24, 299) else bif Nat.beq L 2 then ((1, 99999), x_wk 24 (0, 33060) (0, 33060) [(0, (99, 0, 0)), (1, (3, 24, 0))] [(1, (0, (-2147483648), 2147483647))], 24, 50) else bif Nat.beq L 3 then ((1, 99999), x_wk 24 (0, 513) (0, 513) [(0, (99, 0, 0)), (1, (3, 24, 0))] [(54, (0, (-2147483648), 2147483647))], 24, 74) else bif Nat.beq L 4 then ((1, 99999), x_wk 24 (0, 64) (0, 64) [(0, (99, 0, 0)), (1, (3, 24, 0))] [(1, (0, 0, 0)), (2, (0, 0, 0))], 24, 57) else ((0, 99999), fun _ => none, 0, 0)
def x_KK (P : (Nat → Int) → Prop) : Nat → xKx := fun _ _ _ _ _ V _ => x_PV P V
theorem x_KKp (P : (Nat → Int) → Prop) (M : Nat) : x_KP (x_KK P M) := fun R s A H V sc h => x_PV_all h
theorem x_TTokq {KK : Nat → xKx} {I : Nat → xM} {k : Nat} {a b : Nat → xM} {a' b' : Nat → Nat → xE} (ha : ∀ M pc, x_EOq cls (KK M) I (a M) pc (a' M pc)) (hb : ∀ M pc, x_EOq cls (KK M) I (b M) pc (b' M pc)) : ∀ M pc, x_EOq cls (KK M) I (x_TI k a b M) pc (x_TC k a' b' M pc) := fun M pc => by
  unfold x_TI x_TC
  cases Nat.ble M k with
  | true => exact ha M pc
  | false => exact hb M pc
theorem x_TIokq {P : xM → Prop} {k : Nat} {a b : Nat → xM} (ha : ∀ M, P (a M)) (hb : ∀ M, P (b M)) : ∀ M, P (x_TI k a b M) := fun M => by
  unfold x_TI
  cases Nat.ble M k with
  | true => exact ha M
  | false => exact hb M
def x_mokq (q : xM) : Bool := plainName (xm_y q).cls && (Nat.beq (xm_o q) 999 || match cls[xm_o q]? with
  | some r => decide (r.1 = (xm_y q).cls)
  | none => false)
set_option maxRecDepth 20000 in
set_option maxHeartbeats 4000000 in
theorem x_moksq : ∀ M, x_mokq (xJ M) = true := (x_TIokq (P := fun q => x_mokq q = true) (k := 19) (x_TIokq (P := fun q => x_mokq q = true) (k := 9) (x_TIokq (P := fun q => x_mokq q = true) (k := 4) (x_TIokq (P := fun q => x_mokq q = true) (k := 1) (x_TIokq (P := fun q => x_mokq q = true) (k := 0) (fun _ => (show x_mokq mq_0 = true by decide +kernel))
 (fun _ => (show x_mokq mq_1 = true by decide +kernel)))
 (x_TIokq (P := fun q => x_mokq q = true) (k := 2) (fun _ => (show x_mokq mq_2 = true by decide +kernel))
 (x_TIokq (P := fun q => x_mokq q = true) (k := 3) (fun _ => (show x_mokq mq_3 = true by decide +kernel))
 (fun _ => (show x_mokq mq_4 = true by decide +kernel)))))
 (x_TIokq (P := fun q => x_mokq q = true) (k := 6) (x_TIokq (P := fun q => x_mokq q = true) (k := 5) (fun _ => (show x_mokq mq_5 = true by decide +kernel))
 (fun _ => (show x_mokq mq_6 = true by decide +kernel)))
 (x_TIokq (P := fun q => x_mokq q = true) (k := 7) (fun _ => (show x_mokq mq_7 = true by decide +kernel))
 (x_TIokq (P := fun q => x_mokq q = true) (k := 8) (fun _ => (show x_mokq mq_8 = true by decide +kernel))
 (fun _ => (show x_mokq mq_9 = true by decide +kernel))))))
 (x_TIokq (P := fun q => x_mokq q = true) (k := 14) (x_TIokq (P := fun q => x_mokq q = true) (k := 11) (x_TIokq (P := fun q => x_mokq q = true) (k := 10) (fun _ => (show x_mokq mq_10 = true by decide +kernel))
 (fun _ => (show x_mokq mq_11 = true by decide +kernel)))
 (x_TIokq (P := fun q => x_mokq q = true) (k := 12) (fun _ => (show x_mokq mq_12 = true by decide +kernel))
 (x_TIokq (P := fun q => x_mokq q = true) (k := 13) (fun _ => (show x_mokq mq_13 = true by decide +kernel))
 (fun _ => (show x_mokq mq_14 = true by decide +kernel)))))
 (x_TIokq (P := fun q => x_mokq q = true) (k := 16) (x_TIokq (P := fun q => x_mokq q = true) (k := 15) (fun _ => (show x_mokq mq_15 = true by decide +kernel))
 (fun _ => (show x_mokq mq_16 = true by decide +kernel)))
 (x_TIokq (P := fun q => x_mokq q = true) (k := 17) (fun _ => (show x_mokq mq_17 = true by decide +kernel))
 (x_TIokq (P := fun q => x_mokq q = true) (k := 18) (fun _ => (show x_mokq mq_18 = true by decide +kernel))
 (fun _ => (show x_mokq mq_19 = true by decide +kernel)))))))
 (x_TIokq (P := fun q => x_mokq q = true) (k := 29) (x_TIokq (P := fun q => x_mokq q = true) (k := 24) (x_TIokq (P := fun q => x_mokq q = true) (k := 21) (x_TIokq (P := fun q => x_mokq q = true) (k := 20) (fun _ => (show x_mokq mq_20 = true by decide +kernel))
 (fun _ => (show x_mokq mq_21 = true by decide +kernel)))
 (x_TIokq (P := fun q => x_mokq q = true) (k := 22) (fun _ => (show x_mokq mq_22 = true by decide +kernel))
 (x_TIokq (P := fun q => x_mokq q = true) (k := 23) (fun _ => (show x_mokq mq_23 = true by decide +kernel))
 (fun _ => (show x_mokq mq_24 = true by decide +kernel)))))
 (x_TIokq (P := fun q => x_mokq q = true) (k := 26) (x_TIokq (P := fun q => x_mokq q = true) (k := 25) (fun _ => (show x_mokq mq_25 = true by decide +kernel))
 (fun _ => (show x_mokq mq_26 = true by decide +kernel)))
 (x_TIokq (P := fun q => x_mokq q = true) (k := 27) (fun _ => (show x_mokq mq_27 = true by decide +kernel))
 (x_TIokq (P := fun q => x_mokq q = true) (k := 28) (fun _ => (show x_mokq mq_28 = true by decide +kernel))
 (fun _ => (show x_mokq mq_29 = true by decide +kernel))))))
 (x_TIokq (P := fun q => x_mokq q = true) (k := 34) (x_TIokq (P := fun q => x_mokq q = true) (k := 31) (x_TIokq (P := fun q => x_mokq q = true) (k := 30) (fun _ => (show x_mokq mq_30 = true by decide +kernel))
 (fun _ => (show x_mokq mq_31 = true by decide +kernel)))
 (x_TIokq (P := fun q => x_mokq q = true) (k := 32) (fun _ => (show x_mokq mq_32 = true by decide +kernel))
 (x_TIokq (P := fun q => x_mokq q = true) (k := 33) (fun _ => (show x_mokq mq_33 = true by decide +kernel))
 (fun _ => (show x_mokq mq_34 = true by decide +kernel)))))
 (x_TIokq (P := fun q => x_mokq q = true) (k := 37) (x_TIokq (P := fun q => x_mokq q = true) (k := 35) (fun _ => (show x_mokq mq_35 = true by decide +kernel))
 (x_TIokq (P := fun q => x_mokq q = true) (k := 36) (fun _ => (show x_mokq mq_36 = true by decide +kernel))
 (fun _ => (show x_mokq mq_37 = true by decide +kernel))))
 (x_TIokq (P := fun q => x_mokq q = true) (k := 38) (fun _ => (show x_mokq mq_38 = true by decide +kernel))
 (x_TIokq (P := fun q => x_mokq q = true) (k := 39) (fun _ => (show x_mokq mq_39 = true by decide +kernel))
 (fun _ => (show x_mokq mq_40 = true by decide +kernel))))))))
set_option maxRecDepth 20000 in
set_option maxHeartbeats 4000000 in
theorem x_tr0_ok (KK : Nat → xKx) (hK : ∀ M, x_KP (KK M)) : ∀ M pc, x_EOq cls (KK M) xJ (xJ M) pc (x_tr0 M pc) := (x_TTokq (k := 19) (x_TTokq (k := 9) (x_TTokq (k := 4) (x_TTokq (k := 1) (x_TTokq (k := 0) (fun _ _ => trivial)
 (fun M pc => tb_1_ok (KK M) (hK M) pc))
 (x_TTokq (k := 2) (fun M pc => tb_2_ok (KK M) (hK M) pc)
 (x_TTokq (k := 3) (fun M pc => tb_3_ok (KK M) (hK M) pc)
 (fun M pc => tb_4_ok (KK M) (hK M) pc))))
 (x_TTokq (k := 6) (x_TTokq (k := 5) (fun M pc => tb_5_ok (KK M) (hK M) pc)
 (fun M pc => tb_6_ok (KK M) (hK M) pc))
 (x_TTokq (k := 7) (fun M pc => tb_7_ok (KK M) (hK M) pc)
 (x_TTokq (k := 8) (fun M pc => tb_8_ok (KK M) (hK M) pc)
 (fun M pc => tb_9_ok (KK M) (hK M) pc)))))
 (x_TTokq (k := 14) (x_TTokq (k := 11) (x_TTokq (k := 10) (fun M pc => tb_10_ok (KK M) (hK M) pc)
 (fun M pc => tb_11_ok (KK M) (hK M) pc))
 (x_TTokq (k := 12) (fun M pc => tb_12_ok (KK M) (hK M) pc)
 (x_TTokq (k := 13) (fun M pc => tb_13_ok (KK M) (hK M) pc)
 (fun M pc => tb_14_ok (KK M) (hK M) pc))))
 (x_TTokq (k := 16) (x_TTokq (k := 15) (fun M pc => tb_15_ok (KK M) (hK M) pc)
 (fun M pc => tb_16_ok (KK M) (hK M) pc))
 (x_TTokq (k := 17) (fun M pc => tb_17_ok (KK M) (hK M) pc)
 (x_TTokq (k := 18) (fun M pc => tb_18_ok (KK M) (hK M) pc)
 (fun M pc => tb_19_ok (KK M) (hK M) pc))))))
 (x_TTokq (k := 29) (x_TTokq (k := 24) (x_TTokq (k := 21) (x_TTokq (k := 20) (fun M pc => tb_20_ok (KK M) (hK M) pc)
 (fun M pc => tb_21_ok (KK M) (hK M) pc))
 (x_TTokq (k := 22) (fun M pc => tb_22_ok (KK M) (hK M) pc)
 (x_TTokq (k := 23) (fun M pc => tb_23_ok (KK M) (hK M) pc)
 (fun M pc => tb_24_ok (KK M) (hK M) pc))))
 (x_TTokq (k := 26) (x_TTokq (k := 25) (fun M pc => tb_25_ok (KK M) (hK M) pc)
 (fun M pc => tb_26_ok (KK M) (hK M) pc))
 (x_TTokq (k := 27) (fun M pc => tb_27_ok (KK M) (hK M) pc)
 (x_TTokq (k := 28) (fun M pc => tb_28_ok (KK M) (hK M) pc)
 (fun M pc => tb_29_ok (KK M) (hK M) pc)))))
 (x_TTokq (k := 34) (x_TTokq (k := 31) (x_TTokq (k := 30) (fun M pc => tb_30_ok (KK M) (hK M) pc)
 (fun M pc => tb_31_ok (KK M) (hK M) pc))
 (x_TTokq (k := 32) (fun M pc => tb_32_ok (KK M) (hK M) pc)
 (x_TTokq (k := 33) (fun M pc => tb_33_ok (KK M) (hK M) pc)
 (fun M pc => tb_34_ok (KK M) (hK M) pc))))
 (x_TTokq (k := 37) (x_TTokq (k := 35) (fun M pc => tb_35_ok (KK M) (hK M) pc)
 (x_TTokq (k := 36) (fun M pc => tb_36_ok (KK M) (hK M) pc)
 (fun M pc => tb_37_ok (KK M) (hK M) pc)))
 (x_TTokq (k := 38) (fun M pc => tb_38_ok (KK M) (hK M) pc)
 (x_TTokq (k := 39) (fun M pc => tb_39_ok (KK M) (hK M) pc)
 (fun M pc => tb_40_ok (KK M) (hK M) pc)))))))
theorem x_tab0 : x_Tab 1 (x_PV (fun _ => True)) cls (x_KK (fun _ => True)) xJ x_code0 := by
  refine ⟨Nat.le_refl 1, fun M pc => ?_, fun M => ?_, fun M hM R s A H V sc _ _ h => h, fun M ho => ?_, x_PV_up (fun f a k i ha h => ?_)⟩
  · unfold x_code0
    by_cases e : M = 0
    · subst e
      exact tb_0_ok (x_KK (fun _ => True) 0) (x_KKp _ 0) pc
    · rw [x_nb e]
      exact x_tr0_ok (x_KK (fun _ => True)) (x_KKp _) M pc
  · have := x_moksq M
    unfold x_mokq at this
    simp only [Bool.and_eq_true] at this
    exact this.1
  · have := x_moksq M
    unfold x_mokq at this
    simp only [Bool.and_eq_true] at this
    have h2 := this.2
    rw [x_nb ho] at h2
    simp only [Bool.false_or] at h2
    split at h2
    · rename_i r hr
      exact ⟨r, hr, by simpa using h2⟩
    · cases h2
  · trivial
end
