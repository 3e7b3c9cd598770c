/-! methods by number -/
def ks_X0 : List Nat := [1, 1, 1, 1, 1, 1, 1, 1, 0, 0, 0, 0, 0, 0, 0, 0, 0, 0, 0, 0]
set_option maxRecDepth 20000 in
theorem df_X0 : ∀ j, j < 20 → defaultValue (tyX0 j) = vp_V (ks_X0.map x_fv) j := by decide +kernel
def ks_X1 : List Nat := [0, 0, 0, 1, 1]
set_option maxRecDepth 20000 in
theorem df_X1 : ∀ j, j < 5 → defaultValue (tyX1 j) = vp_V (ks_X1.map x_fv) j := by decide +kernel
def ks_X2 : List Nat := [0, 0, 0, 0, 0, 0, 0, 0, 1, 1, 1, 1, 1, 1, 1]
set_option maxRecDepth 20000 in
theorem df_X2 : ∀ j, j < 15 → defaultValue (tyX2 j) = vp_V (ks_X2.map x_fv) j := by decide +kernel
def ks_X3 : List Nat := [1, 1, 1, 1, 1, 1, 1, 1, 0, 0, 0, 0]
set_option maxRecDepth 20000 in
theorem df_X3 : ∀ j, j < 12 → defaultValue (tyX3 j) = vp_V (ks_X3.map x_fv) j := by decide +kernel
def ks_X4 : List Nat := [0, 0, 1, 1, 1, 1, 1, 1, 1, 1, 1, 1, 1, 1, 1, 1, 1, 1, 1, 1]
set_option maxRecDepth 20000 in
theorem df_X4 : ∀ j, j < 20 → defaultValue (tyX4 j) = vp_V (ks_X4.map x_fv) j := by decide +kernel
def ks_X5 : List Nat := [0, 0, 0, 0, 0, 0, 0, 0, 0, 0, 0, 0]
set_option maxRecDepth 20000 in
theorem df_X5 : ∀ j, j < 12 → defaultValue (tyX5 j) = vp_V (ks_X5.map x_fv) j := by decide +kernel
def ks_X6 : List Nat := [0, 0, 0, 0, 1, 1, 1, 1, 1, 1, 1, 1, 1]
set_option maxRecDepth 20000 in
theorem df_X6 : ∀ j, j < 13 → defaultValue (tyX6 j) = vp_V (ks_X6.map x_fv) j := by decide +kernel
def ks_X7 : List Nat := [1, 1, 1, 1, 1, 1, 1, 1]
set_option maxRecDepth 20000 in
theorem df_X7 : ∀ j, j < 8 → defaultValue (tyX7 j) = vp_V (ks_X7.map x_fv) j := by decide +kernel
def ks_X8 : List Nat := [0, 0, 0, 1, 1, 0, 0, 0, 0, 0, 0, 0, 0, 0, 0, 1, 1]
set_option maxRecDepth 20000 in
theorem df_X8 : ∀ j, j < 17 → defaultValue (tyX8 j) = vp_V (ks_X8.map x_fv) j := by decide +kernel
def ks_X9 : List Nat := [0, 0, 1, 1, 1, 1, 1, 1, 1, 1, 1, 1, 1, 0, 0, 0, 0]
set_option maxRecDepth 20000 in
theorem df_X9 : ∀ j, j < 17 → defaultValue (tyX9 j) = vp_V (ks_X9.map x_fv) j := by decide +kernel
def ks_X10 : List Nat := [0, 0, 0, 0, 0, 0, 0, 0, 0, 0, 0, 0, 0, 0, 0, 0, 1, 1, 1, 1, 1]
set_option maxRecDepth 20000 in
theorem df_X10 : ∀ j, j < 21 → defaultValue (tyX10 j) = vp_V (ks_X10.map x_fv) j := by decide +kernel
def ks_X11 : List Nat := [1, 1, 1, 1, 1, 1, 1, 1, 1, 1, 1, 0, 0, 0, 0]
set_option maxRecDepth 20000 in
theorem df_X11 : ∀ j, j < 15 → defaultValue (tyX11 j) = vp_V (ks_X11.map x_fv) j := by decide +kernel
def ks_X12 : List Nat := [1, 1, 1, 0, 1, 0, 0, 1, 1, 0, 0, 1, 1, 1, 1, 1, 1, 1, 1, 1, 1, 1, 1, 0, 1, 1, 1, 1, 1, 1, 0, 1, 1, 1, 1, 1, 1, 1, 1, 1, 0, 1, 0, 1, 1, 1, 1, 1, 1, 0, 1, 1, 1, 1, 1, 1, 1, 1, 0, 0, 0, 1, 1, 1, 1, 1, 1, 1, 1, 1, 1, 1, 1, 1, 1, 1, 1, 1, 0, 0, 0, 0, 0, 0, 0, 0, 0, 0, 0, 0, 1, 1, 1, 1, 0, 0, 0, 0, 0, 0, 0, 1, 0, 1, 1, 1, 1, 1, 1, 1, 0, 0, 0, 1, 1, 1, 1, 0, 0]
set_option maxRecDepth 20000 in
theorem df_X12 : ∀ j, j < 119 → defaultValue (tyX12 j) = vp_V (ks_X12.map x_fv) j := by decide +kernel
def mq_0 : xM := (x, code, 4, some .boolean, 60000, 8922250, 999)
def mq_1 : xM := (⟨"RobotCellHouse$Arm", "<init>", "()V"⟩, prog_2_method_1_code, 2, none, 16, 4184, 0)
def mq_2 : xM := (⟨"RobotCellHouse$Arm", "make", "(IIII)V"⟩, prog_2_method_2_code, 5, none, 0, 0, 0)
def mq_3 : xM := (⟨"RobotCellHouse$Arm", "rewind", "()V"⟩, prog_2_method_4_code, 2, none, 0, 0, 0)
def mq_4 : xM := (⟨"RobotCellHouse$Arm", "place", "()V"⟩, prog_2_method_11_code, 8, none, 0, 0, 0)
def mq_5 : xM := (⟨"RobotCellHouse$Arm", "keepPoints", "()V"⟩, prog_2_method_12_code, 2, none, 0, 0, 0)
def mq_6 : xM := (⟨"RobotCellHouse$Arm", "stand", "()V"⟩, prog_2_method_18_code, 2, none, 0, 0, 0)
def mq_7 : xM := (⟨"RobotCellHouse$Code", "<init>", "()V"⟩, prog_3_method_1_code, 1, none, 2, 4032, 1)
def mq_8 : xM := (⟨"RobotCellHouse$Code", "clear", "()V"⟩, prog_3_method_2_code, 1, none, 0, 0, 1)
def mq_9 : xM := (⟨"RobotCellHouse$Core", "<init>", "()V"⟩, prog_4_method_1_code, 1, none, 7, 8048, 2)
def mq_10 : xM := (⟨"RobotCellHouse$Core", "clear", "()V"⟩, prog_4_method_2_code, 2, none, 0, 0, 2)
def mq_11 : xM := (⟨"RobotCellHouse$Core", "rewind", "()V"⟩, prog_4_method_3_code, 2, none, 0, 0, 2)
def mq_12 : xM := (⟨"RobotCellHouse$Doer", "<init>", "()V"⟩, prog_5_method_1_code, 2, none, 241, 55853, 3)
def mq_13 : xM := (⟨"RobotCellHouse$Doer", "rewind", "()V"⟩, prog_5_method_2_code, 2, none, 0, 0, 3)
def mq_14 : xM := (⟨"RobotCellHouse$Floor", "<init>", "()V"⟩, prog_6_method_1_code, 1, none, 54, 496, 4)
def mq_15 : xM := (⟨"RobotCellHouse$Floor", "rewind", "()V"⟩, prog_6_method_6_code, 2, none, 0, 0, 4)
def mq_16 : xM := (⟨"RobotCellHouse$Joint", "<init>", "()V"⟩, prog_7_method_1_code, 1, none, 0, 0, 5)
def mq_17 : xM := (⟨"RobotCellHouse$Planner", "<init>", "()V"⟩, prog_8_method_1_code, 1, none, 9, 62144, 6)
def mq_18 : xM := (⟨"RobotCellHouse$Points", "<init>", "()V"⟩, prog_9_method_1_code, 1, none, 8, 512, 7)
def mq_19 : xM := (⟨"RobotCellHouse$Points", "clear", "()V"⟩, prog_9_method_2_code, 1, none, 0, 0, 7)
def mq_20 : xM := (⟨"RobotCellHouse$Points", "rewind", "()V"⟩, prog_9_method_3_code, 2, none, 0, 0, 7)
def mq_21 : xM := (⟨"RobotCellHouse$Points", "arrange", "()V"⟩, prog_9_method_8_code, 4, none, 0, 0, 7)
def mq_22 : xM := (⟨"RobotCellHouse$Points", "settle", "()V"⟩, prog_9_method_9_code, 4, none, 0, 0, 7)
def mq_23 : xM := (⟨"RobotCellHouse$Points", "reckon", "(I)I"⟩, prog_9_method_10_code, 3, (some .int), 0, 0, 7)
def mq_24 : xM := (⟨"RobotCellHouse$Reader", "<init>", "()V"⟩, prog_10_method_1_code, 1, none, 6, 8569, 8)
def mq_25 : xM := (⟨"RobotCellHouse$Shapes", "<init>", "()V"⟩, prog_11_method_1_code, 1, none, 11, 128, 9)
def mq_26 : xM := (⟨"RobotCellHouse$Task", "<init>", "(I)V"⟩, prog_12_method_1_code, 2, none, 5, 1840, 10)
def mq_27 : xM := (⟨"RobotCellHouse$Task", "vanish", "()V"⟩, prog_12_method_2_code, 1, none, 0, 0, 10)
def mq_28 : xM := (⟨"RobotCellHouse$Task", "begin", "(III)V"⟩, prog_12_method_3_code, 4, none, 0, 0, 10)
def mq_29 : xM := (⟨"RobotCellHouse$Task", "enter", "(I)Z"⟩, prog_12_method_5_code, 2, (some .boolean), 0, 0, 10)
def mq_30 : xM := (⟨"RobotCellHouse", "<init>", "()V"⟩, prog_1_method_1_code, 1, none, 274, 134763, 11)
def mq_31 : xM := (⟨"RobotCellHouse", "clear", "()V"⟩, prog_1_method_63_code, 2, none, 0, 0, 11)
def mq_32 : xM := (⟨"RobotCellHouse", "rewind", "()V"⟩, prog_1_method_64_code, 2, none, 0, 0, 11)
def mq_33 : xM := (⟨"RobotCellHouseModel", "<init>", "()V"⟩, prog_14_method_1_code, 1, none, 81, 1153349, 12)
def mq_34 : xM := (⟨"RobotCellHouseModel", "renew", "()V"⟩, prog_14_method_3_code, 2, none, 0, 0, 12)
def mq_35 : xM := (⟨"RobotCellHouseModel", "armAt", "(I)I"⟩, prog_14_method_4_code, 1, (some .int), 0, 0, 999)
def mq_36 : xM := (⟨"RobotCellHouseModel", "taskAt", "(I)I"⟩, prog_14_method_5_code, 1, (some .int), 0, 0, 999)
def mq_37 : xM := (⟨"RobotCellHouseModel", "times", "(JJ)J"⟩, prog_14_method_33_code, 12, (some .long), 0, 0, 999)
def mq_38 : xM := (⟨"RobotCellHouseModel", "series", "(JI)J"⟩, prog_14_method_34_code, 11, (some .long), 0, 0, 999)
def mq_39 : xM := (⟨"RobotCellHouseModel", "makeSines", "()V"⟩, prog_14_method_35_code, 4, none, 0, 0, 12)
def mq_40 : xM := (⟨"java/util/Arrays", "fill", "([II)V"⟩, prog_20_method_103_code, 4, none, 0, 0, 999)
def xJ : Nat → xM := (x_TI 19 (x_TI 9 (x_TI 4 (x_TI 1 (x_TI 0 (fun _ => mq_0) (fun _ => mq_1)) (x_TI 2 (fun _ => mq_2) (x_TI 3 (fun _ => mq_3) (fun _ => mq_4)))) (x_TI 6 (x_TI 5 (fun _ => mq_5) (fun _ => mq_6)) (x_TI 7 (fun _ => mq_7) (x_TI 8 (fun _ => mq_8) (fun _ => mq_9))))) (x_TI 14 (x_TI 11 (x_TI 10 (fun _ => mq_10) (fun _ => mq_11)) (x_TI 12 (fun _ => mq_12) (x_TI 13 (fun _ => mq_13) (fun _ => mq_14)))) (x_TI 16 (x_TI 15 (fun _ => mq_15) (fun _ => mq_16)) (x_TI 17 (fun _ => mq_17) (x_TI 18 (fun _ => mq_18) (fun _ => mq_19)))))) (x_TI 29 (x_TI 24 (x_TI 21 (x_TI 20 (fun _ => mq_20) (fun _ => mq_21)) (x_TI 22 (fun _ => mq_22) (x_TI 23 (fun _ => mq_23) (fun _ => mq_24)))) (x_TI 26 (x_TI 25 (fun _ => mq_25) (fun _ => mq_26)) (x_TI 27 (fun _ => mq_27) (x_TI 28 (fun _ => mq_28) (fun _ => mq_29))))) (x_TI 34 (x_TI 31 (x_TI 30 (fun _ => mq_30) (fun _ => mq_31)) (x_TI 32 (fun _ => mq_32) (x_TI 33 (fun _ => mq_33) (fun _ => mq_34)))) (x_TI 37 (x_TI 35 (fun _ => mq_35) (x_TI 36 (fun _ => mq_36) (fun _ => mq_37))) (x_TI 38 (fun _ => mq_38) (x_TI 39 (fun _ => mq_39) (fun _ => mq_40)))))))
