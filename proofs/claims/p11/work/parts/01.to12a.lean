-- part 01
section
-- ===== PART A: goes FIRST, ahead of the names: the tables' words, and 'selects' of the private methods out of them =====
/-- a private method of a class that the tables say can be made, by its rows of tables_1 -/
def lw_okq (q : MethodName × Nat) : Prop := (q.1.cls ≠ "java/lang/invoke/MethodHandle" ∧ q.1.cls ≠ "java/lang/invoke/VarHandle") ∧ Cond.instantiable q.1.cls q.2 ∈ tables_1 ∧ Cond.privateMethod q.1 ∈ tables_1 ∧ Cond.instanceMethod q.1 ∈ tables_1
theorem lw_t1 {w : Cond} (h : w ∈ tables_1_1) : w ∈ tables_1 := List.mem_append_left _ h
theorem lw_t2 {w : Cond} (h : w ∈ tables_1_2) : w ∈ tables_1 := List.mem_append_right _ (List.mem_append_left _ h)
theorem lw_t3 {w : Cond} (h : w ∈ tables_1_3) : w ∈ tables_1 := List.mem_append_right _ (List.mem_append_right _ (List.mem_append_left _ h))
theorem lw_t4 {w : Cond} (h : w ∈ tables_1_4) : w ∈ tables_1 := List.mem_append_right _ (List.mem_append_right _ (List.mem_append_right _ (List.mem_append_left _ h)))
theorem lw_t5 {w : Cond} (h : w ∈ tables_1_5) : w ∈ tables_1 := List.mem_append_right _ (List.mem_append_right _ (List.mem_append_right _ (List.mem_append_right _ (List.mem_append_left _ h))))
theorem lw_t6 {w : Cond} (h : w ∈ tables_1_6) : w ∈ tables_1 := List.mem_append_right _ (List.mem_append_right _ (List.mem_append_right _ (List.mem_append_right _ (List.mem_append_right _ (List.mem_append_left _ h)))))
theorem lw_t7 {w : Cond} (h : w ∈ tables_1_7) : w ∈ tables_1 := List.mem_append_right _ (List.mem_append_right _ (List.mem_append_right _ (List.mem_append_right _ (List.mem_append_right _ (List.mem_append_right _ (List.mem_append_left _ h))))))
theorem lw_t8 {w : Cond} (h : w ∈ tables_1_8) : w ∈ tables_1 := List.mem_append_right _ (List.mem_append_right _ (List.mem_append_right _ (List.mem_append_right _ (List.mem_append_right _ (List.mem_append_right _ (List.mem_append_right _ (List.mem_append_left _ h)))))))
theorem lw_t9 {w : Cond} (h : w ∈ tables_1_9) : w ∈ tables_1 := List.mem_append_right _ (List.mem_append_right _ (List.mem_append_right _ (List.mem_append_right _ (List.mem_append_right _ (List.mem_append_right _ (List.mem_append_right _ (List.mem_append_right _ (List.mem_append_left _ h))))))))
theorem lw_t10 {w : Cond} (h : w ∈ tables_1_10) : w ∈ tables_1 := List.mem_append_right _ (List.mem_append_right _ (List.mem_append_right _ (List.mem_append_right _ (List.mem_append_right _ (List.mem_append_right _ (List.mem_append_right _ (List.mem_append_right _ (List.mem_append_right _ (List.mem_append_left _ h)))))))))
theorem lw_t11 {w : Cond} (h : w ∈ tables_1_11) : w ∈ tables_1 := List.mem_append_right _ (List.mem_append_right _ (List.mem_append_right _ (List.mem_append_right _ (List.mem_append_right _ (List.mem_append_right _ (List.mem_append_right _ (List.mem_append_right _ (List.mem_append_right _ (List.mem_append_right _ (List.mem_append_left _ h))))))))))
theorem lw_t12 {w : Cond} (h : w ∈ tables_1_12) : w ∈ tables_1 := List.mem_append_right _ (List.mem_append_right _ (List.mem_append_right _ (List.mem_append_right _ (List.mem_append_right _ (List.mem_append_right _ (List.mem_append_right _ (List.mem_append_right _ (List.mem_append_right _ (List.mem_append_right _ (List.mem_append_right _ (List.mem_append_left _ h)))))))))))
theorem lw_t13 {w : Cond} (h : w ∈ tables_1_13) : w ∈ tables_1 := List.mem_append_right _ (List.mem_append_right _ (List.mem_append_right _ (List.mem_append_right _ (List.mem_append_right _ (List.mem_append_right _ (List.mem_append_right _ (List.mem_append_right _ (List.mem_append_right _ (List.mem_append_right _ (List.mem_append_right _ (List.mem_append_right _ (List.mem_append_left _ h))))))))))))
theorem lw_t14 {w : Cond} (h : w ∈ tables_1_14) : w ∈ tables_1 := List.mem_append_right _ (List.mem_append_right _ (List.mem_append_right _ (List.mem_append_right _ (List.mem_append_right _ (List.mem_append_right _ (List.mem_append_right _ (List.mem_append_right _ (List.mem_append_right _ (List.mem_append_right _ (List.mem_append_right _ (List.mem_append_right _ (List.mem_append_right _ (h)))))))))))))
theorem lw_p0 : lw_okq (⟨"RobotCellHouse", "clear", "()V"⟩, 15) := ⟨⟨by decide +kernel, by decide +kernel⟩, (lw_t1 (List.mem_of_getElem? (i := 22) rfl)), (lw_t4 (List.mem_of_getElem? (i := 0) rfl)), (lw_t4 (List.mem_of_getElem? (i := 1) rfl))⟩
theorem lw_p1 : lw_okq (⟨"RobotCellHouse$Points", "arrange", "()V"⟩, 8) := ⟨⟨by decide +kernel, by decide +kernel⟩, (lw_t1 (List.mem_of_getElem? (i := 131) rfl)), (lw_t4 (List.mem_of_getElem? (i := 46) rfl)), (lw_t4 (List.mem_of_getElem? (i := 47) rfl))⟩
theorem lw_p2 : lw_okq (⟨"RobotCellHouse", "rewind", "()V"⟩, 15) := ⟨⟨by decide +kernel, by decide +kernel⟩, (lw_t1 (List.mem_of_getElem? (i := 22) rfl)), (lw_t4 (List.mem_of_getElem? (i := 55) rfl)), (lw_t4 (List.mem_of_getElem? (i := 56) rfl))⟩
theorem lw_p3 : lw_okq (⟨"RobotCellHouse$Points", "settle", "()V"⟩, 8) := ⟨⟨by decide +kernel, by decide +kernel⟩, (lw_t1 (List.mem_of_getElem? (i := 131) rfl)), (lw_t4 (List.mem_of_getElem? (i := 64) rfl)), (lw_t4 (List.mem_of_getElem? (i := 65) rfl))⟩
theorem lw_p4 : lw_okq (⟨"RobotCellHouse$Points", "reckon", "(I)I"⟩, 8) := ⟨⟨by decide +kernel, by decide +kernel⟩, (lw_t1 (List.mem_of_getElem? (i := 131) rfl)), (lw_t4 (List.mem_of_getElem? (i := 68) rfl)), (lw_t4 (List.mem_of_getElem? (i := 69) rfl))⟩
theorem lw_p5 : lw_okq (⟨"RobotCellHouse$Floor", "putBack", "(I)V"⟩, 20) := ⟨⟨by decide +kernel, by decide +kernel⟩, (lw_t1 (List.mem_of_getElem? (i := 168) rfl)), (lw_t4 (List.mem_of_getElem? (i := 76) rfl)), (lw_t4 (List.mem_of_getElem? (i := 77) rfl))⟩
theorem lw_p6 : lw_okq (⟨"RobotCellHouse$Floor", "comeTo", "(III)V"⟩, 20) := ⟨⟨by decide +kernel, by decide +kernel⟩, (lw_t1 (List.mem_of_getElem? (i := 168) rfl)), (lw_t4 (List.mem_of_getElem? (i := 80) rfl)), (lw_t4 (List.mem_of_getElem? (i := 81) rfl))⟩
theorem lw_p7 : lw_okq (⟨"RobotCellHouse$Floor", "lieAt", "(III)V"⟩, 20) := ⟨⟨by decide +kernel, by decide +kernel⟩, (lw_t1 (List.mem_of_getElem? (i := 168) rfl)), (lw_t4 (List.mem_of_getElem? (i := 84) rfl)), (lw_t4 (List.mem_of_getElem? (i := 85) rfl))⟩
theorem lw_p8 : lw_okq (⟨"RobotCellHouse", "isArm", "(I)Z"⟩, 15) := ⟨⟨by decide +kernel, by decide +kernel⟩, (lw_t1 (List.mem_of_getElem? (i := 22) rfl)), (lw_t4 (List.mem_of_getElem? (i := 182) rfl)), (lw_t4 (List.mem_of_getElem? (i := 183) rfl))⟩
theorem lw_p9 : lw_okq (⟨"RobotCellHouse", "isJoint", "(II)Z"⟩, 15) := ⟨⟨by decide +kernel, by decide +kernel⟩, (lw_t1 (List.mem_of_getElem? (i := 22) rfl)), (lw_t4 (List.mem_of_getElem? (i := 199) rfl)), (lw_t4 (List.mem_of_getElem? (i := 200) rfl))⟩
theorem lw_p10 : lw_okq (⟨"RobotCellHouse", "isBelt", "(I)Z"⟩, 15) := ⟨⟨by decide +kernel, by decide +kernel⟩, (lw_t1 (List.mem_of_getElem? (i := 22) rfl)), (lw_t5 (List.mem_of_getElem? (i := 13) rfl)), (lw_t5 (List.mem_of_getElem? (i := 14) rfl))⟩
theorem lw_p11 : lw_okq (⟨"RobotCellHouse$Reader", "advance", "()V"⟩, 17) := ⟨⟨by decide +kernel, by decide +kernel⟩, (lw_t1 (List.mem_of_getElem? (i := 30) rfl)), (lw_t5 (List.mem_of_getElem? (i := 78) rfl)), (lw_t5 (List.mem_of_getElem? (i := 79) rfl))⟩
theorem lw_p12 : lw_okq (⟨"RobotCellHouse$Reader", "skipBlanks", "()V"⟩, 17) := ⟨⟨by decide +kernel, by decide +kernel⟩, (lw_t1 (List.mem_of_getElem? (i := 30) rfl)), (lw_t5 (List.mem_of_getElem? (i := 82) rfl)), (lw_t5 (List.mem_of_getElem? (i := 83) rfl))⟩
theorem lw_p13 : lw_okq (⟨"RobotCellHouse$Reader", "byteAt", "(I)I"⟩, 17) := ⟨⟨by decide +kernel, by decide +kernel⟩, (lw_t1 (List.mem_of_getElem? (i := 30) rfl)), (lw_t5 (List.mem_of_getElem? (i := 86) rfl)), (lw_t5 (List.mem_of_getElem? (i := 87) rfl))⟩
theorem lw_p14 : lw_okq (⟨"RobotCellHouse$Reader", "readNumber", "()V"⟩, 17) := ⟨⟨by decide +kernel, by decide +kernel⟩, (lw_t1 (List.mem_of_getElem? (i := 30) rfl)), (lw_t5 (List.mem_of_getElem? (i := 93) rfl)), (lw_t5 (List.mem_of_getElem? (i := 94) rfl))⟩
theorem lw_p15 : lw_okq (⟨"RobotCellHouse$Reader", "readWord", "()V"⟩, 17) := ⟨⟨by decide +kernel, by decide +kernel⟩, (lw_t1 (List.mem_of_getElem? (i := 30) rfl)), (lw_t5 (List.mem_of_getElem? (i := 107) rfl)), (lw_t5 (List.mem_of_getElem? (i := 108) rfl))⟩
def lw_privs_1 : List (MethodName × Nat) := [(⟨"RobotCellHouse", "clear", "()V"⟩, 15), (⟨"RobotCellHouse$Points", "arrange", "()V"⟩, 8), (⟨"RobotCellHouse", "rewind", "()V"⟩, 15), (⟨"RobotCellHouse$Points", "settle", "()V"⟩, 8), (⟨"RobotCellHouse$Points", "reckon", "(I)I"⟩, 8), (⟨"RobotCellHouse$Floor", "putBack", "(I)V"⟩, 20), (⟨"RobotCellHouse$Floor", "comeTo", "(III)V"⟩, 20), (⟨"RobotCellHouse$Floor", "lieAt", "(III)V"⟩, 20), (⟨"RobotCellHouse", "isArm", "(I)Z"⟩, 15), (⟨"RobotCellHouse", "isJoint", "(II)Z"⟩, 15), (⟨"RobotCellHouse", "isBelt", "(I)Z"⟩, 15), (⟨"RobotCellHouse$Reader", "advance", "()V"⟩, 17), (⟨"RobotCellHouse$Reader", "skipBlanks", "()V"⟩, 17), (⟨"RobotCellHouse$Reader", "byteAt", "(I)I"⟩, 17), (⟨"RobotCellHouse$Reader", "readNumber", "()V"⟩, 17), (⟨"RobotCellHouse$Reader", "readWord", "()V"⟩, 17)]
theorem lw_r1 : ∀ q ∈ lw_privs_1, lw_okq q := List.forall_mem_cons.mpr ⟨lw_p0, List.forall_mem_cons.mpr ⟨lw_p1, List.forall_mem_cons.mpr ⟨lw_p2, List.forall_mem_cons.mpr ⟨lw_p3, List.forall_mem_cons.mpr ⟨lw_p4, List.forall_mem_cons.mpr ⟨lw_p5, List.forall_mem_cons.mpr ⟨lw_p6, List.forall_mem_cons.mpr ⟨lw_p7, List.forall_mem_cons.mpr ⟨lw_p8, List.forall_mem_cons.mpr ⟨lw_p9, List.forall_mem_cons.mpr ⟨lw_p10, List.forall_mem_cons.mpr ⟨lw_p11, List.forall_mem_cons.mpr ⟨lw_p12, List.forall_mem_cons.mpr ⟨lw_p13, List.forall_mem_cons.mpr ⟨lw_p14, List.forall_mem_cons.mpr ⟨lw_p15, fun _ h => absurd h List.not_mem_nil⟩⟩⟩⟩⟩⟩⟩⟩⟩⟩⟩⟩⟩⟩⟩⟩
theorem lw_p16 : lw_okq (⟨"RobotCellHouse$Reader", "wordKind", "()I"⟩, 17) := ⟨⟨by decide +kernel, by decide +kernel⟩, (lw_t1 (List.mem_of_getElem? (i := 30) rfl)), (lw_t5 (List.mem_of_getElem? (i := 111) rfl)), (lw_t5 (List.mem_of_getElem? (i := 112) rfl))⟩
theorem lw_p17 : lw_okq (⟨"RobotCellHouse$Reader", "readSign", "(I)V"⟩, 17) := ⟨⟨by decide +kernel, by decide +kernel⟩, (lw_t1 (List.mem_of_getElem? (i := 30) rfl)), (lw_t5 (List.mem_of_getElem? (i := 164) rfl)), (lw_t5 (List.mem_of_getElem? (i := 165) rfl))⟩
theorem lw_p18 : lw_okq (⟨"RobotCellHouse$Reader", "declarations", "()V"⟩, 17) := ⟨⟨by decide +kernel, by decide +kernel⟩, (lw_t1 (List.mem_of_getElem? (i := 30) rfl)), (lw_t5 (List.mem_of_getElem? (i := 228) rfl)), (lw_t5 (List.mem_of_getElem? (i := 229) rfl))⟩
theorem lw_p19 : lw_okq (⟨"RobotCellHouse$Reader", "declareVariable", "()V"⟩, 17) := ⟨⟨by decide +kernel, by decide +kernel⟩, (lw_t1 (List.mem_of_getElem? (i := 30) rfl)), (lw_t5 (List.mem_of_getElem? (i := 232) rfl)), (lw_t5 (List.mem_of_getElem? (i := 233) rfl))⟩
theorem lw_p20 : lw_okq (⟨"RobotCellHouse$Reader", "checkNewName", "()V"⟩, 17) := ⟨⟨by decide +kernel, by decide +kernel⟩, (lw_t1 (List.mem_of_getElem? (i := 30) rfl)), (lw_t5 (List.mem_of_getElem? (i := 236) rfl)), (lw_t5 (List.mem_of_getElem? (i := 237) rfl))⟩
theorem lw_p21 : lw_okq (⟨"RobotCellHouse$Reader", "findVariable", "(I)I"⟩, 17) := ⟨⟨by decide +kernel, by decide +kernel⟩, (lw_t1 (List.mem_of_getElem? (i := 30) rfl)), (lw_t6 (List.mem_of_getElem? (i := 0) rfl)), (lw_t6 (List.mem_of_getElem? (i := 1) rfl))⟩
theorem lw_p22 : lw_okq (⟨"RobotCellHouse$Reader", "isSameName", "(II)Z"⟩, 17) := ⟨⟨by decide +kernel, by decide +kernel⟩, (lw_t1 (List.mem_of_getElem? (i := 30) rfl)), (lw_t6 (List.mem_of_getElem? (i := 4) rfl)), (lw_t6 (List.mem_of_getElem? (i := 5) rfl))⟩
theorem lw_p23 : lw_okq (⟨"RobotCellHouse$Reader", "findRoutine", "(I)I"⟩, 17) := ⟨⟨by decide +kernel, by decide +kernel⟩, (lw_t1 (List.mem_of_getElem? (i := 30) rfl)), (lw_t6 (List.mem_of_getElem? (i := 8) rfl)), (lw_t6 (List.mem_of_getElem? (i := 9) rfl))⟩
theorem lw_p24 : lw_okq (⟨"RobotCellHouse$Reader", "complain", "(II)V"⟩, 17) := ⟨⟨by decide +kernel, by decide +kernel⟩, (lw_t1 (List.mem_of_getElem? (i := 30) rfl)), (lw_t6 (List.mem_of_getElem? (i := 12) rfl)), (lw_t6 (List.mem_of_getElem? (i := 13) rfl))⟩
theorem lw_p25 : lw_okq (⟨"RobotCellHouse$Reader", "accept", "(I)V"⟩, 17) := ⟨⟨by decide +kernel, by decide +kernel⟩, (lw_t1 (List.mem_of_getElem? (i := 30) rfl)), (lw_t6 (List.mem_of_getElem? (i := 16) rfl)), (lw_t6 (List.mem_of_getElem? (i := 17) rfl))⟩
theorem lw_p26 : lw_okq (⟨"RobotCellHouse$Reader", "refuse", "()V"⟩, 17) := ⟨⟨by decide +kernel, by decide +kernel⟩, (lw_t1 (List.mem_of_getElem? (i := 30) rfl)), (lw_t6 (List.mem_of_getElem? (i := 20) rfl)), (lw_t6 (List.mem_of_getElem? (i := 21) rfl))⟩
theorem lw_p27 : lw_okq (⟨"RobotCellHouse$Reader", "stick", "(I)V"⟩, 17) := ⟨⟨by decide +kernel, by decide +kernel⟩, (lw_t1 (List.mem_of_getElem? (i := 30) rfl)), (lw_t6 (List.mem_of_getElem? (i := 24) rfl)), (lw_t6 (List.mem_of_getElem? (i := 25) rfl))⟩
theorem lw_p28 : lw_okq (⟨"RobotCellHouse$Reader", "routine", "()V"⟩, 17) := ⟨⟨by decide +kernel, by decide +kernel⟩, (lw_t1 (List.mem_of_getElem? (i := 30) rfl)), (lw_t6 (List.mem_of_getElem? (i := 28) rfl)), (lw_t6 (List.mem_of_getElem? (i := 29) rfl))⟩
theorem lw_p29 : lw_okq (⟨"RobotCellHouse$Reader", "block", "()V"⟩, 17) := ⟨⟨by decide +kernel, by decide +kernel⟩, (lw_t1 (List.mem_of_getElem? (i := 30) rfl)), (lw_t6 (List.mem_of_getElem? (i := 32) rfl)), (lw_t6 (List.mem_of_getElem? (i := 33) rfl))⟩
theorem lw_p30 : lw_okq (⟨"RobotCellHouse$Reader", "isStatement", "()Z"⟩, 17) := ⟨⟨by decide +kernel, by decide +kernel⟩, (lw_t1 (List.mem_of_getElem? (i := 30) rfl)), (lw_t6 (List.mem_of_getElem? (i := 36) rfl)), (lw_t6 (List.mem_of_getElem? (i := 37) rfl))⟩
theorem lw_p31 : lw_okq (⟨"RobotCellHouse$Reader", "statement", "()V"⟩, 17) := ⟨⟨by decide +kernel, by decide +kernel⟩, (lw_t1 (List.mem_of_getElem? (i := 30) rfl)), (lw_t6 (List.mem_of_getElem? (i := 41) rfl)), (lw_t6 (List.mem_of_getElem? (i := 42) rfl))⟩
def lw_privs_2 : List (MethodName × Nat) := [(⟨"RobotCellHouse$Reader", "wordKind", "()I"⟩, 17), (⟨"RobotCellHouse$Reader", "readSign", "(I)V"⟩, 17), (⟨"RobotCellHouse$Reader", "declarations", "()V"⟩, 17), (⟨"RobotCellHouse$Reader", "declareVariable", "()V"⟩, 17), (⟨"RobotCellHouse$Reader", "checkNewName", "()V"⟩, 17), (⟨"RobotCellHouse$Reader", "findVariable", "(I)I"⟩, 17), (⟨"RobotCellHouse$Reader", "isSameName", "(II)Z"⟩, 17), (⟨"RobotCellHouse$Reader", "findRoutine", "(I)I"⟩, 17), (⟨"RobotCellHouse$Reader", "complain", "(II)V"⟩, 17), (⟨"RobotCellHouse$Reader", "accept", "(I)V"⟩, 17), (⟨"RobotCellHouse$Reader", "refuse", "()V"⟩, 17), (⟨"RobotCellHouse$Reader", "stick", "(I)V"⟩, 17), (⟨"RobotCellHouse$Reader", "routine", "()V"⟩, 17), (⟨"RobotCellHouse$Reader", "block", "()V"⟩, 17), (⟨"RobotCellHouse$Reader", "isStatement", "()Z"⟩, 17), (⟨"RobotCellHouse$Reader", "statement", "()V"⟩, 17)]
theorem lw_r2 : ∀ q ∈ lw_privs_2, lw_okq q := List.forall_mem_cons.mpr ⟨lw_p16, List.forall_mem_cons.mpr ⟨lw_p17, List.forall_mem_cons.mpr ⟨lw_p18, List.forall_mem_cons.mpr ⟨lw_p19, List.forall_mem_cons.mpr ⟨lw_p20, List.forall_mem_cons.mpr ⟨lw_p21, List.forall_mem_cons.mpr ⟨lw_p22, List.forall_mem_cons.mpr ⟨lw_p23, List.forall_mem_cons.mpr ⟨lw_p24, List.forall_mem_cons.mpr ⟨lw_p25, List.forall_mem_cons.mpr ⟨lw_p26, List.forall_mem_cons.mpr ⟨lw_p27, List.forall_mem_cons.mpr ⟨lw_p28, List.forall_mem_cons.mpr ⟨lw_p29, List.forall_mem_cons.mpr ⟨lw_p30, List.forall_mem_cons.mpr ⟨lw_p31, fun _ h => absurd h List.not_mem_nil⟩⟩⟩⟩⟩⟩⟩⟩⟩⟩⟩⟩⟩⟩⟩⟩
theorem lw_p32 : lw_okq (⟨"RobotCellHouse$Reader", "assignment", "()V"⟩, 17) := ⟨⟨by decide +kernel, by decide +kernel⟩, (lw_t1 (List.mem_of_getElem? (i := 30) rfl)), (lw_t6 (List.mem_of_getElem? (i := 49) rfl)), (lw_t6 (List.mem_of_getElem? (i := 50) rfl))⟩
theorem lw_p33 : lw_okq (⟨"RobotCellHouse$Reader", "variableHere", "()I"⟩, 17) := ⟨⟨by decide +kernel, by decide +kernel⟩, (lw_t1 (List.mem_of_getElem? (i := 30) rfl)), (lw_t6 (List.mem_of_getElem? (i := 53) rfl)), (lw_t6 (List.mem_of_getElem? (i := 54) rfl))⟩
theorem lw_p34 : lw_okq (⟨"RobotCellHouse$Reader", "exp", "()V"⟩, 17) := ⟨⟨by decide +kernel, by decide +kernel⟩, (lw_t1 (List.mem_of_getElem? (i := 30) rfl)), (lw_t6 (List.mem_of_getElem? (i := 58) rfl)), (lw_t6 (List.mem_of_getElem? (i := 59) rfl))⟩
theorem lw_p35 : lw_okq (⟨"RobotCellHouse$Reader", "all", "()V"⟩, 17) := ⟨⟨by decide +kernel, by decide +kernel⟩, (lw_t1 (List.mem_of_getElem? (i := 30) rfl)), (lw_t6 (List.mem_of_getElem? (i := 62) rfl)), (lw_t6 (List.mem_of_getElem? (i := 63) rfl))⟩
theorem lw_p36 : lw_okq (⟨"RobotCellHouse$Reader", "fact", "()V"⟩, 17) := ⟨⟨by decide +kernel, by decide +kernel⟩, (lw_t1 (List.mem_of_getElem? (i := 30) rfl)), (lw_t6 (List.mem_of_getElem? (i := 66) rfl)), (lw_t6 (List.mem_of_getElem? (i := 67) rfl))⟩
theorem lw_p37 : lw_okq (⟨"RobotCellHouse$Reader", "opens", "()Z"⟩, 17) := ⟨⟨by decide +kernel, by decide +kernel⟩, (lw_t1 (List.mem_of_getElem? (i := 30) rfl)), (lw_t6 (List.mem_of_getElem? (i := 70) rfl)), (lw_t6 (List.mem_of_getElem? (i := 71) rfl))⟩
theorem lw_p38 : lw_okq (⟨"RobotCellHouse$Reader", "sum", "()V"⟩, 17) := ⟨⟨by decide +kernel, by decide +kernel⟩, (lw_t1 (List.mem_of_getElem? (i := 30) rfl)), (lw_t6 (List.mem_of_getElem? (i := 74) rfl)), (lw_t6 (List.mem_of_getElem? (i := 75) rfl))⟩
theorem lw_p39 : lw_okq (⟨"RobotCellHouse$Reader", "product", "()V"⟩, 17) := ⟨⟨by decide +kernel, by decide +kernel⟩, (lw_t1 (List.mem_of_getElem? (i := 30) rfl)), (lw_t6 (List.mem_of_getElem? (i := 78) rfl)), (lw_t6 (List.mem_of_getElem? (i := 79) rfl))⟩
theorem lw_p40 : lw_okq (⟨"RobotCellHouse$Reader", "one", "()V"⟩, 17) := ⟨⟨by decide +kernel, by decide +kernel⟩, (lw_t1 (List.mem_of_getElem? (i := 30) rfl)), (lw_t6 (List.mem_of_getElem? (i := 82) rfl)), (lw_t6 (List.mem_of_getElem? (i := 83) rfl))⟩
theorem lw_p41 : lw_okq (⟨"RobotCellHouse$Reader", "emitNumber", "()V"⟩, 17) := ⟨⟨by decide +kernel, by decide +kernel⟩, (lw_t1 (List.mem_of_getElem? (i := 30) rfl)), (lw_t6 (List.mem_of_getElem? (i := 86) rfl)), (lw_t6 (List.mem_of_getElem? (i := 87) rfl))⟩
theorem lw_p42 : lw_okq (⟨"RobotCellHouse$Reader", "inParentheses", "()V"⟩, 17) := ⟨⟨by decide +kernel, by decide +kernel⟩, (lw_t1 (List.mem_of_getElem? (i := 30) rfl)), (lw_t6 (List.mem_of_getElem? (i := 91) rfl)), (lw_t6 (List.mem_of_getElem? (i := 92) rfl))⟩
theorem lw_p43 : lw_okq (⟨"RobotCellHouse$Reader", "comparison", "()I"⟩, 17) := ⟨⟨by decide +kernel, by decide +kernel⟩, (lw_t1 (List.mem_of_getElem? (i := 30) rfl)), (lw_t6 (List.mem_of_getElem? (i := 95) rfl)), (lw_t6 (List.mem_of_getElem? (i := 96) rfl))⟩
theorem lw_p44 : lw_okq (⟨"RobotCellHouse$Reader", "movement", "()V"⟩, 17) := ⟨⟨by decide +kernel, by decide +kernel⟩, (lw_t1 (List.mem_of_getElem? (i := 30) rfl)), (lw_t6 (List.mem_of_getElem? (i := 103) rfl)), (lw_t6 (List.mem_of_getElem? (i := 104) rfl))⟩
theorem lw_p45 : lw_okq (⟨"RobotCellHouse$Reader", "withNumber", "(I)V"⟩, 17) := ⟨⟨by decide +kernel, by decide +kernel⟩, (lw_t1 (List.mem_of_getElem? (i := 30) rfl)), (lw_t6 (List.mem_of_getElem? (i := 107) rfl)), (lw_t6 (List.mem_of_getElem? (i := 108) rfl))⟩
theorem lw_p46 : lw_okq (⟨"RobotCellHouse$Reader", "setting", "()V"⟩, 17) := ⟨⟨by decide +kernel, by decide +kernel⟩, (lw_t1 (List.mem_of_getElem? (i := 30) rfl)), (lw_t6 (List.mem_of_getElem? (i := 111) rfl)), (lw_t6 (List.mem_of_getElem? (i := 112) rfl))⟩
theorem lw_p47 : lw_okq (⟨"RobotCellHouse$Reader", "withRoutine", "(I)V"⟩, 17) := ⟨⟨by decide +kernel, by decide +kernel⟩, (lw_t1 (List.mem_of_getElem? (i := 30) rfl)), (lw_t6 (List.mem_of_getElem? (i := 115) rfl)), (lw_t6 (List.mem_of_getElem? (i := 116) rfl))⟩
def lw_privs_3 : List (MethodName × Nat) := [(⟨"RobotCellHouse$Reader", "assignment", "()V"⟩, 17), (⟨"RobotCellHouse$Reader", "variableHere", "()I"⟩, 17), (⟨"RobotCellHouse$Reader", "exp", "()V"⟩, 17), (⟨"RobotCellHouse$Reader", "all", "()V"⟩, 17), (⟨"RobotCellHouse$Reader", "fact", "()V"⟩, 17), (⟨"RobotCellHouse$Reader", "opens", "()Z"⟩, 17), (⟨"RobotCellHouse$Reader", "sum", "()V"⟩, 17), (⟨"RobotCellHouse$Reader", "product", "()V"⟩, 17), (⟨"RobotCellHouse$Reader", "one", "()V"⟩, 17), (⟨"RobotCellHouse$Reader", "emitNumber", "()V"⟩, 17), (⟨"RobotCellHouse$Reader", "inParentheses", "()V"⟩, 17), (⟨"RobotCellHouse$Reader", "comparison", "()I"⟩, 17), (⟨"RobotCellHouse$Reader", "movement", "()V"⟩, 17), (⟨"RobotCellHouse$Reader", "withNumber", "(I)V"⟩, 17), (⟨"RobotCellHouse$Reader", "setting", "()V"⟩, 17), (⟨"RobotCellHouse$Reader", "withRoutine", "(I)V"⟩, 17)]
theorem lw_r3 : ∀ q ∈ lw_privs_3, lw_okq q := List.forall_mem_cons.mpr ⟨lw_p32, List.forall_mem_cons.mpr ⟨lw_p33, List.forall_mem_cons.mpr ⟨lw_p34, List.forall_mem_cons.mpr ⟨lw_p35, List.forall_mem_cons.mpr ⟨lw_p36, List.forall_mem_cons.mpr ⟨lw_p37, List.forall_mem_cons.mpr ⟨lw_p38, List.forall_mem_cons.mpr ⟨lw_p39, List.forall_mem_cons.mpr ⟨lw_p40, List.forall_mem_cons.mpr ⟨lw_p41, List.forall_mem_cons.mpr ⟨lw_p42, List.forall_mem_cons.mpr ⟨lw_p43, List.forall_mem_cons.mpr ⟨lw_p44, List.forall_mem_cons.mpr ⟨lw_p45, List.forall_mem_cons.mpr ⟨lw_p46, List.forall_mem_cons.mpr ⟨lw_p47, fun _ h => absurd h List.not_mem_nil⟩⟩⟩⟩⟩⟩⟩⟩⟩⟩⟩⟩⟩⟩⟩⟩
theorem lw_p48 : lw_okq (⟨"RobotCellHouse$Reader", "bare", "(I)V"⟩, 17) := ⟨⟨by decide +kernel, by decide +kernel⟩, (lw_t1 (List.mem_of_getElem? (i := 30) rfl)), (lw_t6 (List.mem_of_getElem? (i := 119) rfl)), (lw_t6 (List.mem_of_getElem? (i := 120) rfl))⟩
theorem lw_p49 : lw_okq (⟨"RobotCellHouse$Reader", "watching", "()V"⟩, 17) := ⟨⟨by decide +kernel, by decide +kernel⟩, (lw_t1 (List.mem_of_getElem? (i := 30) rfl)), (lw_t6 (List.mem_of_getElem? (i := 123) rfl)), (lw_t6 (List.mem_of_getElem? (i := 124) rfl))⟩
theorem lw_p50 : lw_okq (⟨"RobotCellHouse$Reader", "breaking", "()V"⟩, 17) := ⟨⟨by decide +kernel, by decide +kernel⟩, (lw_t1 (List.mem_of_getElem? (i := 30) rfl)), (lw_t6 (List.mem_of_getElem? (i := 127) rfl)), (lw_t6 (List.mem_of_getElem? (i := 128) rfl))⟩
theorem lw_p51 : lw_okq (⟨"RobotCellHouse$Reader", "choice", "()V"⟩, 17) := ⟨⟨by decide +kernel, by decide +kernel⟩, (lw_t1 (List.mem_of_getElem? (i := 30) rfl)), (lw_t6 (List.mem_of_getElem? (i := 131) rfl)), (lw_t6 (List.mem_of_getElem? (i := 132) rfl))⟩
theorem lw_p52 : lw_okq (⟨"RobotCellHouse$Reader", "repetition", "()V"⟩, 17) := ⟨⟨by decide +kernel, by decide +kernel⟩, (lw_t1 (List.mem_of_getElem? (i := 30) rfl)), (lw_t6 (List.mem_of_getElem? (i := 135) rfl)), (lw_t6 (List.mem_of_getElem? (i := 136) rfl))⟩
theorem lw_p53 : lw_okq (⟨"RobotCellHouse$Reader", "attempt", "()V"⟩, 17) := ⟨⟨by decide +kernel, by decide +kernel⟩, (lw_t1 (List.mem_of_getElem? (i := 30) rfl)), (lw_t6 (List.mem_of_getElem? (i := 139) rfl)), (lw_t6 (List.mem_of_getElem? (i := 140) rfl))⟩
theorem lw_p54 : lw_okq (⟨"RobotCellHouse$Reader", "laterPart", "(I)V"⟩, 17) := ⟨⟨by decide +kernel, by decide +kernel⟩, (lw_t1 (List.mem_of_getElem? (i := 30) rfl)), (lw_t6 (List.mem_of_getElem? (i := 143) rfl)), (lw_t6 (List.mem_of_getElem? (i := 144) rfl))⟩
theorem lw_p55 : lw_okq (⟨"RobotCellHouse$Reader", "findRoutines", "()V"⟩, 17) := ⟨⟨by decide +kernel, by decide +kernel⟩, (lw_t1 (List.mem_of_getElem? (i := 30) rfl)), (lw_t6 (List.mem_of_getElem? (i := 147) rfl)), (lw_t6 (List.mem_of_getElem? (i := 148) rfl))⟩
theorem lw_p56 : lw_okq (⟨"RobotCellHouse", "enter", "(IIII)I"⟩, 15) := ⟨⟨by decide +kernel, by decide +kernel⟩, (lw_t1 (List.mem_of_getElem? (i := 22) rfl)), (lw_t6 (List.mem_of_getElem? (i := 180) rfl)), (lw_t6 (List.mem_of_getElem? (i := 181) rfl))⟩
theorem lw_p57 : lw_okq (⟨"RobotCellHouse", "isBookOpen", "()Z"⟩, 15) := ⟨⟨by decide +kernel, by decide +kernel⟩, (lw_t1 (List.mem_of_getElem? (i := 22) rfl)), (lw_t6 (List.mem_of_getElem? (i := 184) rfl)), (lw_t6 (List.mem_of_getElem? (i := 185) rfl))⟩
theorem lw_p58 : lw_okq (⟨"RobotCellHouse", "write", "(IIII)V"⟩, 15) := ⟨⟨by decide +kernel, by decide +kernel⟩, (lw_t1 (List.mem_of_getElem? (i := 22) rfl)), (lw_t6 (List.mem_of_getElem? (i := 188) rfl)), (lw_t6 (List.mem_of_getElem? (i := 189) rfl))⟩
theorem lw_p59 : lw_okq (⟨"RobotCellHouse", "carryOut", "(IIII)I"⟩, 15) := ⟨⟨by decide +kernel, by decide +kernel⟩, (lw_t1 (List.mem_of_getElem? (i := 22) rfl)), (lw_t6 (List.mem_of_getElem? (i := 192) rfl)), (lw_t6 (List.mem_of_getElem? (i := 193) rfl))⟩
theorem lw_p60 : lw_okq (⟨"RobotCellHouse", "halt", "(I)I"⟩, 15) := ⟨⟨by decide +kernel, by decide +kernel⟩, (lw_t1 (List.mem_of_getElem? (i := 22) rfl)), (lw_t6 (List.mem_of_getElem? (i := 222) rfl)), (lw_t6 (List.mem_of_getElem? (i := 223) rfl))⟩
theorem lw_p61 : lw_okq (⟨"RobotCellHouse", "trip", "(II)V"⟩, 15) := ⟨⟨by decide +kernel, by decide +kernel⟩, (lw_t1 (List.mem_of_getElem? (i := 22) rfl)), (lw_t6 (List.mem_of_getElem? (i := 226) rfl)), (lw_t6 (List.mem_of_getElem? (i := 227) rfl))⟩
theorem lw_p62 : lw_okq (⟨"RobotCellHouse", "lead", "(III)I"⟩, 15) := ⟨⟨by decide +kernel, by decide +kernel⟩, (lw_t1 (List.mem_of_getElem? (i := 22) rfl)), (lw_t7 (List.mem_of_getElem? (i := 9) rfl)), (lw_t7 (List.mem_of_getElem? (i := 10) rfl))⟩
theorem lw_p63 : lw_okq (⟨"RobotCellHouse", "tick", "()V"⟩, 15) := ⟨⟨by decide +kernel, by decide +kernel⟩, (lw_t1 (List.mem_of_getElem? (i := 22) rfl)), (lw_t7 (List.mem_of_getElem? (i := 48) rfl)), (lw_t7 (List.mem_of_getElem? (i := 49) rfl))⟩
def lw_privs_4 : List (MethodName × Nat) := [(⟨"RobotCellHouse$Reader", "bare", "(I)V"⟩, 17), (⟨"RobotCellHouse$Reader", "watching", "()V"⟩, 17), (⟨"RobotCellHouse$Reader", "breaking", "()V"⟩, 17), (⟨"RobotCellHouse$Reader", "choice", "()V"⟩, 17), (⟨"RobotCellHouse$Reader", "repetition", "()V"⟩, 17), (⟨"RobotCellHouse$Reader", "attempt", "()V"⟩, 17), (⟨"RobotCellHouse$Reader", "laterPart", "(I)V"⟩, 17), (⟨"RobotCellHouse$Reader", "findRoutines", "()V"⟩, 17), (⟨"RobotCellHouse", "enter", "(IIII)I"⟩, 15), (⟨"RobotCellHouse", "isBookOpen", "()Z"⟩, 15), (⟨"RobotCellHouse", "write", "(IIII)V"⟩, 15), (⟨"RobotCellHouse", "carryOut", "(IIII)I"⟩, 15), (⟨"RobotCellHouse", "halt", "(I)I"⟩, 15), (⟨"RobotCellHouse", "trip", "(II)V"⟩, 15), (⟨"RobotCellHouse", "lead", "(III)I"⟩, 15), (⟨"RobotCellHouse", "tick", "()V"⟩, 15)]
theorem lw_r4 : ∀ q ∈ lw_privs_4, lw_okq q := List.forall_mem_cons.mpr ⟨lw_p48, List.forall_mem_cons.mpr ⟨lw_p49, List.forall_mem_cons.mpr ⟨lw_p50, List.forall_mem_cons.mpr ⟨lw_p51, List.forall_mem_cons.mpr ⟨lw_p52, List.forall_mem_cons.mpr ⟨lw_p53, List.forall_mem_cons.mpr ⟨lw_p54, List.forall_mem_cons.mpr ⟨lw_p55, List.forall_mem_cons.mpr ⟨lw_p56, List.forall_mem_cons.mpr ⟨lw_p57, List.forall_mem_cons.mpr ⟨lw_p58, List.forall_mem_cons.mpr ⟨lw_p59, List.forall_mem_cons.mpr ⟨lw_p60, List.forall_mem_cons.mpr ⟨lw_p61, List.forall_mem_cons.mpr ⟨lw_p62, List.forall_mem_cons.mpr ⟨lw_p63, fun _ h => absurd h List.not_mem_nil⟩⟩⟩⟩⟩⟩⟩⟩⟩⟩⟩⟩⟩⟩⟩⟩
theorem lw_p64 : lw_okq (⟨"RobotCellHouse$Core", "isWell", "(I)Z"⟩, 15) := ⟨⟨by decide +kernel, by decide +kernel⟩, (lw_t2 (List.mem_of_getElem? (i := 7) rfl)), (lw_t7 (List.mem_of_getElem? (i := 56) rfl)), (lw_t7 (List.mem_of_getElem? (i := 57) rfl))⟩
theorem lw_p65 : lw_okq (⟨"RobotCellHouse$Doer", "goOn", "(LRobotCellHouse$Task;)V"⟩, 12) := ⟨⟨by decide +kernel, by decide +kernel⟩, (lw_t1 (List.mem_of_getElem? (i := 123) rfl)), (lw_t7 (List.mem_of_getElem? (i := 69) rfl)), (lw_t7 (List.mem_of_getElem? (i := 70) rfl))⟩
theorem lw_p66 : lw_okq (⟨"RobotCellHouse$Doer", "raise", "(I)V"⟩, 12) := ⟨⟨by decide +kernel, by decide +kernel⟩, (lw_t1 (List.mem_of_getElem? (i := 123) rfl)), (lw_t7 (List.mem_of_getElem? (i := 73) rfl)), (lw_t7 (List.mem_of_getElem? (i := 74) rfl))⟩
theorem lw_p67 : lw_okq (⟨"RobotCellHouse$Doer", "leaveByError", "(LRobotCellHouse$Task;LRobotCellHouse$Code;)V"⟩, 12) := ⟨⟨by decide +kernel, by decide +kernel⟩, (lw_t1 (List.mem_of_getElem? (i := 123) rfl)), (lw_t7 (List.mem_of_getElem? (i := 80) rfl)), (lw_t7 (List.mem_of_getElem? (i := 81) rfl))⟩
theorem lw_p68 : lw_okq (⟨"RobotCellHouse$Task", "goToPart", "(II)V"⟩, 21) := ⟨⟨by decide +kernel, by decide +kernel⟩, (lw_t3 (List.mem_of_getElem? (i := 4) rfl)), (lw_t7 (List.mem_of_getElem? (i := 89) rfl)), (lw_t7 (List.mem_of_getElem? (i := 90) rfl))⟩
theorem lw_p69 : lw_okq (⟨"RobotCellHouse$Doer", "failBy", "(LRobotCellHouse$Task;I)V"⟩, 12) := ⟨⟨by decide +kernel, by decide +kernel⟩, (lw_t1 (List.mem_of_getElem? (i := 123) rfl)), (lw_t7 (List.mem_of_getElem? (i := 97) rfl)), (lw_t7 (List.mem_of_getElem? (i := 98) rfl))⟩
theorem lw_p70 : lw_okq (⟨"RobotCellHouse$Doer", "releaseAll", "(LRobotCellHouse$Task;)V"⟩, 12) := ⟨⟨by decide +kernel, by decide +kernel⟩, (lw_t1 (List.mem_of_getElem? (i := 123) rfl)), (lw_t7 (List.mem_of_getElem? (i := 105) rfl)), (lw_t7 (List.mem_of_getElem? (i := 106) rfl))⟩
theorem lw_p71 : lw_okq (⟨"RobotCellHouse$Doer", "release", "(I)V"⟩, 12) := ⟨⟨by decide +kernel, by decide +kernel⟩, (lw_t1 (List.mem_of_getElem? (i := 123) rfl)), (lw_t7 (List.mem_of_getElem? (i := 109) rfl)), (lw_t7 (List.mem_of_getElem? (i := 110) rfl))⟩
theorem lw_p72 : lw_okq (⟨"RobotCellHouse$Doer", "watchCalls", "(LRobotCellHouse$Task;LRobotCellHouse$Code;)Z"⟩, 12) := ⟨⟨by decide +kernel, by decide +kernel⟩, (lw_t1 (List.mem_of_getElem? (i := 123) rfl)), (lw_t7 (List.mem_of_getElem? (i := 114) rfl)), (lw_t7 (List.mem_of_getElem? (i := 115) rfl))⟩
theorem lw_p73 : lw_okq (⟨"RobotCellHouse$Doer", "look", "(LRobotCellHouse$Task;II)V"⟩, 12) := ⟨⟨by decide +kernel, by decide +kernel⟩, (lw_t1 (List.mem_of_getElem? (i := 123) rfl)), (lw_t7 (List.mem_of_getElem? (i := 119) rfl)), (lw_t7 (List.mem_of_getElem? (i := 120) rfl))⟩
theorem lw_p74 : lw_okq (⟨"RobotCellHouse$Doer", "push", "(I)V"⟩, 12) := ⟨⟨by decide +kernel, by decide +kernel⟩, (lw_t1 (List.mem_of_getElem? (i := 123) rfl)), (lw_t7 (List.mem_of_getElem? (i := 123) rfl)), (lw_t7 (List.mem_of_getElem? (i := 124) rfl))⟩
theorem lw_p75 : lw_okq (⟨"RobotCellHouse$Doer", "pop", "()I"⟩, 12) := ⟨⟨by decide +kernel, by decide +kernel⟩, (lw_t1 (List.mem_of_getElem? (i := 123) rfl)), (lw_t7 (List.mem_of_getElem? (i := 127) rfl)), (lw_t7 (List.mem_of_getElem? (i := 128) rfl))⟩
theorem lw_p76 : lw_okq (⟨"RobotCellHouse$Doer", "pushSignal", "(I)V"⟩, 12) := ⟨⟨by decide +kernel, by decide +kernel⟩, (lw_t1 (List.mem_of_getElem? (i := 123) rfl)), (lw_t7 (List.mem_of_getElem? (i := 131) rfl)), (lw_t7 (List.mem_of_getElem? (i := 132) rfl))⟩
theorem lw_p77 : lw_okq (⟨"RobotCellHouse$Doer", "pushJoint", "(LRobotCellHouse$Arm;I)V"⟩, 12) := ⟨⟨by decide +kernel, by decide +kernel⟩, (lw_t1 (List.mem_of_getElem? (i := 123) rfl)), (lw_t7 (List.mem_of_getElem? (i := 136) rfl)), (lw_t7 (List.mem_of_getElem? (i := 137) rfl))⟩
theorem lw_p78 : lw_okq (⟨"RobotCellHouse$Doer", "changeTop", "(LRobotCellHouse$Task;II)V"⟩, 12) := ⟨⟨by decide +kernel, by decide +kernel⟩, (lw_t1 (List.mem_of_getElem? (i := 123) rfl)), (lw_t7 (List.mem_of_getElem? (i := 140) rfl)), (lw_t7 (List.mem_of_getElem? (i := 141) rfl))⟩
theorem lw_p79 : lw_okq (⟨"RobotCellHouse$Doer", "combine", "(III)V"⟩, 12) := ⟨⟨by decide +kernel, by decide +kernel⟩, (lw_t1 (List.mem_of_getElem? (i := 123) rfl)), (lw_t7 (List.mem_of_getElem? (i := 144) rfl)), (lw_t7 (List.mem_of_getElem? (i := 145) rfl))⟩
def lw_privs_5 : List (MethodName × Nat) := [(⟨"RobotCellHouse$Core", "isWell", "(I)Z"⟩, 15), (⟨"RobotCellHouse$Doer", "goOn", "(LRobotCellHouse$Task;)V"⟩, 12), (⟨"RobotCellHouse$Doer", "raise", "(I)V"⟩, 12), (⟨"RobotCellHouse$Doer", "leaveByError", "(LRobotCellHouse$Task;LRobotCellHouse$Code;)V"⟩, 12), (⟨"RobotCellHouse$Task", "goToPart", "(II)V"⟩, 21), (⟨"RobotCellHouse$Doer", "failBy", "(LRobotCellHouse$Task;I)V"⟩, 12), (⟨"RobotCellHouse$Doer", "releaseAll", "(LRobotCellHouse$Task;)V"⟩, 12), (⟨"RobotCellHouse$Doer", "release", "(I)V"⟩, 12), (⟨"RobotCellHouse$Doer", "watchCalls", "(LRobotCellHouse$Task;LRobotCellHouse$Code;)Z"⟩, 12), (⟨"RobotCellHouse$Doer", "look", "(LRobotCellHouse$Task;II)V"⟩, 12), (⟨"RobotCellHouse$Doer", "push", "(I)V"⟩, 12), (⟨"RobotCellHouse$Doer", "pop", "()I"⟩, 12), (⟨"RobotCellHouse$Doer", "pushSignal", "(I)V"⟩, 12), (⟨"RobotCellHouse$Doer", "pushJoint", "(LRobotCellHouse$Arm;I)V"⟩, 12), (⟨"RobotCellHouse$Doer", "changeTop", "(LRobotCellHouse$Task;II)V"⟩, 12), (⟨"RobotCellHouse$Doer", "combine", "(III)V"⟩, 12)]
theorem lw_r5 : ∀ q ∈ lw_privs_5, lw_okq q := List.forall_mem_cons.mpr ⟨lw_p64, List.forall_mem_cons.mpr ⟨lw_p65, List.forall_mem_cons.mpr ⟨lw_p66, List.forall_mem_cons.mpr ⟨lw_p67, List.forall_mem_cons.mpr ⟨lw_p68, List.forall_mem_cons.mpr ⟨lw_p69, List.forall_mem_cons.mpr ⟨lw_p70, List.forall_mem_cons.mpr ⟨lw_p71, List.forall_mem_cons.mpr ⟨lw_p72, List.forall_mem_cons.mpr ⟨lw_p73, List.forall_mem_cons.mpr ⟨lw_p74, List.forall_mem_cons.mpr ⟨lw_p75, List.forall_mem_cons.mpr ⟨lw_p76, List.forall_mem_cons.mpr ⟨lw_p77, List.forall_mem_cons.mpr ⟨lw_p78, List.forall_mem_cons.mpr ⟨lw_p79, fun _ h => absurd h List.not_mem_nil⟩⟩⟩⟩⟩⟩⟩⟩⟩⟩⟩⟩⟩⟩⟩⟩
theorem lw_p80 : lw_okq (⟨"RobotCellHouse$Doer", "act", "(LRobotCellHouse$Task;LRobotCellHouse$Code;II)V"⟩, 12) := ⟨⟨by decide +kernel, by decide +kernel⟩, (lw_t1 (List.mem_of_getElem? (i := 123) rfl)), (lw_t7 (List.mem_of_getElem? (i := 148) rfl)), (lw_t7 (List.mem_of_getElem? (i := 149) rfl))⟩
theorem lw_p81 : lw_okq (⟨"RobotCellHouse$Doer", "collect", "(II)V"⟩, 12) := ⟨⟨by decide +kernel, by decide +kernel⟩, (lw_t1 (List.mem_of_getElem? (i := 123) rfl)), (lw_t7 (List.mem_of_getElem? (i := 152) rfl)), (lw_t7 (List.mem_of_getElem? (i := 153) rfl))⟩
theorem lw_p82 : lw_okq (⟨"RobotCellHouse$Doer", "moveBy", "(LRobotCellHouse$Task;I)V"⟩, 12) := ⟨⟨by decide +kernel, by decide +kernel⟩, (lw_t1 (List.mem_of_getElem? (i := 123) rfl)), (lw_t7 (List.mem_of_getElem? (i := 156) rfl)), (lw_t7 (List.mem_of_getElem? (i := 157) rfl))⟩
theorem lw_p83 : lw_okq (⟨"RobotCellHouse$Doer", "reachesGoals", "(LRobotCellHouse$Arm;)Z"⟩, 12) := ⟨⟨by decide +kernel, by decide +kernel⟩, (lw_t1 (List.mem_of_getElem? (i := 123) rfl)), (lw_t7 (List.mem_of_getElem? (i := 160) rfl)), (lw_t7 (List.mem_of_getElem? (i := 161) rfl))⟩
theorem lw_p84 : lw_okq (⟨"RobotCellHouse$Doer", "waitFor", "(LRobotCellHouse$Task;I)V"⟩, 12) := ⟨⟨by decide +kernel, by decide +kernel⟩, (lw_t1 (List.mem_of_getElem? (i := 123) rfl)), (lw_t7 (List.mem_of_getElem? (i := 170) rfl)), (lw_t7 (List.mem_of_getElem? (i := 171) rfl))⟩
theorem lw_p85 : lw_okq (⟨"RobotCellHouse$Doer", "waitUntil", "(LRobotCellHouse$Task;II)V"⟩, 12) := ⟨⟨by decide +kernel, by decide +kernel⟩, (lw_t1 (List.mem_of_getElem? (i := 123) rfl)), (lw_t7 (List.mem_of_getElem? (i := 174) rfl)), (lw_t7 (List.mem_of_getElem? (i := 175) rfl))⟩
theorem lw_p86 : lw_okq (⟨"RobotCellHouse$Doer", "setPoint", "(II)V"⟩, 12) := ⟨⟨by decide +kernel, by decide +kernel⟩, (lw_t1 (List.mem_of_getElem? (i := 123) rfl)), (lw_t7 (List.mem_of_getElem? (i := 178) rfl)), (lw_t7 (List.mem_of_getElem? (i := 179) rfl))⟩
theorem lw_p87 : lw_okq (⟨"RobotCellHouse$Doer", "takeLock", "(LRobotCellHouse$Task;I)V"⟩, 12) := ⟨⟨by decide +kernel, by decide +kernel⟩, (lw_t1 (List.mem_of_getElem? (i := 123) rfl)), (lw_t7 (List.mem_of_getElem? (i := 183) rfl)), (lw_t7 (List.mem_of_getElem? (i := 184) rfl))⟩
theorem lw_p88 : lw_okq (⟨"RobotCellHouse$Doer", "freeLock", "(LRobotCellHouse$Task;I)V"⟩, 12) := ⟨⟨by decide +kernel, by decide +kernel⟩, (lw_t1 (List.mem_of_getElem? (i := 123) rfl)), (lw_t7 (List.mem_of_getElem? (i := 187) rfl)), (lw_t7 (List.mem_of_getElem? (i := 188) rfl))⟩
theorem lw_p89 : lw_okq (⟨"RobotCellHouse$Doer", "grip", "(I)V"⟩, 12) := ⟨⟨by decide +kernel, by decide +kernel⟩, (lw_t1 (List.mem_of_getElem? (i := 123) rfl)), (lw_t7 (List.mem_of_getElem? (i := 192) rfl)), (lw_t7 (List.mem_of_getElem? (i := 193) rfl))⟩
theorem lw_p90 : lw_okq (⟨"RobotCellHouse$Doer", "drop", "(I)V"⟩, 12) := ⟨⟨by decide +kernel, by decide +kernel⟩, (lw_t1 (List.mem_of_getElem? (i := 123) rfl)), (lw_t7 (List.mem_of_getElem? (i := 216) rfl)), (lw_t7 (List.mem_of_getElem? (i := 217) rfl))⟩
theorem lw_p91 : lw_okq (⟨"RobotCellHouse$Doer", "watch", "(LRobotCellHouse$Task;II)V"⟩, 12) := ⟨⟨by decide +kernel, by decide +kernel⟩, (lw_t1 (List.mem_of_getElem? (i := 123) rfl)), (lw_t7 (List.mem_of_getElem? (i := 228) rfl)), (lw_t7 (List.mem_of_getElem? (i := 229) rfl))⟩
theorem lw_p92 : lw_okq (⟨"RobotCellHouse$Doer", "lead", "(LRobotCellHouse$Task;LRobotCellHouse$Code;II)V"⟩, 12) := ⟨⟨by decide +kernel, by decide +kernel⟩, (lw_t1 (List.mem_of_getElem? (i := 123) rfl)), (lw_t7 (List.mem_of_getElem? (i := 232) rfl)), (lw_t7 (List.mem_of_getElem? (i := 233) rfl))⟩
theorem lw_p93 : lw_okq (⟨"RobotCellHouse$Doer", "leaveFurther", "(LRobotCellHouse$Task;LRobotCellHouse$Code;I)V"⟩, 12) := ⟨⟨by decide +kernel, by decide +kernel⟩, (lw_t1 (List.mem_of_getElem? (i := 123) rfl)), (lw_t8 (List.mem_of_getElem? (i := 9) rfl)), (lw_t8 (List.mem_of_getElem? (i := 10) rfl))⟩
theorem lw_p94 : lw_okq (⟨"RobotCellHouse$Doer", "endIfLeft", "(LRobotCellHouse$Task;)V"⟩, 12) := ⟨⟨by decide +kernel, by decide +kernel⟩, (lw_t1 (List.mem_of_getElem? (i := 123) rfl)), (lw_t8 (List.mem_of_getElem? (i := 17) rfl)), (lw_t8 (List.mem_of_getElem? (i := 18) rfl))⟩
theorem lw_p95 : lw_okq (⟨"RobotCellHouse", "goOn", "(I)V"⟩, 15) := ⟨⟨by decide +kernel, by decide +kernel⟩, (lw_t1 (List.mem_of_getElem? (i := 22) rfl)), (lw_t8 (List.mem_of_getElem? (i := 21) rfl)), (lw_t8 (List.mem_of_getElem? (i := 22) rfl))⟩
def lw_privs_6 : List (MethodName × Nat) := [(⟨"RobotCellHouse$Doer", "act", "(LRobotCellHouse$Task;LRobotCellHouse$Code;II)V"⟩, 12), (⟨"RobotCellHouse$Doer", "collect", "(II)V"⟩, 12), (⟨"RobotCellHouse$Doer", "moveBy", "(LRobotCellHouse$Task;I)V"⟩, 12), (⟨"RobotCellHouse$Doer", "reachesGoals", "(LRobotCellHouse$Arm;)Z"⟩, 12), (⟨"RobotCellHouse$Doer", "waitFor", "(LRobotCellHouse$Task;I)V"⟩, 12), (⟨"RobotCellHouse$Doer", "waitUntil", "(LRobotCellHouse$Task;II)V"⟩, 12), (⟨"RobotCellHouse$Doer", "setPoint", "(II)V"⟩, 12), (⟨"RobotCellHouse$Doer", "takeLock", "(LRobotCellHouse$Task;I)V"⟩, 12), (⟨"RobotCellHouse$Doer", "freeLock", "(LRobotCellHouse$Task;I)V"⟩, 12), (⟨"RobotCellHouse$Doer", "grip", "(I)V"⟩, 12), (⟨"RobotCellHouse$Doer", "drop", "(I)V"⟩, 12), (⟨"RobotCellHouse$Doer", "watch", "(LRobotCellHouse$Task;II)V"⟩, 12), (⟨"RobotCellHouse$Doer", "lead", "(LRobotCellHouse$Task;LRobotCellHouse$Code;II)V"⟩, 12), (⟨"RobotCellHouse$Doer", "leaveFurther", "(LRobotCellHouse$Task;LRobotCellHouse$Code;I)V"⟩, 12), (⟨"RobotCellHouse$Doer", "endIfLeft", "(LRobotCellHouse$Task;)V"⟩, 12), (⟨"RobotCellHouse", "goOn", "(I)V"⟩, 15)]
theorem lw_r6 : ∀ q ∈ lw_privs_6, lw_okq q := List.forall_mem_cons.mpr ⟨lw_p80, List.forall_mem_cons.mpr ⟨lw_p81, List.forall_mem_cons.mpr ⟨lw_p82, List.forall_mem_cons.mpr ⟨lw_p83, List.forall_mem_cons.mpr ⟨lw_p84, List.forall_mem_cons.mpr ⟨lw_p85, List.forall_mem_cons.mpr ⟨lw_p86, List.forall_mem_cons.mpr ⟨lw_p87, List.forall_mem_cons.mpr ⟨lw_p88, List.forall_mem_cons.mpr ⟨lw_p89, List.forall_mem_cons.mpr ⟨lw_p90, List.forall_mem_cons.mpr ⟨lw_p91, List.forall_mem_cons.mpr ⟨lw_p92, List.forall_mem_cons.mpr ⟨lw_p93, List.forall_mem_cons.mpr ⟨lw_p94, List.forall_mem_cons.mpr ⟨lw_p95, fun _ h => absurd h List.not_mem_nil⟩⟩⟩⟩⟩⟩⟩⟩⟩⟩⟩⟩⟩⟩⟩⟩
theorem lw_p96 : lw_okq (⟨"RobotCellHouse$Joint", "wayToRest", "(I)I"⟩, 12) := ⟨⟨by decide +kernel, by decide +kernel⟩, (lw_t2 (List.mem_of_getElem? (i := 83) rfl)), (lw_t8 (List.mem_of_getElem? (i := 43) rfl)), (lw_t8 (List.mem_of_getElem? (i := 44) rfl))⟩
theorem lw_p97 : lw_okq (⟨"RobotCellHouse", "endMove", "(I)V"⟩, 15) := ⟨⟨by decide +kernel, by decide +kernel⟩, (lw_t1 (List.mem_of_getElem? (i := 22) rfl)), (lw_t8 (List.mem_of_getElem? (i := 56) rfl)), (lw_t8 (List.mem_of_getElem? (i := 57) rfl))⟩
theorem lw_p98 : lw_okq (⟨"RobotCellHouse", "guard", "()V"⟩, 15) := ⟨⟨by decide +kernel, by decide +kernel⟩, (lw_t1 (List.mem_of_getElem? (i := 22) rfl)), (lw_t8 (List.mem_of_getElem? (i := 81) rfl)), (lw_t8 (List.mem_of_getElem? (i := 82) rfl))⟩
theorem lw_p99 : lw_okq (⟨"RobotCellHouse", "firstTouching", "()I"⟩, 15) := ⟨⟨by decide +kernel, by decide +kernel⟩, (lw_t1 (List.mem_of_getElem? (i := 22) rfl)), (lw_t8 (List.mem_of_getElem? (i := 85) rfl)), (lw_t8 (List.mem_of_getElem? (i := 86) rfl))⟩
theorem lw_p100 : lw_okq (⟨"RobotCellHouse$Shapes", "nearBodies", "(LRobotCellHouse$Arm;II)Z"⟩, 17) := ⟨⟨by decide +kernel, by decide +kernel⟩, (lw_t3 (List.mem_of_getElem? (i := 132) rfl)), (lw_t8 (List.mem_of_getElem? (i := 101) rfl)), (lw_t8 (List.mem_of_getElem? (i := 102) rfl))⟩
theorem lw_p101 : lw_okq (⟨"RobotCellHouse$Shapes", "nearLine", "(IIIII)Z"⟩, 17) := ⟨⟨by decide +kernel, by decide +kernel⟩, (lw_t3 (List.mem_of_getElem? (i := 132) rfl)), (lw_t8 (List.mem_of_getElem? (i := 105) rfl)), (lw_t8 (List.mem_of_getElem? (i := 106) rfl))⟩
theorem lw_p102 : lw_okq (⟨"RobotCellHouse$Shapes", "isBeyond", "(IIIII)Z"⟩, 17) := ⟨⟨by decide +kernel, by decide +kernel⟩, (lw_t3 (List.mem_of_getElem? (i := 132) rfl)), (lw_t8 (List.mem_of_getElem? (i := 109) rfl)), (lw_t8 (List.mem_of_getElem? (i := 110) rfl))⟩
theorem lw_p103 : lw_okq (⟨"RobotCellHouse$Shapes", "nearSolid", "(II)Z"⟩, 17) := ⟨⟨by decide +kernel, by decide +kernel⟩, (lw_t3 (List.mem_of_getElem? (i := 132) rfl)), (lw_t8 (List.mem_of_getElem? (i := 123) rfl)), (lw_t8 (List.mem_of_getElem? (i := 124) rfl))⟩
theorem lw_p104 : lw_okq (⟨"RobotCellHouse", "countTravellers", "()V"⟩, 15) := ⟨⟨by decide +kernel, by decide +kernel⟩, (lw_t1 (List.mem_of_getElem? (i := 22) rfl)), (lw_t8 (List.mem_of_getElem? (i := 128) rfl)), (lw_t8 (List.mem_of_getElem? (i := 129) rfl))⟩
theorem lw_p105 : lw_okq (⟨"RobotCellHouse$Shapes", "breaksZone", "(ILRobotCellHouse$Arm;I)Z"⟩, 17) := ⟨⟨by decide +kernel, by decide +kernel⟩, (lw_t3 (List.mem_of_getElem? (i := 132) rfl)), (lw_t8 (List.mem_of_getElem? (i := 136) rfl)), (lw_t8 (List.mem_of_getElem? (i := 137) rfl))⟩
theorem lw_p106 : lw_okq (⟨"RobotCellHouse$Planner", "takeValues", "(LRobotCellHouse$Arm;I)V"⟩, 13) := ⟨⟨by decide +kernel, by decide +kernel⟩, (lw_t3 (List.mem_of_getElem? (i := 193) rfl)), (lw_t8 (List.mem_of_getElem? (i := 212) rfl)), (lw_t8 (List.mem_of_getElem? (i := 213) rfl))⟩
theorem lw_p107 : lw_okq (⟨"RobotCellHouse$Planner", "digit", "(II)I"⟩, 13) := ⟨⟨by decide +kernel, by decide +kernel⟩, (lw_t3 (List.mem_of_getElem? (i := 193) rfl)), (lw_t8 (List.mem_of_getElem? (i := 216) rfl)), (lw_t8 (List.mem_of_getElem? (i := 217) rfl))⟩
theorem lw_p108 : lw_okq (⟨"RobotCellHouse$Planner", "neighbour", "(II)I"⟩, 13) := ⟨⟨by decide +kernel, by decide +kernel⟩, (lw_t3 (List.mem_of_getElem? (i := 193) rfl)), (lw_t8 (List.mem_of_getElem? (i := 220) rfl)), (lw_t8 (List.mem_of_getElem? (i := 221) rfl))⟩
theorem lw_p109 : lw_okq (⟨"RobotCellHouse$Planner", "passes", "([LRobotCellHouse$Arm;ILRobotCellHouse$Shapes;III)Z"⟩, 13) := ⟨⟨by decide +kernel, by decide +kernel⟩, (lw_t3 (List.mem_of_getElem? (i := 193) rfl)), (lw_t8 (List.mem_of_getElem? (i := 224) rfl)), (lw_t8 (List.mem_of_getElem? (i := 225) rfl))⟩
theorem lw_p110 : lw_okq (⟨"RobotCellHouse$Planner", "before", "(I)I"⟩, 13) := ⟨⟨by decide +kernel, by decide +kernel⟩, (lw_t3 (List.mem_of_getElem? (i := 193) rfl)), (lw_t8 (List.mem_of_getElem? (i := 233) rfl)), (lw_t8 (List.mem_of_getElem? (i := 234) rfl))⟩
theorem lw_p111 : lw_okq (⟨"RobotCellHouseModel", "makeSines", "()V"⟩, 119) := ⟨⟨by decide +kernel, by decide +kernel⟩, (lw_t9 (List.mem_of_getElem? (i := 81) rfl)), (lw_t9 (List.mem_of_getElem? (i := 91) rfl)), (lw_t9 (List.mem_of_getElem? (i := 92) rfl))⟩
def lw_privs_7 : List (MethodName × Nat) := [(⟨"RobotCellHouse$Joint", "wayToRest", "(I)I"⟩, 12), (⟨"RobotCellHouse", "endMove", "(I)V"⟩, 15), (⟨"RobotCellHouse", "guard", "()V"⟩, 15), (⟨"RobotCellHouse", "firstTouching", "()I"⟩, 15), (⟨"RobotCellHouse$Shapes", "nearBodies", "(LRobotCellHouse$Arm;II)Z"⟩, 17), (⟨"RobotCellHouse$Shapes", "nearLine", "(IIIII)Z"⟩, 17), (⟨"RobotCellHouse$Shapes", "isBeyond", "(IIIII)Z"⟩, 17), (⟨"RobotCellHouse$Shapes", "nearSolid", "(II)Z"⟩, 17), (⟨"RobotCellHouse", "countTravellers", "()V"⟩, 15), (⟨"RobotCellHouse$Shapes", "breaksZone", "(ILRobotCellHouse$Arm;I)Z"⟩, 17), (⟨"RobotCellHouse$Planner", "takeValues", "(LRobotCellHouse$Arm;I)V"⟩, 13), (⟨"RobotCellHouse$Planner", "digit", "(II)I"⟩, 13), (⟨"RobotCellHouse$Planner", "neighbour", "(II)I"⟩, 13), (⟨"RobotCellHouse$Planner", "passes", "([LRobotCellHouse$Arm;ILRobotCellHouse$Shapes;III)Z"⟩, 13), (⟨"RobotCellHouse$Planner", "before", "(I)I"⟩, 13), (⟨"RobotCellHouseModel", "makeSines", "()V"⟩, 119)]
theorem lw_r7 : ∀ q ∈ lw_privs_7, lw_okq q := List.forall_mem_cons.mpr ⟨lw_p96, List.forall_mem_cons.mpr ⟨lw_p97, List.forall_mem_cons.mpr ⟨lw_p98, List.forall_mem_cons.mpr ⟨lw_p99, List.forall_mem_cons.mpr ⟨lw_p100, List.forall_mem_cons.mpr ⟨lw_p101, List.forall_mem_cons.mpr ⟨lw_p102, List.forall_mem_cons.mpr ⟨lw_p103, List.forall_mem_cons.mpr ⟨lw_p104, List.forall_mem_cons.mpr ⟨lw_p105, List.forall_mem_cons.mpr ⟨lw_p106, List.forall_mem_cons.mpr ⟨lw_p107, List.forall_mem_cons.mpr ⟨lw_p108, List.forall_mem_cons.mpr ⟨lw_p109, List.forall_mem_cons.mpr ⟨lw_p110, List.forall_mem_cons.mpr ⟨lw_p111, fun _ h => absurd h List.not_mem_nil⟩⟩⟩⟩⟩⟩⟩⟩⟩⟩⟩⟩⟩⟩⟩⟩
theorem lw_p112 : lw_okq (⟨"RobotCellHouseModel", "renew", "()V"⟩, 119) := ⟨⟨by decide +kernel, by decide +kernel⟩, (lw_t9 (List.mem_of_getElem? (i := 81) rfl)), (lw_t9 (List.mem_of_getElem? (i := 106) rfl)), (lw_t9 (List.mem_of_getElem? (i := 107) rfl))⟩
theorem lw_p113 : lw_okq (⟨"RobotCellHouseModel", "word", "(I)V"⟩, 119) := ⟨⟨by decide +kernel, by decide +kernel⟩, (lw_t9 (List.mem_of_getElem? (i := 81) rfl)), (lw_t10 (List.mem_of_getElem? (i := 238) rfl)), (lw_t10 (List.mem_of_getElem? (i := 239) rfl))⟩
theorem lw_p114 : lw_okq (⟨"RobotCellHouseModel", "isArm", "(I)Z"⟩, 119) := ⟨⟨by decide +kernel, by decide +kernel⟩, (lw_t9 (List.mem_of_getElem? (i := 81) rfl)), (lw_t11 (List.mem_of_getElem? (i := 25) rfl)), (lw_t11 (List.mem_of_getElem? (i := 26) rfl))⟩
theorem lw_p115 : lw_okq (⟨"RobotCellHouseModel", "isJoint", "(II)Z"⟩, 119) := ⟨⟨by decide +kernel, by decide +kernel⟩, (lw_t9 (List.mem_of_getElem? (i := 81) rfl)), (lw_t11 (List.mem_of_getElem? (i := 34) rfl)), (lw_t11 (List.mem_of_getElem? (i := 35) rfl))⟩
theorem lw_p116 : lw_okq (⟨"RobotCellHouseModel", "solid", "(ZIIII)I"⟩, 119) := ⟨⟨by decide +kernel, by decide +kernel⟩, (lw_t9 (List.mem_of_getElem? (i := 81) rfl)), (lw_t11 (List.mem_of_getElem? (i := 52) rfl)), (lw_t11 (List.mem_of_getElem? (i := 53) rfl))⟩
theorem lw_p117 : lw_okq (⟨"RobotCellHouseModel", "comes", "(III)V"⟩, 119) := ⟨⟨by decide +kernel, by decide +kernel⟩, (lw_t9 (List.mem_of_getElem? (i := 81) rfl)), (lw_t11 (List.mem_of_getElem? (i := 87) rfl)), (lw_t11 (List.mem_of_getElem? (i := 88) rfl))⟩
theorem lw_p118 : lw_okq (⟨"RobotCellHouseModel", "lies", "(III)V"⟩, 119) := ⟨⟨by decide +kernel, by decide +kernel⟩, (lw_t9 (List.mem_of_getElem? (i := 81) rfl)), (lw_t11 (List.mem_of_getElem? (i := 98) rfl)), (lw_t11 (List.mem_of_getElem? (i := 99) rfl))⟩
theorem lw_p119 : lw_okq (⟨"RobotCellHouseModel", "keepPoints", "()V"⟩, 119) := ⟨⟨by decide +kernel, by decide +kernel⟩, (lw_t9 (List.mem_of_getElem? (i := 81) rfl)), (lw_t11 (List.mem_of_getElem? (i := 130) rfl)), (lw_t11 (List.mem_of_getElem? (i := 131) rfl))⟩
theorem lw_p120 : lw_okq (⟨"RobotCellHouseModel", "allPoints", "()V"⟩, 119) := ⟨⟨by decide +kernel, by decide +kernel⟩, (lw_t9 (List.mem_of_getElem? (i := 81) rfl)), (lw_t11 (List.mem_of_getElem? (i := 134) rfl)), (lw_t11 (List.mem_of_getElem? (i := 135) rfl))⟩
theorem lw_p121 : lw_okq (⟨"RobotCellHouseModel", "points", "(IZ)V"⟩, 119) := ⟨⟨by decide +kernel, by decide +kernel⟩, (lw_t9 (List.mem_of_getElem? (i := 81) rfl)), (lw_t11 (List.mem_of_getElem? (i := 138) rfl)), (lw_t11 (List.mem_of_getElem? (i := 139) rfl))⟩
theorem lw_p122 : lw_okq (⟨"RobotCellHouseModel", "sine", "(I)I"⟩, 119) := ⟨⟨by decide +kernel, by decide +kernel⟩, (lw_t9 (List.mem_of_getElem? (i := 81) rfl)), (lw_t11 (List.mem_of_getElem? (i := 143) rfl)), (lw_t11 (List.mem_of_getElem? (i := 144) rfl))⟩
theorem lw_p123 : lw_okq (⟨"RobotCellHouseModel", "any", "(III)Z"⟩, 119) := ⟨⟨by decide +kernel, by decide +kernel⟩, (lw_t9 (List.mem_of_getElem? (i := 81) rfl)), (lw_t11 (List.mem_of_getElem? (i := 152) rfl)), (lw_t11 (List.mem_of_getElem? (i := 153) rfl))⟩
theorem lw_p124 : lw_okq (⟨"RobotCellHouseModel", "alone", "(III)Z"⟩, 119) := ⟨⟨by decide +kernel, by decide +kernel⟩, (lw_t9 (List.mem_of_getElem? (i := 81) rfl)), (lw_t11 (List.mem_of_getElem? (i := 156) rfl)), (lw_t11 (List.mem_of_getElem? (i := 157) rfl))⟩
theorem lw_p125 : lw_okq (⟨"RobotCellHouseModel", "bodies", "(I)I"⟩, 119) := ⟨⟨by decide +kernel, by decide +kernel⟩, (lw_t9 (List.mem_of_getElem? (i := 81) rfl)), (lw_t11 (List.mem_of_getElem? (i := 160) rfl)), (lw_t11 (List.mem_of_getElem? (i := 161) rfl))⟩
theorem lw_p126 : lw_okq (⟨"RobotCellHouseModel", "touchBodies", "(IIIIIII)Z"⟩, 119) := ⟨⟨by decide +kernel, by decide +kernel⟩, (lw_t9 (List.mem_of_getElem? (i := 81) rfl)), (lw_t11 (List.mem_of_getElem? (i := 164) rfl)), (lw_t11 (List.mem_of_getElem? (i := 165) rfl))⟩
theorem lw_p127 : lw_okq (⟨"RobotCellHouseModel", "body", "(III)V"⟩, 119) := ⟨⟨by decide +kernel, by decide +kernel⟩, (lw_t9 (List.mem_of_getElem? (i := 81) rfl)), (lw_t11 (List.mem_of_getElem? (i := 168) rfl)), (lw_t11 (List.mem_of_getElem? (i := 169) rfl))⟩
def lw_privs_8 : List (MethodName × Nat) := [(⟨"RobotCellHouseModel", "renew", "()V"⟩, 119), (⟨"RobotCellHouseModel", "word", "(I)V"⟩, 119), (⟨"RobotCellHouseModel", "isArm", "(I)Z"⟩, 119), (⟨"RobotCellHouseModel", "isJoint", "(II)Z"⟩, 119), (⟨"RobotCellHouseModel", "solid", "(ZIIII)I"⟩, 119), (⟨"RobotCellHouseModel", "comes", "(III)V"⟩, 119), (⟨"RobotCellHouseModel", "lies", "(III)V"⟩, 119), (⟨"RobotCellHouseModel", "keepPoints", "()V"⟩, 119), (⟨"RobotCellHouseModel", "allPoints", "()V"⟩, 119), (⟨"RobotCellHouseModel", "points", "(IZ)V"⟩, 119), (⟨"RobotCellHouseModel", "sine", "(I)I"⟩, 119), (⟨"RobotCellHouseModel", "any", "(III)Z"⟩, 119), (⟨"RobotCellHouseModel", "alone", "(III)Z"⟩, 119), (⟨"RobotCellHouseModel", "bodies", "(I)I"⟩, 119), (⟨"RobotCellHouseModel", "touchBodies", "(IIIIIII)Z"⟩, 119), (⟨"RobotCellHouseModel", "body", "(III)V"⟩, 119)]
theorem lw_r8 : ∀ q ∈ lw_privs_8, lw_okq q := List.forall_mem_cons.mpr ⟨lw_p112, List.forall_mem_cons.mpr ⟨lw_p113, List.forall_mem_cons.mpr ⟨lw_p114, List.forall_mem_cons.mpr ⟨lw_p115, List.forall_mem_cons.mpr ⟨lw_p116, List.forall_mem_cons.mpr ⟨lw_p117, List.forall_mem_cons.mpr ⟨lw_p118, List.forall_mem_cons.mpr ⟨lw_p119, List.forall_mem_cons.mpr ⟨lw_p120, List.forall_mem_cons.mpr ⟨lw_p121, List.forall_mem_cons.mpr ⟨lw_p122, List.forall_mem_cons.mpr ⟨lw_p123, List.forall_mem_cons.mpr ⟨lw_p124, List.forall_mem_cons.mpr ⟨lw_p125, List.forall_mem_cons.mpr ⟨lw_p126, List.forall_mem_cons.mpr ⟨lw_p127, fun _ h => absurd h List.not_mem_nil⟩⟩⟩⟩⟩⟩⟩⟩⟩⟩⟩⟩⟩⟩⟩⟩
theorem lw_p128 : lw_okq (⟨"RobotCellHouseModel", "bodyLine", "([I)V"⟩, 119) := ⟨⟨by decide +kernel, by decide +kernel⟩, (lw_t9 (List.mem_of_getElem? (i := 81) rfl)), (lw_t11 (List.mem_of_getElem? (i := 172) rfl)), (lw_t11 (List.mem_of_getElem? (i := 173) rfl))⟩
theorem lw_p129 : lw_okq (⟨"RobotCellHouseModel", "line", "([IIIII)V"⟩, 119) := ⟨⟨by decide +kernel, by decide +kernel⟩, (lw_t9 (List.mem_of_getElem? (i := 81) rfl)), (lw_t11 (List.mem_of_getElem? (i := 176) rfl)), (lw_t11 (List.mem_of_getElem? (i := 177) rfl))⟩
theorem lw_p130 : lw_okq (⟨"RobotCellHouseModel", "touchSolid", "(IIIII)Z"⟩, 119) := ⟨⟨by decide +kernel, by decide +kernel⟩, (lw_t9 (List.mem_of_getElem? (i := 81) rfl)), (lw_t11 (List.mem_of_getElem? (i := 195) rfl)), (lw_t11 (List.mem_of_getElem? (i := 196) rfl))⟩
theorem lw_p131 : lw_okq (⟨"RobotCellHouseModel", "both", "(IIII)Z"⟩, 119) := ⟨⟨by decide +kernel, by decide +kernel⟩, (lw_t9 (List.mem_of_getElem? (i := 81) rfl)), (lw_t11 (List.mem_of_getElem? (i := 199) rfl)), (lw_t11 (List.mem_of_getElem? (i := 200) rfl))⟩
theorem lw_p132 : lw_okq (⟨"RobotCellHouseModel", "nextToken", "()V"⟩, 119) := ⟨⟨by decide +kernel, by decide +kernel⟩, (lw_t9 (List.mem_of_getElem? (i := 81) rfl)), (lw_t11 (List.mem_of_getElem? (i := 207) rfl)), (lw_t11 (List.mem_of_getElem? (i := 208) rfl))⟩
theorem lw_p133 : lw_okq (⟨"RobotCellHouseModel", "byteAt", "(I)I"⟩, 119) := ⟨⟨by decide +kernel, by decide +kernel⟩, (lw_t9 (List.mem_of_getElem? (i := 81) rfl)), (lw_t11 (List.mem_of_getElem? (i := 211) rfl)), (lw_t11 (List.mem_of_getElem? (i := 212) rfl))⟩
theorem lw_p134 : lw_okq (⟨"RobotCellHouseModel", "readWord", "()V"⟩, 119) := ⟨⟨by decide +kernel, by decide +kernel⟩, (lw_t9 (List.mem_of_getElem? (i := 81) rfl)), (lw_t11 (List.mem_of_getElem? (i := 222) rfl)), (lw_t11 (List.mem_of_getElem? (i := 223) rfl))⟩
theorem lw_p135 : lw_okq (⟨"RobotCellHouseModel", "readNumber", "()V"⟩, 119) := ⟨⟨by decide +kernel, by decide +kernel⟩, (lw_t9 (List.mem_of_getElem? (i := 81) rfl)), (lw_t11 (List.mem_of_getElem? (i := 234) rfl)), (lw_t11 (List.mem_of_getElem? (i := 235) rfl))⟩
theorem lw_p136 : lw_okq (⟨"RobotCellHouseModel", "readSign", "(I)V"⟩, 119) := ⟨⟨by decide +kernel, by decide +kernel⟩, (lw_t9 (List.mem_of_getElem? (i := 81) rfl)), (lw_t12 (List.mem_of_getElem? (i := 0) rfl)), (lw_t12 (List.mem_of_getElem? (i := 1) rfl))⟩
theorem lw_p137 : lw_okq (⟨"RobotCellHouseModel", "text", "()V"⟩, 119) := ⟨⟨by decide +kernel, by decide +kernel⟩, (lw_t9 (List.mem_of_getElem? (i := 81) rfl)), (lw_t12 (List.mem_of_getElem? (i := 4) rfl)), (lw_t12 (List.mem_of_getElem? (i := 5) rfl))⟩
theorem lw_p138 : lw_okq (⟨"RobotCellHouseModel", "isKey", "(I)Z"⟩, 119) := ⟨⟨by decide +kernel, by decide +kernel⟩, (lw_t9 (List.mem_of_getElem? (i := 81) rfl)), (lw_t12 (List.mem_of_getElem? (i := 8) rfl)), (lw_t12 (List.mem_of_getElem? (i := 9) rfl))⟩
theorem lw_p139 : lw_okq (⟨"RobotCellHouseModel", "name", "(II)V"⟩, 119) := ⟨⟨by decide +kernel, by decide +kernel⟩, (lw_t9 (List.mem_of_getElem? (i := 81) rfl)), (lw_t12 (List.mem_of_getElem? (i := 12) rfl)), (lw_t12 (List.mem_of_getElem? (i := 13) rfl))⟩
theorem lw_p140 : lw_okq (⟨"RobotCellHouseModel", "must", "(Z)V"⟩, 119) := ⟨⟨by decide +kernel, by decide +kernel⟩, (lw_t9 (List.mem_of_getElem? (i := 81) rfl)), (lw_t12 (List.mem_of_getElem? (i := 16) rfl)), (lw_t12 (List.mem_of_getElem? (i := 17) rfl))⟩
theorem lw_p141 : lw_okq (⟨"RobotCellHouseModel", "refuse", "(I)V"⟩, 119) := ⟨⟨by decide +kernel, by decide +kernel⟩, (lw_t9 (List.mem_of_getElem? (i := 81) rfl)), (lw_t12 (List.mem_of_getElem? (i := 20) rfl)), (lw_t12 (List.mem_of_getElem? (i := 21) rfl))⟩
theorem lw_p142 : lw_okq (⟨"RobotCellHouseModel", "isSign", "(I)Z"⟩, 119) := ⟨⟨by decide +kernel, by decide +kernel⟩, (lw_t9 (List.mem_of_getElem? (i := 81) rfl)), (lw_t12 (List.mem_of_getElem? (i := 24) rfl)), (lw_t12 (List.mem_of_getElem? (i := 25) rfl))⟩
theorem lw_p143 : lw_okq (⟨"RobotCellHouseModel", "stats", "()V"⟩, 119) := ⟨⟨by decide +kernel, by decide +kernel⟩, (lw_t9 (List.mem_of_getElem? (i := 81) rfl)), (lw_t12 (List.mem_of_getElem? (i := 28) rfl)), (lw_t12 (List.mem_of_getElem? (i := 29) rfl))⟩
def lw_privs_9 : List (MethodName × Nat) := [(⟨"RobotCellHouseModel", "bodyLine", "([I)V"⟩, 119), (⟨"RobotCellHouseModel", "line", "([IIIII)V"⟩, 119), (⟨"RobotCellHouseModel", "touchSolid", "(IIIII)Z"⟩, 119), (⟨"RobotCellHouseModel", "both", "(IIII)Z"⟩, 119), (⟨"RobotCellHouseModel", "nextToken", "()V"⟩, 119), (⟨"RobotCellHouseModel", "byteAt", "(I)I"⟩, 119), (⟨"RobotCellHouseModel", "readWord", "()V"⟩, 119), (⟨"RobotCellHouseModel", "readNumber", "()V"⟩, 119), (⟨"RobotCellHouseModel", "readSign", "(I)V"⟩, 119), (⟨"RobotCellHouseModel", "text", "()V"⟩, 119), (⟨"RobotCellHouseModel", "isKey", "(I)Z"⟩, 119), (⟨"RobotCellHouseModel", "name", "(II)V"⟩, 119), (⟨"RobotCellHouseModel", "must", "(Z)V"⟩, 119), (⟨"RobotCellHouseModel", "refuse", "(I)V"⟩, 119), (⟨"RobotCellHouseModel", "isSign", "(I)Z"⟩, 119), (⟨"RobotCellHouseModel", "stats", "()V"⟩, 119)]
theorem lw_r9 : ∀ q ∈ lw_privs_9, lw_okq q := List.forall_mem_cons.mpr ⟨lw_p128, List.forall_mem_cons.mpr ⟨lw_p129, List.forall_mem_cons.mpr ⟨lw_p130, List.forall_mem_cons.mpr ⟨lw_p131, List.forall_mem_cons.mpr ⟨lw_p132, List.forall_mem_cons.mpr ⟨lw_p133, List.forall_mem_cons.mpr ⟨lw_p134, List.forall_mem_cons.mpr ⟨lw_p135, List.forall_mem_cons.mpr ⟨lw_p136, List.forall_mem_cons.mpr ⟨lw_p137, List.forall_mem_cons.mpr ⟨lw_p138, List.forall_mem_cons.mpr ⟨lw_p139, List.forall_mem_cons.mpr ⟨lw_p140, List.forall_mem_cons.mpr ⟨lw_p141, List.forall_mem_cons.mpr ⟨lw_p142, List.forall_mem_cons.mpr ⟨lw_p143, fun _ h => absurd h List.not_mem_nil⟩⟩⟩⟩⟩⟩⟩⟩⟩⟩⟩⟩⟩⟩⟩⟩
theorem lw_p144 : lw_okq (⟨"RobotCellHouseModel", "begins", "()Z"⟩, 119) := ⟨⟨by decide +kernel, by decide +kernel⟩, (lw_t9 (List.mem_of_getElem? (i := 81) rfl)), (lw_t12 (List.mem_of_getElem? (i := 32) rfl)), (lw_t12 (List.mem_of_getElem? (i := 33) rfl))⟩
theorem lw_p145 : lw_okq (⟨"RobotCellHouseModel", "emit", "(II)I"⟩, 119) := ⟨⟨by decide +kernel, by decide +kernel⟩, (lw_t9 (List.mem_of_getElem? (i := 81) rfl)), (lw_t12 (List.mem_of_getElem? (i := 37) rfl)), (lw_t12 (List.mem_of_getElem? (i := 38) rfl))⟩
theorem lw_p146 : lw_okq (⟨"RobotCellHouseModel", "exp", "()V"⟩, 119) := ⟨⟨by decide +kernel, by decide +kernel⟩, (lw_t9 (List.mem_of_getElem? (i := 81) rfl)), (lw_t12 (List.mem_of_getElem? (i := 42) rfl)), (lw_t12 (List.mem_of_getElem? (i := 43) rfl))⟩
theorem lw_p147 : lw_okq (⟨"RobotCellHouseModel", "all", "()V"⟩, 119) := ⟨⟨by decide +kernel, by decide +kernel⟩, (lw_t9 (List.mem_of_getElem? (i := 81) rfl)), (lw_t12 (List.mem_of_getElem? (i := 46) rfl)), (lw_t12 (List.mem_of_getElem? (i := 47) rfl))⟩
theorem lw_p148 : lw_okq (⟨"RobotCellHouseModel", "fact", "()V"⟩, 119) := ⟨⟨by decide +kernel, by decide +kernel⟩, (lw_t9 (List.mem_of_getElem? (i := 81) rfl)), (lw_t12 (List.mem_of_getElem? (i := 50) rfl)), (lw_t12 (List.mem_of_getElem? (i := 51) rfl))⟩
theorem lw_p149 : lw_okq (⟨"RobotCellHouseModel", "opened", "()V"⟩, 119) := ⟨⟨by decide +kernel, by decide +kernel⟩, (lw_t9 (List.mem_of_getElem? (i := 81) rfl)), (lw_t12 (List.mem_of_getElem? (i := 54) rfl)), (lw_t12 (List.mem_of_getElem? (i := 55) rfl))⟩
theorem lw_p150 : lw_okq (⟨"RobotCellHouseModel", "sum", "()V"⟩, 119) := ⟨⟨by decide +kernel, by decide +kernel⟩, (lw_t9 (List.mem_of_getElem? (i := 81) rfl)), (lw_t12 (List.mem_of_getElem? (i := 58) rfl)), (lw_t12 (List.mem_of_getElem? (i := 59) rfl))⟩
theorem lw_p151 : lw_okq (⟨"RobotCellHouseModel", "product", "()V"⟩, 119) := ⟨⟨by decide +kernel, by decide +kernel⟩, (lw_t9 (List.mem_of_getElem? (i := 81) rfl)), (lw_t12 (List.mem_of_getElem? (i := 62) rfl)), (lw_t12 (List.mem_of_getElem? (i := 63) rfl))⟩
theorem lw_p152 : lw_okq (⟨"RobotCellHouseModel", "single", "()V"⟩, 119) := ⟨⟨by decide +kernel, by decide +kernel⟩, (lw_t9 (List.mem_of_getElem? (i := 81) rfl)), (lw_t12 (List.mem_of_getElem? (i := 66) rfl)), (lw_t12 (List.mem_of_getElem? (i := 67) rfl))⟩
theorem lw_p153 : lw_okq (⟨"RobotCellHouseModel", "bracket", "()V"⟩, 119) := ⟨⟨by decide +kernel, by decide +kernel⟩, (lw_t9 (List.mem_of_getElem? (i := 81) rfl)), (lw_t12 (List.mem_of_getElem? (i := 70) rfl)), (lw_t12 (List.mem_of_getElem? (i := 71) rfl))⟩
theorem lw_p154 : lw_okq (⟨"RobotCellHouseModel", "closeChain", "(I)V"⟩, 119) := ⟨⟨by decide +kernel, by decide +kernel⟩, (lw_t9 (List.mem_of_getElem? (i := 81) rfl)), (lw_t12 (List.mem_of_getElem? (i := 74) rfl)), (lw_t12 (List.mem_of_getElem? (i := 75) rfl))⟩
theorem lw_p155 : lw_okq (⟨"RobotCellHouseModel", "patch", "(I)V"⟩, 119) := ⟨⟨by decide +kernel, by decide +kernel⟩, (lw_t9 (List.mem_of_getElem? (i := 81) rfl)), (lw_t12 (List.mem_of_getElem? (i := 78) rfl)), (lw_t12 (List.mem_of_getElem? (i := 79) rfl))⟩
theorem lw_p156 : lw_okq (⟨"RobotCellHouseModel", "branch", "()V"⟩, 119) := ⟨⟨by decide +kernel, by decide +kernel⟩, (lw_t9 (List.mem_of_getElem? (i := 81) rfl)), (lw_t12 (List.mem_of_getElem? (i := 82) rfl)), (lw_t12 (List.mem_of_getElem? (i := 83) rfl))⟩
theorem lw_p157 : lw_okq (⟨"RobotCellHouseModel", "again", "()V"⟩, 119) := ⟨⟨by decide +kernel, by decide +kernel⟩, (lw_t9 (List.mem_of_getElem? (i := 81) rfl)), (lw_t12 (List.mem_of_getElem? (i := 86) rfl)), (lw_t12 (List.mem_of_getElem? (i := 87) rfl))⟩
theorem lw_p158 : lw_okq (⟨"RobotCellHouseModel", "attempt", "()V"⟩, 119) := ⟨⟨by decide +kernel, by decide +kernel⟩, (lw_t9 (List.mem_of_getElem? (i := 81) rfl)), (lw_t12 (List.mem_of_getElem? (i := 90) rfl)), (lw_t12 (List.mem_of_getElem? (i := 91) rfl))⟩
theorem lw_p159 : lw_okq (⟨"RobotCellHouseModel", "plain", "(I)V"⟩, 119) := ⟨⟨by decide +kernel, by decide +kernel⟩, (lw_t9 (List.mem_of_getElem? (i := 81) rfl)), (lw_t12 (List.mem_of_getElem? (i := 94) rfl)), (lw_t12 (List.mem_of_getElem? (i := 95) rfl))⟩
def lw_privs_10 : List (MethodName × Nat) := [(⟨"RobotCellHouseModel", "begins", "()Z"⟩, 119), (⟨"RobotCellHouseModel", "emit", "(II)I"⟩, 119), (⟨"RobotCellHouseModel", "exp", "()V"⟩, 119), (⟨"RobotCellHouseModel", "all", "()V"⟩, 119), (⟨"RobotCellHouseModel", "fact", "()V"⟩, 119), (⟨"RobotCellHouseModel", "opened", "()V"⟩, 119), (⟨"RobotCellHouseModel", "sum", "()V"⟩, 119), (⟨"RobotCellHouseModel", "product", "()V"⟩, 119), (⟨"RobotCellHouseModel", "single", "()V"⟩, 119), (⟨"RobotCellHouseModel", "bracket", "()V"⟩, 119), (⟨"RobotCellHouseModel", "closeChain", "(I)V"⟩, 119), (⟨"RobotCellHouseModel", "patch", "(I)V"⟩, 119), (⟨"RobotCellHouseModel", "branch", "()V"⟩, 119), (⟨"RobotCellHouseModel", "again", "()V"⟩, 119), (⟨"RobotCellHouseModel", "attempt", "()V"⟩, 119), (⟨"RobotCellHouseModel", "plain", "(I)V"⟩, 119)]
theorem lw_r10 : ∀ q ∈ lw_privs_10, lw_okq q := List.forall_mem_cons.mpr ⟨lw_p144, List.forall_mem_cons.mpr ⟨lw_p145, List.forall_mem_cons.mpr ⟨lw_p146, List.forall_mem_cons.mpr ⟨lw_p147, List.forall_mem_cons.mpr ⟨lw_p148, List.forall_mem_cons.mpr ⟨lw_p149, List.forall_mem_cons.mpr ⟨lw_p150, List.forall_mem_cons.mpr ⟨lw_p151, List.forall_mem_cons.mpr ⟨lw_p152, List.forall_mem_cons.mpr ⟨lw_p153, List.forall_mem_cons.mpr ⟨lw_p154, List.forall_mem_cons.mpr ⟨lw_p155, List.forall_mem_cons.mpr ⟨lw_p156, List.forall_mem_cons.mpr ⟨lw_p157, List.forall_mem_cons.mpr ⟨lw_p158, List.forall_mem_cons.mpr ⟨lw_p159, fun _ h => absurd h List.not_mem_nil⟩⟩⟩⟩⟩⟩⟩⟩⟩⟩⟩⟩⟩⟩⟩⟩
theorem lw_p160 : lw_okq (⟨"RobotCellHouseModel", "resolve", "()V"⟩, 119) := ⟨⟨by decide +kernel, by decide +kernel⟩, (lw_t9 (List.mem_of_getElem? (i := 81) rfl)), (lw_t12 (List.mem_of_getElem? (i := 98) rfl)), (lw_t12 (List.mem_of_getElem? (i := 99) rfl))⟩
theorem lw_p161 : lw_okq (⟨"RobotCellHouseModel", "told", "(III)I"⟩, 119) := ⟨⟨by decide +kernel, by decide +kernel⟩, (lw_t9 (List.mem_of_getElem? (i := 81) rfl)), (lw_t12 (List.mem_of_getElem? (i := 102) rfl)), (lw_t12 (List.mem_of_getElem? (i := 103) rfl))⟩
theorem lw_p162 : lw_okq (⟨"RobotCellHouseModel", "isSameName", "(II)Z"⟩, 119) := ⟨⟨by decide +kernel, by decide +kernel⟩, (lw_t9 (List.mem_of_getElem? (i := 81) rfl)), (lw_t12 (List.mem_of_getElem? (i := 106) rfl)), (lw_t12 (List.mem_of_getElem? (i := 107) rfl))⟩
theorem lw_p163 : lw_okq (⟨"RobotCellHouseModel", "nodeCount", "(II)I"⟩, 119) := ⟨⟨by decide +kernel, by decide +kernel⟩, (lw_t9 (List.mem_of_getElem? (i := 81) rfl)), (lw_t12 (List.mem_of_getElem? (i := 119) rfl)), (lw_t12 (List.mem_of_getElem? (i := 120) rfl))⟩
theorem lw_p164 : lw_okq (⟨"RobotCellHouseModel", "weight", "(I)I"⟩, 119) := ⟨⟨by decide +kernel, by decide +kernel⟩, (lw_t9 (List.mem_of_getElem? (i := 81) rfl)), (lw_t12 (List.mem_of_getElem? (i := 123) rfl)), (lw_t12 (List.mem_of_getElem? (i := 124) rfl))⟩
theorem lw_p165 : lw_okq (⟨"RobotCellHouseModel", "keptWay", "(I)I"⟩, 119) := ⟨⟨by decide +kernel, by decide +kernel⟩, (lw_t9 (List.mem_of_getElem? (i := 81) rfl)), (lw_t12 (List.mem_of_getElem? (i := 127) rfl)), (lw_t12 (List.mem_of_getElem? (i := 128) rfl))⟩
theorem lw_p166 : lw_okq (⟨"RobotCellHouseModel", "search", "(III)I"⟩, 119) := ⟨⟨by decide +kernel, by decide +kernel⟩, (lw_t9 (List.mem_of_getElem? (i := 81) rfl)), (lw_t12 (List.mem_of_getElem? (i := 131) rfl)), (lw_t12 (List.mem_of_getElem? (i := 132) rfl))⟩
theorem lw_p167 : lw_okq (⟨"RobotCellHouseModel", "freeNode", "(I)Z"⟩, 119) := ⟨⟨by decide +kernel, by decide +kernel⟩, (lw_t9 (List.mem_of_getElem? (i := 81) rfl)), (lw_t12 (List.mem_of_getElem? (i := 135) rfl)), (lw_t12 (List.mem_of_getElem? (i := 136) rfl))⟩
theorem lw_p168 : lw_okq (⟨"RobotCellHouseModel", "tryNode", "(I)V"⟩, 119) := ⟨⟨by decide +kernel, by decide +kernel⟩, (lw_t9 (List.mem_of_getElem? (i := 81) rfl)), (lw_t12 (List.mem_of_getElem? (i := 139) rfl)), (lw_t12 (List.mem_of_getElem? (i := 140) rfl))⟩
theorem lw_p169 : lw_okq (⟨"RobotCellHouseModel", "digit", "(II)I"⟩, 119) := ⟨⟨by decide +kernel, by decide +kernel⟩, (lw_t9 (List.mem_of_getElem? (i := 81) rfl)), (lw_t12 (List.mem_of_getElem? (i := 143) rfl)), (lw_t12 (List.mem_of_getElem? (i := 144) rfl))⟩
theorem lw_p170 : lw_okq (⟨"RobotCellHouseModel", "isClear", "()Z"⟩, 119) := ⟨⟨by decide +kernel, by decide +kernel⟩, (lw_t9 (List.mem_of_getElem? (i := 81) rfl)), (lw_t12 (List.mem_of_getElem? (i := 147) rfl)), (lw_t12 (List.mem_of_getElem? (i := 148) rfl))⟩
theorem lw_p171 : lw_okq (⟨"RobotCellHouseModel", "beside", "(II)I"⟩, 119) := ⟨⟨by decide +kernel, by decide +kernel⟩, (lw_t9 (List.mem_of_getElem? (i := 81) rfl)), (lw_t12 (List.mem_of_getElem? (i := 151) rfl)), (lw_t12 (List.mem_of_getElem? (i := 152) rfl))⟩
theorem lw_p172 : lw_okq (⟨"RobotCellHouseModel", "freeEdge", "(II)Z"⟩, 119) := ⟨⟨by decide +kernel, by decide +kernel⟩, (lw_t9 (List.mem_of_getElem? (i := 81) rfl)), (lw_t12 (List.mem_of_getElem? (i := 155) rfl)), (lw_t12 (List.mem_of_getElem? (i := 156) rfl))⟩
theorem lw_p173 : lw_okq (⟨"RobotCellHouseModel", "isBookFull", "()Z"⟩, 119) := ⟨⟨by decide +kernel, by decide +kernel⟩, (lw_t9 (List.mem_of_getElem? (i := 81) rfl)), (lw_t12 (List.mem_of_getElem? (i := 159) rfl)), (lw_t12 (List.mem_of_getElem? (i := 160) rfl))⟩
theorem lw_p174 : lw_okq (⟨"RobotCellHouseModel", "write", "(IIII)V"⟩, 119) := ⟨⟨by decide +kernel, by decide +kernel⟩, (lw_t9 (List.mem_of_getElem? (i := 81) rfl)), (lw_t12 (List.mem_of_getElem? (i := 163) rfl)), (lw_t12 (List.mem_of_getElem? (i := 164) rfl))⟩
theorem lw_p175 : lw_okq (⟨"RobotCellHouseModel", "keepWay", "(IZ)V"⟩, 119) := ⟨⟨by decide +kernel, by decide +kernel⟩, (lw_t9 (List.mem_of_getElem? (i := 81) rfl)), (lw_t12 (List.mem_of_getElem? (i := 167) rfl)), (lw_t12 (List.mem_of_getElem? (i := 168) rfl))⟩
def lw_privs_11 : List (MethodName × Nat) := [(⟨"RobotCellHouseModel", "resolve", "()V"⟩, 119), (⟨"RobotCellHouseModel", "told", "(III)I"⟩, 119), (⟨"RobotCellHouseModel", "isSameName", "(II)Z"⟩, 119), (⟨"RobotCellHouseModel", "nodeCount", "(II)I"⟩, 119), (⟨"RobotCellHouseModel", "weight", "(I)I"⟩, 119), (⟨"RobotCellHouseModel", "keptWay", "(I)I"⟩, 119), (⟨"RobotCellHouseModel", "search", "(III)I"⟩, 119), (⟨"RobotCellHouseModel", "freeNode", "(I)Z"⟩, 119), (⟨"RobotCellHouseModel", "tryNode", "(I)V"⟩, 119), (⟨"RobotCellHouseModel", "digit", "(II)I"⟩, 119), (⟨"RobotCellHouseModel", "isClear", "()Z"⟩, 119), (⟨"RobotCellHouseModel", "beside", "(II)I"⟩, 119), (⟨"RobotCellHouseModel", "freeEdge", "(II)Z"⟩, 119), (⟨"RobotCellHouseModel", "isBookFull", "()Z"⟩, 119), (⟨"RobotCellHouseModel", "write", "(IIII)V"⟩, 119), (⟨"RobotCellHouseModel", "keepWay", "(IZ)V"⟩, 119)]
theorem lw_r11 : ∀ q ∈ lw_privs_11, lw_okq q := List.forall_mem_cons.mpr ⟨lw_p160, List.forall_mem_cons.mpr ⟨lw_p161, List.forall_mem_cons.mpr ⟨lw_p162, List.forall_mem_cons.mpr ⟨lw_p163, List.forall_mem_cons.mpr ⟨lw_p164, List.forall_mem_cons.mpr ⟨lw_p165, List.forall_mem_cons.mpr ⟨lw_p166, List.forall_mem_cons.mpr ⟨lw_p167, List.forall_mem_cons.mpr ⟨lw_p168, List.forall_mem_cons.mpr ⟨lw_p169, List.forall_mem_cons.mpr ⟨lw_p170, List.forall_mem_cons.mpr ⟨lw_p171, List.forall_mem_cons.mpr ⟨lw_p172, List.forall_mem_cons.mpr ⟨lw_p173, List.forall_mem_cons.mpr ⟨lw_p174, List.forall_mem_cons.mpr ⟨lw_p175, fun _ h => absurd h List.not_mem_nil⟩⟩⟩⟩⟩⟩⟩⟩⟩⟩⟩⟩⟩⟩⟩⟩
theorem lw_p176 : lw_okq (⟨"RobotCellHouseModel", "nextOfWay", "(I)V"⟩, 119) := ⟨⟨by decide +kernel, by decide +kernel⟩, (lw_t9 (List.mem_of_getElem? (i := 81) rfl)), (lw_t12 (List.mem_of_getElem? (i := 175) rfl)), (lw_t12 (List.mem_of_getElem? (i := 176) rfl))⟩
theorem lw_p177 : lw_okq (⟨"RobotCellHouseModel", "beginMove", "(I)V"⟩, 119) := ⟨⟨by decide +kernel, by decide +kernel⟩, (lw_t9 (List.mem_of_getElem? (i := 81) rfl)), (lw_t12 (List.mem_of_getElem? (i := 179) rfl)), (lw_t12 (List.mem_of_getElem? (i := 180) rfl))⟩
theorem lw_p178 : lw_okq (⟨"RobotCellHouseModel", "newTask", "(II)I"⟩, 119) := ⟨⟨by decide +kernel, by decide +kernel⟩, (lw_t9 (List.mem_of_getElem? (i := 81) rfl)), (lw_t12 (List.mem_of_getElem? (i := 191) rfl)), (lw_t12 (List.mem_of_getElem? (i := 192) rfl))⟩
theorem lw_p179 : lw_okq (⟨"RobotCellHouseModel", "tick", "()V"⟩, 119) := ⟨⟨by decide +kernel, by decide +kernel⟩, (lw_t9 (List.mem_of_getElem? (i := 81) rfl)), (lw_t12 (List.mem_of_getElem? (i := 199) rfl)), (lw_t12 (List.mem_of_getElem? (i := 200) rfl))⟩
theorem lw_p180 : lw_okq (⟨"RobotCellHouseModel", "lookAtInputs", "()V"⟩, 119) := ⟨⟨by decide +kernel, by decide +kernel⟩, (lw_t9 (List.mem_of_getElem? (i := 81) rfl)), (lw_t12 (List.mem_of_getElem? (i := 203) rfl)), (lw_t12 (List.mem_of_getElem? (i := 204) rfl))⟩
theorem lw_p181 : lw_okq (⟨"RobotCellHouseModel", "firstNotWell", "()I"⟩, 119) := ⟨⟨by decide +kernel, by decide +kernel⟩, (lw_t9 (List.mem_of_getElem? (i := 81) rfl)), (lw_t12 (List.mem_of_getElem? (i := 207) rfl)), (lw_t12 (List.mem_of_getElem? (i := 208) rfl))⟩
theorem lw_p182 : lw_okq (⟨"RobotCellHouseModel", "isWell", "(I)Z"⟩, 119) := ⟨⟨by decide +kernel, by decide +kernel⟩, (lw_t9 (List.mem_of_getElem? (i := 81) rfl)), (lw_t12 (List.mem_of_getElem? (i := 211) rfl)), (lw_t12 (List.mem_of_getElem? (i := 212) rfl))⟩
theorem lw_p183 : lw_okq (⟨"RobotCellHouseModel", "trip", "(II)V"⟩, 119) := ⟨⟨by decide +kernel, by decide +kernel⟩, (lw_t9 (List.mem_of_getElem? (i := 81) rfl)), (lw_t12 (List.mem_of_getElem? (i := 215) rfl)), (lw_t12 (List.mem_of_getElem? (i := 216) rfl))⟩
theorem lw_p184 : lw_okq (⟨"RobotCellHouseModel", "note", "(III)V"⟩, 119) := ⟨⟨by decide +kernel, by decide +kernel⟩, (lw_t9 (List.mem_of_getElem? (i := 81) rfl)), (lw_t12 (List.mem_of_getElem? (i := 219) rfl)), (lw_t12 (List.mem_of_getElem? (i := 220) rfl))⟩
theorem lw_p185 : lw_okq (⟨"RobotCellHouseModel", "breakMove", "(I)V"⟩, 119) := ⟨⟨by decide +kernel, by decide +kernel⟩, (lw_t9 (List.mem_of_getElem? (i := 81) rfl)), (lw_t12 (List.mem_of_getElem? (i := 223) rfl)), (lw_t12 (List.mem_of_getElem? (i := 224) rfl))⟩
theorem lw_p186 : lw_okq (⟨"RobotCellHouseModel", "turnOf", "(I)V"⟩, 119) := ⟨⟨by decide +kernel, by decide +kernel⟩, (lw_t9 (List.mem_of_getElem? (i := 81) rfl)), (lw_t12 (List.mem_of_getElem? (i := 227) rfl)), (lw_t12 (List.mem_of_getElem? (i := 228) rfl))⟩
theorem lw_p187 : lw_okq (⟨"RobotCellHouseModel", "fails", "(I)V"⟩, 119) := ⟨⟨by decide +kernel, by decide +kernel⟩, (lw_t9 (List.mem_of_getElem? (i := 81) rfl)), (lw_t12 (List.mem_of_getElem? (i := 231) rfl)), (lw_t12 (List.mem_of_getElem? (i := 232) rfl))⟩
theorem lw_p188 : lw_okq (⟨"RobotCellHouseModel", "where", "()I"⟩, 119) := ⟨⟨by decide +kernel, by decide +kernel⟩, (lw_t9 (List.mem_of_getElem? (i := 81) rfl)), (lw_t12 (List.mem_of_getElem? (i := 235) rfl)), (lw_t12 (List.mem_of_getElem? (i := 236) rfl))⟩
theorem lw_p189 : lw_okq (⟨"RobotCellHouseModel", "leave", "(III)V"⟩, 119) := ⟨⟨by decide +kernel, by decide +kernel⟩, (lw_t9 (List.mem_of_getElem? (i := 81) rfl)), (lw_t12 (List.mem_of_getElem? (i := 239) rfl)), (lw_t13 (List.mem_of_getElem? (i := 0) rfl))⟩
theorem lw_p190 : lw_okq (⟨"RobotCellHouseModel", "go", "(I)V"⟩, 119) := ⟨⟨by decide +kernel, by decide +kernel⟩, (lw_t9 (List.mem_of_getElem? (i := 81) rfl)), (lw_t13 (List.mem_of_getElem? (i := 3) rfl)), (lw_t13 (List.mem_of_getElem? (i := 4) rfl))⟩
theorem lw_p191 : lw_okq (⟨"RobotCellHouseModel", "out", "(II)I"⟩, 119) := ⟨⟨by decide +kernel, by decide +kernel⟩, (lw_t9 (List.mem_of_getElem? (i := 81) rfl)), (lw_t13 (List.mem_of_getElem? (i := 7) rfl)), (lw_t13 (List.mem_of_getElem? (i := 8) rfl))⟩
def lw_privs_12 : List (MethodName × Nat) := [(⟨"RobotCellHouseModel", "nextOfWay", "(I)V"⟩, 119), (⟨"RobotCellHouseModel", "beginMove", "(I)V"⟩, 119), (⟨"RobotCellHouseModel", "newTask", "(II)I"⟩, 119), (⟨"RobotCellHouseModel", "tick", "()V"⟩, 119), (⟨"RobotCellHouseModel", "lookAtInputs", "()V"⟩, 119), (⟨"RobotCellHouseModel", "firstNotWell", "()I"⟩, 119), (⟨"RobotCellHouseModel", "isWell", "(I)Z"⟩, 119), (⟨"RobotCellHouseModel", "trip", "(II)V"⟩, 119), (⟨"RobotCellHouseModel", "note", "(III)V"⟩, 119), (⟨"RobotCellHouseModel", "breakMove", "(I)V"⟩, 119), (⟨"RobotCellHouseModel", "turnOf", "(I)V"⟩, 119), (⟨"RobotCellHouseModel", "fails", "(I)V"⟩, 119), (⟨"RobotCellHouseModel", "where", "()I"⟩, 119), (⟨"RobotCellHouseModel", "leave", "(III)V"⟩, 119), (⟨"RobotCellHouseModel", "go", "(I)V"⟩, 119), (⟨"RobotCellHouseModel", "out", "(II)I"⟩, 119)]
theorem lw_r12 : ∀ q ∈ lw_privs_12, lw_okq q := List.forall_mem_cons.mpr ⟨lw_p176, List.forall_mem_cons.mpr ⟨lw_p177, List.forall_mem_cons.mpr ⟨lw_p178, List.forall_mem_cons.mpr ⟨lw_p179, List.forall_mem_cons.mpr ⟨lw_p180, List.forall_mem_cons.mpr ⟨lw_p181, List.forall_mem_cons.mpr ⟨lw_p182, List.forall_mem_cons.mpr ⟨lw_p183, List.forall_mem_cons.mpr ⟨lw_p184, List.forall_mem_cons.mpr ⟨lw_p185, List.forall_mem_cons.mpr ⟨lw_p186, List.forall_mem_cons.mpr ⟨lw_p187, List.forall_mem_cons.mpr ⟨lw_p188, List.forall_mem_cons.mpr ⟨lw_p189, List.forall_mem_cons.mpr ⟨lw_p190, List.forall_mem_cons.mpr ⟨lw_p191, fun _ h => absurd h List.not_mem_nil⟩⟩⟩⟩⟩⟩⟩⟩⟩⟩⟩⟩⟩⟩⟩⟩
theorem lw_p192 : lw_okq (⟨"RobotCellHouseModel", "freeAll", "(I)V"⟩, 119) := ⟨⟨by decide +kernel, by decide +kernel⟩, (lw_t9 (List.mem_of_getElem? (i := 81) rfl)), (lw_t13 (List.mem_of_getElem? (i := 11) rfl)), (lw_t13 (List.mem_of_getElem? (i := 12) rfl))⟩
theorem lw_p193 : lw_okq (⟨"RobotCellHouseModel", "freeLock", "(I)V"⟩, 119) := ⟨⟨by decide +kernel, by decide +kernel⟩, (lw_t9 (List.mem_of_getElem? (i := 81) rfl)), (lw_t13 (List.mem_of_getElem? (i := 15) rfl)), (lw_t13 (List.mem_of_getElem? (i := 16) rfl))⟩
theorem lw_p194 : lw_okq (⟨"RobotCellHouseModel", "brake", "(I)V"⟩, 119) := ⟨⟨by decide +kernel, by decide +kernel⟩, (lw_t9 (List.mem_of_getElem? (i := 81) rfl)), (lw_t13 (List.mem_of_getElem? (i := 19) rfl)), (lw_t13 (List.mem_of_getElem? (i := 20) rfl))⟩
theorem lw_p195 : lw_okq (⟨"RobotCellHouseModel", "await", "(II)V"⟩, 119) := ⟨⟨by decide +kernel, by decide +kernel⟩, (lw_t9 (List.mem_of_getElem? (i := 81) rfl)), (lw_t13 (List.mem_of_getElem? (i := 23) rfl)), (lw_t13 (List.mem_of_getElem? (i := 24) rfl))⟩
theorem lw_p196 : lw_okq (⟨"RobotCellHouseModel", "doAct", "()V"⟩, 119) := ⟨⟨by decide +kernel, by decide +kernel⟩, (lw_t9 (List.mem_of_getElem? (i := 81) rfl)), (lw_t13 (List.mem_of_getElem? (i := 27) rfl)), (lw_t13 (List.mem_of_getElem? (i := 28) rfl))⟩
theorem lw_p197 : lw_okq (⟨"RobotCellHouseModel", "doBegin", "()V"⟩, 119) := ⟨⟨by decide +kernel, by decide +kernel⟩, (lw_t9 (List.mem_of_getElem? (i := 81) rfl)), (lw_t13 (List.mem_of_getElem? (i := 31) rfl)), (lw_t13 (List.mem_of_getElem? (i := 32) rfl))⟩
theorem lw_p198 : lw_okq (⟨"RobotCellHouseModel", "enter", "(II)V"⟩, 119) := ⟨⟨by decide +kernel, by decide +kernel⟩, (lw_t9 (List.mem_of_getElem? (i := 81) rfl)), (lw_t13 (List.mem_of_getElem? (i := 35) rfl)), (lw_t13 (List.mem_of_getElem? (i := 36) rfl))⟩
theorem lw_p199 : lw_okq (⟨"RobotCellHouseModel", "reckon", "(III)V"⟩, 119) := ⟨⟨by decide +kernel, by decide +kernel⟩, (lw_t9 (List.mem_of_getElem? (i := 81) rfl)), (lw_t13 (List.mem_of_getElem? (i := 39) rfl)), (lw_t13 (List.mem_of_getElem? (i := 40) rfl))⟩
theorem lw_p200 : lw_okq (⟨"RobotCellHouseModel", "push", "(I)V"⟩, 119) := ⟨⟨by decide +kernel, by decide +kernel⟩, (lw_t9 (List.mem_of_getElem? (i := 81) rfl)), (lw_t13 (List.mem_of_getElem? (i := 43) rfl)), (lw_t13 (List.mem_of_getElem? (i := 44) rfl))⟩
theorem lw_p201 : lw_okq (⟨"RobotCellHouseModel", "pop", "()I"⟩, 119) := ⟨⟨by decide +kernel, by decide +kernel⟩, (lw_t9 (List.mem_of_getElem? (i := 81) rfl)), (lw_t13 (List.mem_of_getElem? (i := 47) rfl)), (lw_t13 (List.mem_of_getElem? (i := 48) rfl))⟩
theorem lw_p202 : lw_okq (⟨"RobotCellHouseModel", "valueOf", "(I)I"⟩, 119) := ⟨⟨by decide +kernel, by decide +kernel⟩, (lw_t9 (List.mem_of_getElem? (i := 81) rfl)), (lw_t13 (List.mem_of_getElem? (i := 51) rfl)), (lw_t13 (List.mem_of_getElem? (i := 52) rfl))⟩
theorem lw_p203 : lw_okq (⟨"RobotCellHouseModel", "doStatement", "(III)V"⟩, 119) := ⟨⟨by decide +kernel, by decide +kernel⟩, (lw_t9 (List.mem_of_getElem? (i := 81) rfl)), (lw_t13 (List.mem_of_getElem? (i := 58) rfl)), (lw_t13 (List.mem_of_getElem? (i := 59) rfl))⟩
theorem lw_p204 : lw_okq (⟨"RobotCellHouseModel", "doMove", "(II)V"⟩, 119) := ⟨⟨by decide +kernel, by decide +kernel⟩, (lw_t9 (List.mem_of_getElem? (i := 81) rfl)), (lw_t13 (List.mem_of_getElem? (i := 62) rfl)), (lw_t13 (List.mem_of_getElem? (i := 63) rfl))⟩
theorem lw_p205 : lw_okq (⟨"RobotCellHouseModel", "doFinallyOver", "(I)V"⟩, 119) := ⟨⟨by decide +kernel, by decide +kernel⟩, (lw_t9 (List.mem_of_getElem? (i := 81) rfl)), (lw_t13 (List.mem_of_getElem? (i := 66) rfl)), (lw_t13 (List.mem_of_getElem? (i := 67) rfl))⟩
theorem lw_p206 : lw_okq (⟨"RobotCellHouseModel", "doOther", "(II)I"⟩, 119) := ⟨⟨by decide +kernel, by decide +kernel⟩, (lw_t9 (List.mem_of_getElem? (i := 81) rfl)), (lw_t13 (List.mem_of_getElem? (i := 70) rfl)), (lw_t13 (List.mem_of_getElem? (i := 71) rfl))⟩
theorem lw_p207 : lw_okq (⟨"RobotCellHouseModel", "setOwn", "(II)V"⟩, 119) := ⟨⟨by decide +kernel, by decide +kernel⟩, (lw_t9 (List.mem_of_getElem? (i := 81) rfl)), (lw_t13 (List.mem_of_getElem? (i := 74) rfl)), (lw_t13 (List.mem_of_getElem? (i := 75) rfl))⟩
def lw_privs_13 : List (MethodName × Nat) := [(⟨"RobotCellHouseModel", "freeAll", "(I)V"⟩, 119), (⟨"RobotCellHouseModel", "freeLock", "(I)V"⟩, 119), (⟨"RobotCellHouseModel", "brake", "(I)V"⟩, 119), (⟨"RobotCellHouseModel", "await", "(II)V"⟩, 119), (⟨"RobotCellHouseModel", "doAct", "()V"⟩, 119), (⟨"RobotCellHouseModel", "doBegin", "()V"⟩, 119), (⟨"RobotCellHouseModel", "enter", "(II)V"⟩, 119), (⟨"RobotCellHouseModel", "reckon", "(III)V"⟩, 119), (⟨"RobotCellHouseModel", "push", "(I)V"⟩, 119), (⟨"RobotCellHouseModel", "pop", "()I"⟩, 119), (⟨"RobotCellHouseModel", "valueOf", "(I)I"⟩, 119), (⟨"RobotCellHouseModel", "doStatement", "(III)V"⟩, 119), (⟨"RobotCellHouseModel", "doMove", "(II)V"⟩, 119), (⟨"RobotCellHouseModel", "doFinallyOver", "(I)V"⟩, 119), (⟨"RobotCellHouseModel", "doOther", "(II)I"⟩, 119), (⟨"RobotCellHouseModel", "setOwn", "(II)V"⟩, 119)]
theorem lw_r13 : ∀ q ∈ lw_privs_13, lw_okq q := List.forall_mem_cons.mpr ⟨lw_p192, List.forall_mem_cons.mpr ⟨lw_p193, List.forall_mem_cons.mpr ⟨lw_p194, List.forall_mem_cons.mpr ⟨lw_p195, List.forall_mem_cons.mpr ⟨lw_p196, List.forall_mem_cons.mpr ⟨lw_p197, List.forall_mem_cons.mpr ⟨lw_p198, List.forall_mem_cons.mpr ⟨lw_p199, List.forall_mem_cons.mpr ⟨lw_p200, List.forall_mem_cons.mpr ⟨lw_p201, List.forall_mem_cons.mpr ⟨lw_p202, List.forall_mem_cons.mpr ⟨lw_p203, List.forall_mem_cons.mpr ⟨lw_p204, List.forall_mem_cons.mpr ⟨lw_p205, List.forall_mem_cons.mpr ⟨lw_p206, List.forall_mem_cons.mpr ⟨lw_p207, fun _ h => absurd h List.not_mem_nil⟩⟩⟩⟩⟩⟩⟩⟩⟩⟩⟩⟩⟩⟩⟩⟩
theorem lw_p208 : lw_okq (⟨"RobotCellHouseModel", "beforeChange", "()V"⟩, 119) := ⟨⟨by decide +kernel, by decide +kernel⟩, (lw_t9 (List.mem_of_getElem? (i := 81) rfl)), (lw_t13 (List.mem_of_getElem? (i := 78) rfl)), (lw_t13 (List.mem_of_getElem? (i := 79) rfl))⟩
theorem lw_p209 : lw_okq (⟨"RobotCellHouseModel", "behindChange", "()V"⟩, 119) := ⟨⟨by decide +kernel, by decide +kernel⟩, (lw_t9 (List.mem_of_getElem? (i := 81) rfl)), (lw_t13 (List.mem_of_getElem? (i := 82) rfl)), (lw_t13 (List.mem_of_getElem? (i := 83) rfl))⟩
theorem lw_p210 : lw_okq (⟨"RobotCellHouseModel", "doTake", "(I)I"⟩, 119) := ⟨⟨by decide +kernel, by decide +kernel⟩, (lw_t9 (List.mem_of_getElem? (i := 81) rfl)), (lw_t13 (List.mem_of_getElem? (i := 86) rfl)), (lw_t13 (List.mem_of_getElem? (i := 87) rfl))⟩
theorem lw_p211 : lw_okq (⟨"RobotCellHouseModel", "doGrip", "(I)Z"⟩, 119) := ⟨⟨by decide +kernel, by decide +kernel⟩, (lw_t9 (List.mem_of_getElem? (i := 81) rfl)), (lw_t13 (List.mem_of_getElem? (i := 90) rfl)), (lw_t13 (List.mem_of_getElem? (i := 91) rfl))⟩
theorem lw_p212 : lw_okq (⟨"RobotCellHouseModel", "middle", "(II)I"⟩, 119) := ⟨⟨by decide +kernel, by decide +kernel⟩, (lw_t9 (List.mem_of_getElem? (i := 81) rfl)), (lw_t13 (List.mem_of_getElem? (i := 94) rfl)), (lw_t13 (List.mem_of_getElem? (i := 95) rfl))⟩
theorem lw_p213 : lw_okq (⟨"RobotCellHouseModel", "stale", "(I)V"⟩, 119) := ⟨⟨by decide +kernel, by decide +kernel⟩, (lw_t9 (List.mem_of_getElem? (i := 81) rfl)), (lw_t13 (List.mem_of_getElem? (i := 98) rfl)), (lw_t13 (List.mem_of_getElem? (i := 99) rfl))⟩
theorem lw_p214 : lw_okq (⟨"RobotCellHouseModel", "doDrop", "(I)Z"⟩, 119) := ⟨⟨by decide +kernel, by decide +kernel⟩, (lw_t9 (List.mem_of_getElem? (i := 81) rfl)), (lw_t13 (List.mem_of_getElem? (i := 102) rfl)), (lw_t13 (List.mem_of_getElem? (i := 103) rfl))⟩
theorem lw_p215 : lw_okq (⟨"RobotCellHouseModel", "armsGoOn", "()V"⟩, 119) := ⟨⟨by decide +kernel, by decide +kernel⟩, (lw_t9 (List.mem_of_getElem? (i := 81) rfl)), (lw_t13 (List.mem_of_getElem? (i := 106) rfl)), (lw_t13 (List.mem_of_getElem? (i := 107) rfl))⟩
theorem lw_p216 : lw_okq (⟨"RobotCellHouseModel", "goOn", "(I)V"⟩, 119) := ⟨⟨by decide +kernel, by decide +kernel⟩, (lw_t9 (List.mem_of_getElem? (i := 81) rfl)), (lw_t13 (List.mem_of_getElem? (i := 110) rfl)), (lw_t13 (List.mem_of_getElem? (i := 111) rfl))⟩
theorem lw_p217 : lw_okq (⟨"RobotCellHouseModel", "tally", "(IZ)V"⟩, 119) := ⟨⟨by decide +kernel, by decide +kernel⟩, (lw_t9 (List.mem_of_getElem? (i := 81) rfl)), (lw_t13 (List.mem_of_getElem? (i := 120) rfl)), (lw_t13 (List.mem_of_getElem? (i := 121) rfl))⟩
theorem lw_p218 : lw_okq (⟨"RobotCellHouseModel", "countJoints", "(Z)V"⟩, 119) := ⟨⟨by decide +kernel, by decide +kernel⟩, (lw_t9 (List.mem_of_getElem? (i := 81) rfl)), (lw_t13 (List.mem_of_getElem? (i := 124) rfl)), (lw_t13 (List.mem_of_getElem? (i := 125) rfl))⟩
theorem lw_p219 : lw_okq (⟨"RobotCellHouseModel", "look", "()V"⟩, 119) := ⟨⟨by decide +kernel, by decide +kernel⟩, (lw_t9 (List.mem_of_getElem? (i := 81) rfl)), (lw_t13 (List.mem_of_getElem? (i := 128) rfl)), (lw_t13 (List.mem_of_getElem? (i := 129) rfl))⟩
theorem lw_p220 : lw_okq (⟨"RobotCellHouseModel", "firstTouching", "()I"⟩, 119) := ⟨⟨by decide +kernel, by decide +kernel⟩, (lw_t9 (List.mem_of_getElem? (i := 81) rfl)), (lw_t13 (List.mem_of_getElem? (i := 132) rfl)), (lw_t13 (List.mem_of_getElem? (i := 133) rfl))⟩
theorem lw_p221 : lw_okq (⟨"RobotCellHouseModel", "firstBroken", "()I"⟩, 119) := ⟨⟨by decide +kernel, by decide +kernel⟩, (lw_t9 (List.mem_of_getElem? (i := 81) rfl)), (lw_t13 (List.mem_of_getElem? (i := 136) rfl)), (lw_t13 (List.mem_of_getElem? (i := 137) rfl))⟩
theorem lw_p222 : lw_okq (⟨"RobotCellHouseModel", "driveBelt", "(I)V"⟩, 119) := ⟨⟨by decide +kernel, by decide +kernel⟩, (lw_t9 (List.mem_of_getElem? (i := 81) rfl)), (lw_t13 (List.mem_of_getElem? (i := 140) rfl)), (lw_t13 (List.mem_of_getElem? (i := 141) rfl))⟩
theorem lw_p223 : lw_okq (⟨"RobotCellHouseModel", "countParts", "()V"⟩, 119) := ⟨⟨by decide +kernel, by decide +kernel⟩, (lw_t9 (List.mem_of_getElem? (i := 81) rfl)), (lw_t13 (List.mem_of_getElem? (i := 144) rfl)), (lw_t13 (List.mem_of_getElem? (i := 145) rfl))⟩
def lw_privs_14 : List (MethodName × Nat) := [(⟨"RobotCellHouseModel", "beforeChange", "()V"⟩, 119), (⟨"RobotCellHouseModel", "behindChange", "()V"⟩, 119), (⟨"RobotCellHouseModel", "doTake", "(I)I"⟩, 119), (⟨"RobotCellHouseModel", "doGrip", "(I)Z"⟩, 119), (⟨"RobotCellHouseModel", "middle", "(II)I"⟩, 119), (⟨"RobotCellHouseModel", "stale", "(I)V"⟩, 119), (⟨"RobotCellHouseModel", "doDrop", "(I)Z"⟩, 119), (⟨"RobotCellHouseModel", "armsGoOn", "()V"⟩, 119), (⟨"RobotCellHouseModel", "goOn", "(I)V"⟩, 119), (⟨"RobotCellHouseModel", "tally", "(IZ)V"⟩, 119), (⟨"RobotCellHouseModel", "countJoints", "(Z)V"⟩, 119), (⟨"RobotCellHouseModel", "look", "()V"⟩, 119), (⟨"RobotCellHouseModel", "firstTouching", "()I"⟩, 119), (⟨"RobotCellHouseModel", "firstBroken", "()I"⟩, 119), (⟨"RobotCellHouseModel", "driveBelt", "(I)V"⟩, 119), (⟨"RobotCellHouseModel", "countParts", "()V"⟩, 119)]
theorem lw_r14 : ∀ q ∈ lw_privs_14, lw_okq q := List.forall_mem_cons.mpr ⟨lw_p208, List.forall_mem_cons.mpr ⟨lw_p209, List.forall_mem_cons.mpr ⟨lw_p210, List.forall_mem_cons.mpr ⟨lw_p211, List.forall_mem_cons.mpr ⟨lw_p212, List.forall_mem_cons.mpr ⟨lw_p213, List.forall_mem_cons.mpr ⟨lw_p214, List.forall_mem_cons.mpr ⟨lw_p215, List.forall_mem_cons.mpr ⟨lw_p216, List.forall_mem_cons.mpr ⟨lw_p217, List.forall_mem_cons.mpr ⟨lw_p218, List.forall_mem_cons.mpr ⟨lw_p219, List.forall_mem_cons.mpr ⟨lw_p220, List.forall_mem_cons.mpr ⟨lw_p221, List.forall_mem_cons.mpr ⟨lw_p222, List.forall_mem_cons.mpr ⟨lw_p223, fun _ h => absurd h List.not_mem_nil⟩⟩⟩⟩⟩⟩⟩⟩⟩⟩⟩⟩⟩⟩⟩⟩
theorem lw_p224 : lw_okq (⟨"RobotCellHouseModel", "isPoint", "(I)Z"⟩, 119) := ⟨⟨by decide +kernel, by decide +kernel⟩, (lw_t9 (List.mem_of_getElem? (i := 81) rfl)), (lw_t13 (List.mem_of_getElem? (i := 152) rfl)), (lw_t13 (List.mem_of_getElem? (i := 153) rfl))⟩
theorem lw_p225 : lw_okq (⟨"RobotCellHouseModel", "done", "(IIII)I"⟩, 119) := ⟨⟨by decide +kernel, by decide +kernel⟩, (lw_t9 (List.mem_of_getElem? (i := 81) rfl)), (lw_t13 (List.mem_of_getElem? (i := 189) rfl)), (lw_t13 (List.mem_of_getElem? (i := 190) rfl))⟩
def lw_privs_15 : List (MethodName × Nat) := [(⟨"RobotCellHouseModel", "isPoint", "(I)Z"⟩, 119), (⟨"RobotCellHouseModel", "done", "(IIII)I"⟩, 119)]
theorem lw_r15 : ∀ q ∈ lw_privs_15, lw_okq q := List.forall_mem_cons.mpr ⟨lw_p224, List.forall_mem_cons.mpr ⟨lw_p225, fun _ h => absurd h List.not_mem_nil⟩⟩
def lw_privs : List (MethodName × Nat) := lw_privs_1 ++ (lw_privs_2 ++ (lw_privs_3 ++ (lw_privs_4 ++ (lw_privs_5 ++ (lw_privs_6 ++ (lw_privs_7 ++ (lw_privs_8 ++ (lw_privs_9 ++ (lw_privs_10 ++ (lw_privs_11 ++ (lw_privs_12 ++ (lw_privs_13 ++ (lw_privs_14 ++ (lw_privs_15))))))))))))))
def lw_tbl : List Cond := k2_sels lw_privs ++ tables_1
theorem lw_privs_ok : ∀ q ∈ lw_privs, lw_okq q := by
  show ∀ q ∈ lw_privs_1 ++ (lw_privs_2 ++ (lw_privs_3 ++ (lw_privs_4 ++ (lw_privs_5 ++ (lw_privs_6 ++ (lw_privs_7 ++ (lw_privs_8 ++ (lw_privs_9 ++ (lw_privs_10 ++ (lw_privs_11 ++ (lw_privs_12 ++ (lw_privs_13 ++ (lw_privs_14 ++ (lw_privs_15)))))))))))))), lw_okq q
  exact List.forall_mem_append.mpr ⟨lw_r1, List.forall_mem_append.mpr ⟨lw_r2, List.forall_mem_append.mpr ⟨lw_r3, List.forall_mem_append.mpr ⟨lw_r4, List.forall_mem_append.mpr ⟨lw_r5, List.forall_mem_append.mpr ⟨lw_r6, List.forall_mem_append.mpr ⟨lw_r7, List.forall_mem_append.mpr ⟨lw_r8, List.forall_mem_append.mpr ⟨lw_r9, List.forall_mem_append.mpr ⟨lw_r10, List.forall_mem_append.mpr ⟨lw_r11, List.forall_mem_append.mpr ⟨lw_r12, List.forall_mem_append.mpr ⟨lw_r13, List.forall_mem_append.mpr ⟨lw_r14, lw_r15⟩⟩⟩⟩⟩⟩⟩⟩⟩⟩⟩⟩⟩⟩
end
-- part 02
section
noncomputable section
/-! An interpreter over pictures of the machine: values by bounds, cells by their contents; and why it may be trusted. -/
/-- the tables' words that stay good over a call -/
def x_tbl : List Cond := lw_tbl.filter goodWord
theorem good_w : x_tbl.all goodWord = true := List.all_eq_true.mpr (fun w h => (List.mem_filter.mp h).2)
theorem x_tb {w : Cond} (h : w ∈ lw_tbl) (hg : goodWord w = true) : w ∈ x_tbl := List.mem_filter.mpr ⟨h, hg⟩
/-- words that a call must be given anew: which arrays' classes there are, which nest mates' methods are linked -/
def va_AOA (ty : FieldType) (U : State) : Prop := (Cond.arrayOver (.array ty)).before #[] U = true
theorem va_AOA.of {ty : FieldType} {A : Array Value} {U : State} (h : (Cond.arrayOver (.array ty)).before A U = true) : va_AOA ty U := h
theorem va_AOA.use {ty : FieldType} {A : Array Value} {U : State} (h : va_AOA ty U) : (Cond.arrayOver (.array ty)).before A U = true := h
theorem x_AO_spec {u : State} {ty : FieldType} (h : va_AOA ty u) : ∃ (comp c : Nat) (k : Class), u.vm.findClass (FieldType.array ty).toString = some comp ∧ (u.vm.classes.findIdx? fun (x : Class) => match x.kind with | .array component _ => component == comp | _ => false) = some c ∧ u.vm.classes[c]? = some k ∧ k.kind = .array comp (.array ty) ∧ u.vm.findClass ("[" ++ (FieldType.array ty).toString) = some c := by
  unfold va_AOA at h
  simp only [Cond.before, Cond.holds, Cond.value, beq_iff_eq] at h
  cases hc : u.vm.findClass (FieldType.array ty).toString with
  | none => simp [hc] at h
  | some comp =>
    simp only [hc, Option.bind_some, Option.bind_eq_some_iff, Option.map_eq_some_iff] at h
    obtain ⟨c, hi, k, hk, hb⟩ := h
    obtain ⟨hlt, hp, -⟩ := Array.findIdx?_eq_some_iff_getElem.mp hi
    have hkk : u.vm.classes[c] = k := (Array.getElem?_eq_some_iff.mp hk).2
    rw [hkk] at hp
    cases hkind : k.kind with
    | array component ty' =>
      rw [hkind] at hb hp
      simp at hb hp
      exact ⟨comp, c, k, rfl, hi, hk, by rw [hkind, hp, hb.1], hb.2⟩
    | _ => rw [hkind] at hb; simp at hb
theorem va_AOA.moved {ty : FieldType} {u U : State} (hvm : u.vm.Alike U.vm) (h : va_AOA ty u) : va_AOA ty U := by
  obtain ⟨comp, c, k, h1, h2, h3, h4, h5⟩ := x_AO_spec h
  obtain ⟨k', hk', he⟩ := hvm.2.2 _ _ h3
  have hi : (U.vm.classes.findIdx? fun (x : Class) => match x.kind with | .array component _ => component == comp | _ => false) = some c := by
    have e1 := va_idx_bare U.vm comp
    have e2 := (va_idx_bare u.vm comp).trans h2
    first | rw [hvm.bare_eq] at e2 | rw [← hvm.bare_eq] at e2
    exact e1.symm.trans e2
  have hkind : k'.kind = .array comp (.array ty) := by rw [he]; exact h4
  have f1 : U.vm.findClass (FieldType.array ty).toString = some comp := by rw [hvm.findClass]; exact h1
  have f2 : U.vm.findClass ("[" ++ (FieldType.array ty).toString) = some c := by rw [hvm.findClass]; exact h5
  unfold va_AOA Cond.before Cond.holds
  simp only [Cond.value]
  rw [f1, Option.bind_some]
  refine (congrArg (fun o : Option Nat => (o.bind (fun c => (U.vm.classes[c]?).map fun (k : Class) => match k.kind with | .array _ ty' => decide (ty' = FieldType.array ty) && decide (U.vm.findClass ("[" ++ (FieldType.array ty).toString) = some c) | _ => false) == some true)) hi).trans ?_
  simp [hk', hkind, f2]
def x_nest : List (String × Nat × MethodName × String) := [("RobotCellHouse", 9, ⟨"RobotCellHouse$Reader", "<init>", "()V"⟩, "RobotCellHouse"), ("RobotCellHouse$Reader", 20, ⟨"RobotCellHouse$Code", "<init>", "()V"⟩, "RobotCellHouse"), ("RobotCellHouse$Doer", 19, ⟨"RobotCellHouse$Points", "<init>", "()V"⟩, "RobotCellHouse"), ("RobotCellHouse$Doer", 26, ⟨"RobotCellHouse$Floor", "<init>", "()V"⟩, "RobotCellHouse"), ("RobotCellHouse$Doer", 33, ⟨"RobotCellHouse$Core", "<init>", "()V"⟩, "RobotCellHouse"), ("RobotCellHouse$Arm", 38, ⟨"RobotCellHouse$Code", "<init>", "()V"⟩, "RobotCellHouse"), ("RobotCellHouse$Arm", 43, ⟨"RobotCellHouse$Joint", "<init>", "()V"⟩, "RobotCellHouse"), ("RobotCellHouse", 45, ⟨"RobotCellHouse$Shapes", "<init>", "()V"⟩, "RobotCellHouse"), ("RobotCellHouse", 52, ⟨"RobotCellHouse$Planner", "<init>", "()V"⟩, "RobotCellHouse"), ("RobotCellHouse$Arm", 117, ⟨"RobotCellHouse", "cosine", "(I)I"⟩, "RobotCellHouse"), ("RobotCellHouse$Arm", 121, ⟨"RobotCellHouse", "sine", "(I)I"⟩, "RobotCellHouse"), ("RobotCellHouse$Reader", 201, ⟨"RobotCellHouse", "within", "(III)Z"⟩, "RobotCellHouse"), ("RobotCellHouse$Planner", 41, ⟨"RobotCellHouse", "within", "(III)Z"⟩, "RobotCellHouse"), ("RobotCellHouse$Doer", 120, ⟨"RobotCellHouse", "within", "(III)Z"⟩, "RobotCellHouse"), ("RobotCellHouse$Doer", 261, ⟨"RobotCellHouse", "isPoint", "(I)Z"⟩, "RobotCellHouse"), ("RobotCellHouse$Joint", 18, ⟨"RobotCellHouse", "within", "(III)Z"⟩, "RobotCellHouse"), ("RobotCellHouse$Floor", 110, ⟨"RobotCellHouse", "within", "(III)Z"⟩, "RobotCellHouse"), ("RobotCellHouse$Shapes", 62, ⟨"RobotCellHouse", "within", "(III)Z"⟩, "RobotCellHouse")]
def x_Ex (U : State) : Prop := (va_AO "RobotCellHouse$Joint" U ∧ va_AO "RobotCellHouse$Arm" U ∧ va_AO "RobotCellHouse$Task" U) ∧ va_AOA .int U ∧ ∀ q ∈ x_nest, va_Nw (.methodLinkNest q.1 q.2.1 q.2.2.1 q.2.2.2) U
theorem x_Ex.warm {s U : State} (hW : s.WarmedH U.vm) (h : x_Ex s) : x_Ex U := ⟨⟨h.1.1.moved hW.alike, h.1.2.1.moved hW.alike, h.1.2.2.moved hW.alike⟩, h.2.1.moved hW.alike, fun q hq => (h.2.2 q hq).warmM hW⟩
theorem x_Ex.same {u U : State} (e : u.vm = U.vm) (h : x_Ex u) : x_Ex U :=
  have ha : u.vm.Alike U.vm := by rw [e]; exact Vm.Alike.refl _
  ⟨⟨h.1.1.moved ha, h.1.2.1.moved ha, h.1.2.2.moved ha⟩, h.2.1.moved ha, fun q hq => (h.2.2 q hq).same rfl e⟩
abbrev xV : Type := Nat × Int × Int
abbrev xA : Type := List (Nat × xV)
abbrev xC : Type := Nat × Nat × Nat × xV × xA
abbrev xT : Type := List (Int × Int)
abbrev xL : Type := List (Nat × xV)
/-- pc, locals, stack, cells, bounds of the tokens, cells made, slots made -/
abbrev xS : Type := Nat × xL × List xV × List xC × xT × Nat × Nat
abbrev xK : Type := List xV × List xC × xT
abbrev xE : Type := Nat × (xS → Option (List xS)) × Nat × Nat
/-- lists walked by their own recursor: the kernel takes fewer steps so -/
def x_at {α : Type} (w : List α) : Nat → Option α := List.rec (motive := fun _ => Nat → Option α) (fun _ => none) (fun x _ ih j => Nat.rec (motive := fun _ => Option α) (some x) (fun j' _ => ih j') j) w
theorem x_at_eq {α : Type} : ∀ (w : List α) (j : Nat), x_at w j = w[j]?
  | [], j => by simp; rfl
  | _ :: _, 0 => rfl
  | x :: r, j + 1 => by rw [List.getElem?_cons_succ, ← x_at_eq r j]; rfl
def x_up {α : Type} (w : List α) : Nat → α → List α := List.rec (motive := fun _ => Nat → α → List α) (fun _ _ => []) (fun x r ih j c => Nat.rec (motive := fun _ => List α) (c :: r) (fun j' _ => x :: ih j' c) j) w
theorem x_up_eq {α : Type} : ∀ (w : List α) (j : Nat) (c : α), x_up w j c = w.set j c
  | [], j, c => by simp; rfl
  | _ :: _, 0, c => rfl
  | x :: r, j + 1, c => by rw [List.set_cons_succ, ← x_up_eq r j c]; rfl
def x_get (d : xV) (l : xA) (k : Nat) : xV := List.rec (motive := fun _ => xV) d (fun q _ ih => Bool.rec (motive := fun _ => xV) ih q.2 (Nat.beq q.1 k)) l
theorem x_get_nil (d : xV) (k : Nat) : x_get d [] k = d := rfl
theorem x_get_cons (d : xV) (q : Nat × xV) (r : xA) (k : Nat) : x_get d (q :: r) k = bif Nat.beq q.1 k then q.2 else x_get d r k := by
  unfold x_get
  cases h : Nat.beq q.1 k with
  | true => simp [h]
  | false => simp [h]
def x_eqv (x y : xV) : Bool := Nat.beq x.1 y.1 && (decide (x.2.1 = y.2.1) && decide (x.2.2 = y.2.2))
theorem x_eqv_ok {x y : xV} (h : x_eqv x y = true) : x = y := by
  obtain ⟨a, b, c⟩ := x
  obtain ⟨a', b', c'⟩ := y
  unfold x_eqv at h
  simp only [Bool.and_eq_true, decide_eq_true_eq] at h
  obtain ⟨h1, h2, h3⟩ := h
  rw [Nat.eq_of_beq_eq_true h1, h2, h3]
/-- the value v at the place k, over the default d -/
def x_put (d : xV) (l : xA) (k : Nat) (v : xV) : xA := List.rec (motive := fun _ => xA) (bif x_eqv v d then [] else [(k, v)]) (fun q r ih => Bool.rec (motive := fun _ => xA) (q :: ih) ((k, v) :: r) (Nat.beq q.1 k)) l
theorem x_put_nil (d : xV) (k : Nat) (v : xV) : x_put d [] k v = bif x_eqv v d then [] else [(k, v)] := rfl
theorem x_put_cons (d : xV) (q : Nat × xV) (r : xA) (k : Nat) (v : xV) : x_put d (q :: r) k v = bif Nat.beq q.1 k then (k, v) :: r else q :: x_put d r k v := by
  unfold x_put
  cases h : Nat.beq q.1 k with
  | true => simp [h]
  | false => simp [h]
theorem x_nb {a b : Nat} (h : a ≠ b) : Nat.beq a b = false := by
  cases e : Nat.beq a b with
  | false => rfl
  | true => exact absurd (Nat.eq_of_beq_eq_true e) h
theorem x_get_put (d : xV) (l : xA) (k : Nat) (v : xV) (j : Nat) : x_get d (x_put d l k v) j = if j = k then v else x_get d l j := by
  induction l with
  | nil =>
    simp only [x_put_nil]
    cases hb : x_eqv v d with
    | true =>
      have e := x_eqv_ok hb
      subst e
      simp [x_get_nil]
    | false =>
      simp only [cond_false, x_get_nil, x_get_cons]
      by_cases h : j = k
      · subst h; simp
      · rw [if_neg h, x_nb (Ne.symm h)]; rfl
  | cons q r ih =>
    by_cases h : q.1 = k
    · have hb : Nat.beq q.1 k = true := Nat.beq_eq.mpr h
      simp only [x_put_cons, hb, cond_true, x_get_cons]
      by_cases hj : j = k
      · subst hj; simp
      · rw [if_neg hj, x_nb (Ne.symm hj), h, x_nb (Ne.symm hj)]; rfl
    · have hb : Nat.beq q.1 k = false := x_nb h
      simp only [x_put_cons, hb, cond_false, x_get_cons, ih]
      by_cases hq : q.1 = j
      · have h9 : Nat.beq q.1 j = true := Nat.beq_eq.mpr hq
        have h8 : ¬ j = k := fun e => h (hq.trans e)
        simp [h9, h8]
      · rw [x_nb hq]; rfl
/-- what a value of the picture says of a value of the machine -/
def x_rel (ad : List Nat) (V : List Int) (sc : Nat × Nat × List Nat) (x : xV) (v : Value) : Prop := match x.1 with
  | 0 => ∃ n : Int32, v = .int n ∧ x.2.1 ≤ n.toInt ∧ n.toInt ≤ x.2.2
  | 1 => ∃ a, ad[x.2.1.toNat]? = some a ∧ v = .ref a
  | 2 => v = .null
  | 3 => ∃ n : Int32, v = .int n ∧ V[x.2.1.toNat]? = some n.toInt
  | 4 => ∃ n : Int64, v = .long n ∧ x.2.1 ≤ n.toInt ∧ n.toInt ≤ x.2.2
  | 6 => ∃ n : Int64, v = .long n ∧ V[x.2.1.toNat]? = some n.toInt
  | 10 => v = .ref sc.1 ∧ x.2.1 = (sc.2.1 : Int)
  | _ => False
def x_all2 {α β : Type} (R : α → β → Prop) : List α → List β → Prop
  | [], [] => True
  | a :: as, b :: bs => R a b ∧ x_all2 R as bs
  | _, _ => False
def x_bi (tk : xT) (x : xV) : Option (Int × Int) := match x.1 with
  | 0 => some x.2
  | 3 => x_at tk x.2.1.toNat
  | _ => none
def x_bl (tk : xT) (x : xV) : Option (Int × Int) := match x.1 with
  | 4 => some x.2
  | 6 => x_at tk x.2.1.toNat
  | _ => none
def x_tk (tk : xT) (V : List Int) : Prop := ∀ (j : Nat) (q : Int × Int), tk[j]? = some q → ∃ n, V[j]? = some n ∧ q.1 ≤ n ∧ n ≤ q.2
theorem x_bi_ok {ad : List Nat} {V : List Int} {sc : Nat × Nat × List Nat} {tk : xT} {x : xV} {q : Int × Int} {v : Value} (h : x_tk tk V) (hb : x_bi tk x = some q) (hr : x_rel ad V sc x v) : ∃ n : Int32, v = .int n ∧ q.1 ≤ n.toInt ∧ n.toInt ≤ q.2 := by
  obtain ⟨t, a, b⟩ := x
  unfold x_bi at hb
  unfold x_rel at hr
  split at hb
  · rename_i h0
    simp only at h0
    subst h0
    cases hb
    exact hr
  · rename_i h0
    simp only at h0
    subst h0
    obtain ⟨n, hv, hn⟩ := hr
    obtain ⟨n', h1, h2, h3⟩ := h _ _ ((x_at_eq _ _).symm.trans hb)
    simp only at hn h1
    rw [hn] at h1
    cases h1
    exact ⟨n, hv, h2, h3⟩
  · cases hb
theorem x_bl_ok {ad : List Nat} {V : List Int} {sc : Nat × Nat × List Nat} {tk : xT} {x : xV} {q : Int × Int} {v : Value} (h : x_tk tk V) (hb : x_bl tk x = some q) (hr : x_rel ad V sc x v) : ∃ n : Int64, v = .long n ∧ q.1 ≤ n.toInt ∧ n.toInt ≤ q.2 := by
  obtain ⟨t, a, b⟩ := x
  unfold x_bl at hb
  unfold x_rel at hr
  split at hb
  · rename_i h0
    simp only at h0
    subst h0
    cases hb
    exact hr
  · rename_i h0
    simp only at h0
    subst h0
    obtain ⟨n, hv, hn⟩ := hr
    obtain ⟨n', h1, h2, h3⟩ := h _ _ ((x_at_eq _ _).symm.trans hb)
    simp only at hn h1
    rw [hn] at h1
    cases h1
    exact ⟨n, hv, h2, h3⟩
  · cases hb
/-- a cell of the picture and a cell of the world -/
def x_cell (cl : List vw_C) (ad : List Nat) (V : List Int) (sc : Nat × Nat × List Nat) (tys : List (ClassId × FieldType)) (x : xC) (e : va_E) : Prop := match x.1 with
  | 0 => ∃ fs : List Value, e = .inr (x.2.1, fs) ∧ fs.length = x.2.2.1 ∧ ∀ k, k < x.2.2.1 → ∃ v, fs[k]? = some v ∧ x_rel ad V sc (x_get x.2.2.2.1 x.2.2.2.2 k) v
  | 1 => ∃ (t0 : Nat) (cA : ClassId) (f : Nat → Int32), tys[t0]? = some (cA, .int) ∧ e = .inl (cA, x.2.2.1, .inl f) ∧ x.2.2.1 < 2147483648 ∧ ∀ k, k < x.2.2.1 → x_rel ad V sc (x_get x.2.2.2.1 x.2.2.2.2 k) (.int (f k))
  | 2 => ∃ (t0 : Nat) (cA : ClassId) (f : Nat → Int32), tys[t0]? = some (cA, .byte) ∧ e = .inl (cA, x.2.2.1, .inl f) ∧ x.2.2.1 < 2147483648 ∧ ∀ k, k < x.2.2.1 → x_rel ad V sc (x_get x.2.2.2.1 x.2.2.2.2 k) (.int (f k))
  | 3 => ∃ (t0 : Nat) (cA : ClassId) (f : Nat → Int32), tys[t0]? = some (cA, .boolean) ∧ e = .inl (cA, x.2.2.1, .inl f) ∧ x.2.2.1 < 2147483648 ∧ ∀ k, k < x.2.2.1 → x_rel ad V sc (x_get x.2.2.2.1 x.2.2.2.2 k) (.int (f k))
  | 5 => ∃ (t0 : Nat) (cA : ClassId) (r : vw_C) (f : Nat → Option Nat), cl[x.2.1]? = some r ∧ tys[t0]? = some (cA, .object r.1) ∧ e = .inl (cA, x.2.2.1, .inr (.inr (.inr (.inr f)))) ∧ x.2.2.1 < 2147483648 ∧ ∀ k, k < x.2.2.1 → x_rel ad V sc (x_get x.2.2.2.1 x.2.2.2.2 k) (va_rf (f k))
  | 6 => ∃ (t0 : Nat) (cA : ClassId) (f : Nat → Option Nat), tys[t0]? = some (cA, .array .int) ∧ e = .inl (cA, x.2.2.1, .inr (.inr (.inr (.inr f)))) ∧ x.2.2.1 < 2147483648 ∧ ∀ k, k < x.2.2.1 → x_rel ad V sc (x_get x.2.2.2.1 x.2.2.2.2 k) (va_rf (f k))
  | _ => False
def x_world (cl : List vw_C) (V : List Int) (sc : Nat × Nat × List Nat) (tys : List (ClassId × FieldType)) (w : List xC) (ws : va_W) : Prop := w.length = ws.length ∧ (∃ l, ws.map Prod.fst = sc.2.2 ++ l) ∧ ∀ (k : Nat) (x : xC) (q : Nat × va_E), w[k]? = some x → ws[k]? = some q → x_cell cl (ws.map Prod.fst) V sc tys x q.2
/-- the picture holds of the machine -/
def x_In (cl : List vw_C) (V : List Int) (sc : Nat × Nat × List Nat) (nL : Nat) (s : State) (D : va_G) (A : Nat → Prop) (H0 : Heap) (t : xS) (ls : Array Slot) (stk : List Value) (H : Heap) (locs : List Loc) : Prop :=
  ∃ (lv : List (Nat × Value)) (ws : va_W) (tys : List (ClassId × FieldType)), lv_has ls nL lv ∧ x_all2 (fun a q => a.1 = q.1 ∧ x_rel (ws.map Prod.fst) V sc a.2 q.2) t.2.1 lv ∧ x_all2 (x_rel (ws.map Prod.fst) V sc) t.2.2.1 stk ∧
    x_world cl V sc tys t.2.2.2.1 ws ∧ va_K D cl tys s ∧ va_P D cl ws H ∧ va_D A ws ∧ va_S A H0 H locs ∧ x_tk t.2.2.2.2.1 V
def x_Good (cl : List vw_C) (V : List Int) (sc : Nat × Nat × List Nat) (nL : Nat) (p : Program) (l : Launch) (e : Env) (R : Room) (s : State) (m : MethodId) (args : Array Value) (below : List Frame) (meth : Method) (c : Code) (D : va_G) (A : Nat → Prop) (H0 : Heap) (Q : State → Prop) (t : xS) : Prop :=
  ∀ (ls : Array Slot) (stk : List Value) (H : Heap) (locs : List Loc), x_In cl V sc nL s D A H0 t ls stk H locs → W p l e R s m args below meth c H locs t.2.2.2.2.2.1 t.2.2.2.2.2.2 Q (F0 m t.1 ls stk)
end
end
-- part 03
section
noncomputable section
/-! plain instructions: what the interpreter does, and that the machine does so -/
theorem x_all2_filter {α β : Type} {R : α → β → Prop} {f : α → Bool} {g : β → Bool} : ∀ {as : List α} {bs : List β}, x_all2 R as bs → (∀ a b, R a b → f a = g b) → x_all2 R (as.filter f) (bs.filter g)
  | [], [], _, _ => trivial
  | a :: as, b :: bs, h, hf => by
    have e := hf a b h.1
    have ih := x_all2_filter h.2 hf
    simp only [List.filter_cons, e]
    split
    · exact ⟨h.1, ih⟩
    · exact ih
  | [], _ :: _, h, _ => h.elim
  | _ :: _, [], h, _ => h.elim
theorem x_all2_imp {α β : Type} {R R' : α → β → Prop} (hi : ∀ a b, R a b → R' a b) : ∀ {as : List α} {bs : List β}, x_all2 R as bs → x_all2 R' as bs
  | [], [], _ => trivial
  | _ :: _, _ :: _, h => ⟨hi _ _ h.1, x_all2_imp hi h.2⟩
  | [], _ :: _, h => h.elim
  | _ :: _, [], h => h.elim
theorem x_all2_app {α β : Type} {R : α → β → Prop} : ∀ {as as' : List α} {bs bs' : List β}, x_all2 R as bs → x_all2 R as' bs' → x_all2 R (as ++ as') (bs ++ bs')
  | [], _, [], _, _, h => h
  | _ :: _, _, _ :: _, _, h, h' => ⟨h.1, x_all2_app h.2 h'⟩
  | [], _, _ :: _, _, h, _ => h.elim
  | _ :: _, _, [], _, h, _ => h.elim
theorem x_all2_len {α β : Type} {R : α → β → Prop} : ∀ {as : List α} {bs : List β}, x_all2 R as bs → as.length = bs.length
  | [], [], _ => rfl
  | _ :: _, _ :: _, h => congrArg (· + 1) (x_all2_len h.2)
  | [], _ :: _, h => h.elim
  | _ :: _, [], h => h.elim
theorem x_all2_rev {α β : Type} {R : α → β → Prop} : ∀ {as : List α} {bs : List β}, x_all2 R as bs → x_all2 R as.reverse bs.reverse
  | [], [], _ => trivial
  | _ :: _, _ :: _, h => by
    rw [List.reverse_cons, List.reverse_cons]
    exact x_all2_app (x_all2_rev h.2) ⟨h.1, trivial⟩
  | [], _ :: _, h => h.elim
  | _ :: _, [], h => h.elim
def x_Cx (cc : ByteArray) (own : String) (nL : Nat) (nm : String) (MC MS : Nat) (p : Program) (R : Room) (s : State) (m : MethodId) (args : Array Value) (meth : Method) (c : Code) : Prop :=
  CallFix p m c cc nL s args x_tbl own ∧ meth.name = nm ∧ R.cells = MC ∧ R.slots = MS ∧ 1 ≤ R.frames ∧ 32 ≤ R.locals ∧ x_Ex s
abbrev xKx : Type := Room → State → (Nat → Prop) → Heap → List Int → Nat × Nat × List Nat → Prop
/-- one instruction, as the interpreter does it, may be trusted -/
def x_Snd (cl : List vw_C) (K : xKx) (cc : ByteArray) (own : String) (nL : Nat) (nm : String) (MC MS : Nat) (pc : Nat) (f : xS → Option (List xS)) : Prop :=
  ∀ {V : List Int} {sc : Nat × Nat × List Nat} {p : Program} {l : Launch} {e : Env} {R : Room} {s : State} {m : MethodId} {args : Array Value} {below : List Frame} {meth : Method} {c : Code} {D : va_G} {A : Nat → Prop} {H0 : Heap} {Q : State → Prop},
    x_Cx cc own nL nm MC MS p R s m args meth c → (∀ q : Nat, H0.size ≤ q → A q) → K R s A H0 V sc → ∀ (t : xS) (ts : List xS), t.1 = pc → f t = some ts →
    (∀ t' ∈ ts, x_Good cl V sc nL p l e R s m args below meth c D A H0 Q t') → x_Good cl V sc nL p l e R s m args below meth c D A H0 Q t
/-- the kinds of values: 0 an int, 1 a long, 2 a reference or null -/
def x_kd (ty : Nat) (v : Value) : Prop := match ty with
  | 0 => ∃ n, v = .int n
  | 1 => ∃ n, v = .long n
  | _ => v = .null ∨ ∃ a, v = .ref a
def x_ty (x : xV) : Nat := match x.1 with
  | 0 => 0
  | 3 => 0
  | 4 => 1
  | 6 => 1
  | _ => 2
theorem x_ty_ok {ad : List Nat} {V : List Int} {sc : Nat × Nat × List Nat} {x : xV} {v : Value} (h : x_rel ad V sc x v) : x_kd (x_ty x) v := by
  obtain ⟨t, a, b⟩ := x
  unfold x_rel at h
  unfold x_ty
  split at h
  · rename_i h0; simp only at h0; subst h0; exact ⟨_, h.choose_spec.1⟩
  · rename_i h0; simp only at h0; subst h0; exact Or.inr ⟨_, h.choose_spec.2⟩
  · rename_i h0; simp only at h0; subst h0; exact Or.inl h
  · rename_i h0; simp only at h0; subst h0; exact ⟨_, h.choose_spec.1⟩
  · rename_i h0; simp only at h0; subst h0; exact ⟨_, h.choose_spec.1⟩
  · rename_i h0; simp only at h0; subst h0; exact ⟨_, h.choose_spec.1⟩
  · rename_i h0; simp only at h0; subst h0; exact Or.inr ⟨_, h.1⟩
  · exact h.elim
theorem x_kd_cat {ty : Nat} {v : Value} (h : x_kd ty v) : v.category = if ty = 1 then 2 else 1 := by
  unfold x_kd at h
  split at h
  · obtain ⟨n, rfl⟩ := h; rfl
  · obtain ⟨n, rfl⟩ := h; rfl
  · rename_i h0 h1
    rw [if_neg h1]
    rcases h with rfl | ⟨a, rfl⟩ <;> rfl
def x_find (l : xL) (i : Nat) : Option xV := List.rec (motive := fun _ => Option xV) none (fun q _ ih => Bool.rec (motive := fun _ => Option xV) ih (some q.2) (Nat.beq q.1 i)) l
theorem x_find_cons (q : Nat × xV) (r : xL) (i : Nat) : x_find (q :: r) i = bif Nat.beq q.1 i then some q.2 else x_find r i := by
  unfold x_find
  cases h : Nat.beq q.1 i with
  | true => simp [h]
  | false => simp [h]
theorem x_find_ok {ad : List Nat} {V : List Int} {sc : Nat × Nat × List Nat} {i : Nat} {x : xV} : ∀ {al : xL} {lv : List (Nat × Value)}, x_all2 (fun a q => a.1 = q.1 ∧ x_rel ad V sc a.2 q.2) al lv → x_find al i = some x → ∃ (k : Nat) (v : Value), lv[k]? = some (i, v) ∧ x_rel ad V sc x v
  | [], [], _, h => by cases h
  | a :: al, q :: lv, h, hf => by
    rw [x_find_cons] at hf
    cases hb : Nat.beq a.1 i with
    | true =>
      rw [hb] at hf
      have e : a.1 = i := Nat.eq_of_beq_eq_true hb
      cases hf
      exact ⟨0, q.2, by simp [← e, h.1.1], h.1.2⟩
    | false =>
      rw [hb] at hf
      obtain ⟨k, v, h1, h2⟩ := x_find_ok h.2 hf
      exact ⟨k + 1, v, by simpa using h1, h2⟩
  | [], _ :: _, h, _ => h.elim
  | _ :: _, [], h, _ => h.elim
def x_flt (ty i : Nat) (q : Nat × xV) : Bool := bif Nat.beq ty 1 then !(Nat.beq q.1 i) && (!(Nat.beq q.1 (i + 1)) && !(Nat.beq (q.1 + 1) i && Nat.beq (x_ty q.2) 1)) else !(Nat.beq q.1 i) && !(Nat.beq (q.1 + 1) i && Nat.beq (x_ty q.2) 1)
def x_fltV (ty i : Nat) (q : Nat × Value) : Bool := bif Nat.beq ty 1 then !(q.1 == i) && (!(q.1 == i + 1) && !(q.1 + 1 == i && q.2.category == 2)) else !(q.1 == i) && !(q.1 + 1 == i && q.2.category == 2)
theorem x_bb (a b : Nat) : (a == b) = Nat.beq a b := by
  by_cases h : a = b
  · subst h; rw [Nat.beq_refl]; simp
  · rw [x_nb h]; simpa using h
theorem x_flt_eq {ad : List Nat} {V : List Int} {sc : Nat × Nat × List Nat} {ty i : Nat} (a : Nat × xV) (q : Nat × Value) (h : a.1 = q.1 ∧ x_rel ad V sc a.2 q.2) : x_flt ty i a = x_fltV ty i q := by
  have e : Nat.beq (x_ty a.2) 1 = (q.2.category == 2) := by
    rw [x_kd_cat (x_ty_ok h.2)]
    by_cases h1 : x_ty a.2 = 1
    · rw [h1]; rfl
    · rw [if_neg h1, x_nb h1]; rfl
  unfold x_flt x_fltV
  rw [h.1, e]
  simp only [x_bb]
-- what a row of the kit gives for one instruction
section XW
variable (cc : ByteArray) (own : String) (nL pc nx : Nat)
def x_Psh (v : Value) : Prop := ∀ {p : Program} {l : Launch} {e : Env} {R : Room} {s : State} {m : MethodId} {args : Array Value} {below : List Frame} {meth : Method} {c : Code}, CallFix p m c cc nL s args x_tbl own → ∀ {H : Heap} {locs : List Loc} {cells slots : Nat} {Q : State → Prop} {ls : Array Slot} {rest : List Value},
  W p l e R s m args below meth c H locs cells slots Q (F0 m nx ls (v :: rest)) → W p l e R s m args below meth c H locs cells slots Q (F0 m pc ls rest)
/-- the top of the stack changes from i to o -/
def x_Stk (i o : List Value) : Prop := ∀ {p : Program} {l : Launch} {e : Env} {R : Room} {s : State} {m : MethodId} {args : Array Value} {below : List Frame} {meth : Method} {c : Code}, CallFix p m c cc nL s args x_tbl own → ∀ {H : Heap} {locs : List Loc} {cells slots : Nat} {Q : State → Prop} {ls : Array Slot} {rest : List Value},
  W p l e R s m args below meth c H locs cells slots Q (F0 m nx ls (o ++ rest)) → W p l e R s m args below meth c H locs cells slots Q (F0 m pc ls (i ++ rest))
def x_Ld (i ty : Nat) : Prop := ∀ {p : Program} {l : Launch} {e : Env} {R : Room} {s : State} {m : MethodId} {args : Array Value} {below : List Frame} {meth : Method} {c : Code}, CallFix p m c cc nL s args x_tbl own → ∀ {H : Heap} {locs : List Loc} {cells slots : Nat} {Q : State → Prop} {ls : Array Slot} {rest : List Value} {v : Value}, ls[i]? = some (.val v) → x_kd ty v →
  W p l e R s m args below meth c H locs cells slots Q (F0 m nx ls (v :: rest)) → W p l e R s m args below meth c H locs cells slots Q (F0 m pc ls rest)
def x_Sto (i ty : Nat) : Prop := ∀ {p : Program} {l : Launch} {e : Env} {R : Room} {s : State} {m : MethodId} {args : Array Value} {below : List Frame} {meth : Method} {c : Code}, CallFix p m c cc nL s args x_tbl own → ∀ {H : Heap} {locs : List Loc} {cells slots : Nat} {Q : State → Prop} {ls : Array Slot} {rest : List Value} {v : Value} {lv : List (Nat × Value)}, lv_has ls nL lv → x_kd ty v →
  (∀ ls' : Array Slot, lv_has ls' nL ((i, v) :: lv.filter (x_fltV ty i)) → W p l e R s m args below meth c H locs cells slots Q (F0 m nx ls' rest)) → W p l e R s m args below meth c H locs cells slots Q (F0 m pc ls (v :: rest))
def x_Inc (i : Nat) (n : Int) : Prop := ∀ {p : Program} {l : Launch} {e : Env} {R : Room} {s : State} {m : MethodId} {args : Array Value} {below : List Frame} {meth : Method} {c : Code}, CallFix p m c cc nL s args x_tbl own → ∀ {H : Heap} {locs : List Loc} {cells slots : Nat} {Q : State → Prop} {ls : Array Slot} {rest : List Value} {k : Nat} {x : Int32} {lv : List (Nat × Value)}, lv_has ls nL lv → lv[k]? = some (i, .int x) →
  (∀ ls' : Array Slot, lv_has ls' nL ((i, .int (x + Int32.ofInt n)) :: lv.filter (x_fltV 0 i)) → W p l e R s m args below meth c H locs cells slots Q (F0 m nx ls' rest)) → W p l e R s m args below meth c H locs cells slots Q (F0 m pc ls rest)
end XW
def xi_push (x : xV) (nx : Nat) : xS → Option (List xS) := fun t => some [(nx, t.2.1, x :: t.2.2.1, t.2.2.2)]
def xi_load (i ty nx : Nat) : xS → Option (List xS) := fun t => match x_find t.2.1 i with
  | some x => bif Nat.beq (x_ty x) ty then some [(nx, t.2.1, x :: t.2.2.1, t.2.2.2)] else none
  | none => none
def xi_stor (i ty nx : Nat) : xS → Option (List xS) := fun t => match t.2.2.1 with
  | x :: r => bif Nat.beq (x_ty x) ty then some [(nx, (i, x) :: t.2.1.filter (x_flt ty i), r, t.2.2.2)] else none
  | [] => none
def xi_goto (nx : Nat) : xS → Option (List xS) := fun t => some [(nx, t.2)]
section X3
variable {cl : List vw_C} {K : xKx} {cc : ByteArray} {own : String} {nL : Nat} {nm : String} {MC MS pc nx : Nat}
theorem xi_push_ok {x : xV} {v : Value} (hw : x_Psh cc own nL pc nx v) (hv : ∀ ad V sc, x_rel ad V sc x v) : x_Snd cl K cc own nL nm MC MS pc (xi_push x nx) := by
  intro V sc p l e R s m args below meth c D A H0 Q C hA hK t ts hpc hf hg
  have hf' : some [(nx, t.2.1, x :: t.2.2.1, t.2.2.2)] = some ts := hf
  cases hf'
  subst hpc
  intro ls stk H locs ⟨lv, ws, tys, h1, h2, h3, h4⟩
  exact hw C.1 (hg _ List.mem_cons_self ls (v :: stk) H locs ⟨lv, ws, tys, h1, h2, ⟨hv _ _ _, h3⟩, h4⟩)
theorem xi_load_ok {i ty : Nat} (hw : x_Ld cc own nL pc nx i ty) : x_Snd cl K cc own nL nm MC MS pc (xi_load i ty nx) := by
  intro V sc p l e R s m args below meth c D A H0 Q C hA hK t ts hpc hf hg
  unfold xi_load at hf
  split at hf
  · rename_i x hx
    cases hb : Nat.beq (x_ty x) ty with
    | false => rw [hb] at hf; cases hf
    | true =>
      rw [hb] at hf
      cases hf
      subst hpc
      have e := Nat.eq_of_beq_eq_true hb
      intro ls stk H locs ⟨lv, ws, tys, h1, h2, h3, h4⟩
      obtain ⟨k, v, hk, hr⟩ := x_find_ok h2 hx
      exact hw C.1 (lv_at h1 k hk) (e ▸ x_ty_ok hr) (hg _ List.mem_cons_self ls (v :: stk) H locs ⟨lv, ws, tys, h1, h2, ⟨hr, h3⟩, h4⟩)
  · cases hf
theorem xi_stor_ok {i ty : Nat} (hw : x_Sto cc own nL pc nx i ty) : x_Snd cl K cc own nL nm MC MS pc (xi_stor i ty nx) := by
  intro V sc p l e R s m args below meth c D A H0 Q C hA hK t ts hpc hf hg
  unfold xi_stor at hf
  split at hf
  · rename_i x r hx
    cases hb : Nat.beq (x_ty x) ty with
    | false => rw [hb] at hf; cases hf
    | true =>
      rw [hb] at hf
      cases hf
      subst hpc
      have e := Nat.eq_of_beq_eq_true hb
      intro ls stk H locs ⟨lv, ws, tys, h1, h2, h3, h4⟩
      rw [hx] at h3
      match stk, h3 with
      | v :: rest, h3 =>
        exact hw C.1 h1 (e ▸ x_ty_ok h3.1) (fun ls' hl' => hg _ List.mem_cons_self ls' rest H locs ⟨_, ws, tys, hl', ⟨⟨rfl, h3.1⟩, x_all2_filter h2 x_flt_eq⟩, h3.2, h4⟩)
  · cases hf
theorem xi_goto_ok (hw : x_Stk cc own nL pc nx [] []) : x_Snd cl K cc own nL nm MC MS pc (xi_goto nx) := by
  intro V sc p l e R s m args below meth c D A H0 Q C hA hK t ts hpc hf hg
  have hf' : some [(nx, t.2)] = some ts := hf
  cases hf'
  subst hpc
  intro ls stk H locs h
  exact hw C.1 (hg _ List.mem_cons_self ls stk H locs h)
end X3
end
end
-- part 04
section
noncomputable section
/-! numbers by bounds; branches -/
def x_I (lo hi : Int) : xV := bif decide (-2147483648 ≤ lo) && decide (hi ≤ 2147483647) then (0, lo, hi) else (0, -2147483648, 2147483647)
def x_J (lo hi : Int) : xV := bif decide (-9223372036854775808 ≤ lo) && decide (hi ≤ 9223372036854775807) then (4, lo, hi) else (4, -9223372036854775808, 9223372036854775807)
theorem x_bmod {z : Int} (h1 : -2147483648 ≤ z) (h2 : z ≤ 2147483647) : z.bmod 4294967296 = z := by
  rw [Int.bmod_eq_of_le] <;> omega
theorem x_bmodL {z : Int} (h1 : -9223372036854775808 ≤ z) (h2 : z ≤ 9223372036854775807) : z.bmod 18446744073709551616 = z := by
  rw [Int.bmod_eq_of_le] <;> omega
theorem x_rng (n : Int32) : -2147483648 ≤ n.toInt ∧ n.toInt ≤ 2147483647 := by
  have h1 := Int32.le_toInt n
  have h2 := Int32.toInt_lt n
  omega
theorem x_rngL (n : Int64) : -9223372036854775808 ≤ n.toInt ∧ n.toInt ≤ 9223372036854775807 := by
  have h1 := Int64.le_toInt n
  have h2 := Int64.toInt_lt n
  omega
theorem x_I_ok {ad : List Nat} {V : List Int} {sc : Nat × Nat × List Nat} {n : Int32} {z lo hi : Int} (hz : n.toInt = z.bmod 4294967296) (h1 : lo ≤ z) (h2 : z ≤ hi) : x_rel ad V sc (x_I lo hi) (.int n) := by
  unfold x_I
  cases hc : (decide (-2147483648 ≤ lo) && decide (hi ≤ 2147483647)) with
  | false => exact ⟨n, rfl, (x_rng n).1, (x_rng n).2⟩
  | true =>
    simp only [Bool.and_eq_true, decide_eq_true_eq] at hc
    rw [x_bmod (by omega) (by omega)] at hz
    exact ⟨n, rfl, by show lo ≤ n.toInt; omega, by show n.toInt ≤ hi; omega⟩
theorem x_J_ok {ad : List Nat} {V : List Int} {sc : Nat × Nat × List Nat} {n : Int64} {z lo hi : Int} (hz : n.toInt = z.bmod 18446744073709551616) (h1 : lo ≤ z) (h2 : z ≤ hi) : x_rel ad V sc (x_J lo hi) (.long n) := by
  unfold x_J
  cases hc : (decide (-9223372036854775808 ≤ lo) && decide (hi ≤ 9223372036854775807)) with
  | false => exact ⟨n, rfl, (x_rngL n).1, (x_rngL n).2⟩
  | true =>
    simp only [Bool.and_eq_true, decide_eq_true_eq] at hc
    rw [x_bmodL (by omega) (by omega)] at hz
    exact ⟨n, rfl, by show lo ≤ n.toInt; omega, by show n.toInt ≤ hi; omega⟩
/-- any int -/
def x_any : xV := (0, -2147483648, 2147483647)
theorem x_any_ok {ad : List Nat} {V : List Int} {sc : Nat × Nat × List Nat} (n : Int32) : x_rel ad V sc x_any (.int n) := ⟨n, rfl, (x_rng n).1, (x_rng n).2⟩
def x_anyL : xV := (4, -9223372036854775808, 9223372036854775807)
theorem x_anyL_ok {ad : List Nat} {V : List Int} {sc : Nat × Nat × List Nat} (n : Int64) : x_rel ad V sc x_anyL (.long n) := ⟨n, rfl, (x_rngL n).1, (x_rngL n).2⟩
/-- two ints on the stack, an int comes: by bounds -/
def xi_bin (F : Int × Int → Int × Int → Option xV) (nx : Nat) : xS → Option (List xS) := fun t => match t.2.2.1 with
  | y :: x :: r => match x_bi t.2.2.2.2.1 x, x_bi t.2.2.2.2.1 y with
    | some a, some b => match F a b with
      | some z => some [(nx, t.2.1, z :: r, t.2.2.2)]
      | none => none
    | _, _ => none
  | _ => none
def xi_un (F : Int × Int → xV) (nx : Nat) : xS → Option (List xS) := fun t => match t.2.2.1 with
  | x :: r => match x_bi t.2.2.2.2.1 x with
    | some a => some [(nx, t.2.1, F a :: r, t.2.2.2)]
    | none => none
  | _ => none
def xi_binL (F : Int × Int → Int × Int → Option xV) (nx : Nat) : xS → Option (List xS) := fun t => match t.2.2.1 with
  | y :: x :: r => match x_bl t.2.2.2.2.1 x, x_bl t.2.2.2.2.1 y with
    | some a, some b => match F a b with
      | some z => some [(nx, t.2.1, z :: r, t.2.2.2)]
      | none => none
    | _, _ => none
  | _ => none
/-- a long below, an int above: a shift -/
def xi_shL (F : Int × Int → Int × Int → Option xV) (nx : Nat) : xS → Option (List xS) := fun t => match t.2.2.1 with
  | y :: x :: r => match x_bl t.2.2.2.2.1 x, x_bi t.2.2.2.2.1 y with
    | some a, some b => match F a b with
      | some z => some [(nx, t.2.1, z :: r, t.2.2.2)]
      | none => none
    | _, _ => none
  | _ => none
def xi_unL (F : Int × Int → xV) (nx : Nat) : xS → Option (List xS) := fun t => match t.2.2.1 with
  | x :: r => match x_bl t.2.2.2.2.1 x with
    | some a => some [(nx, t.2.1, F a :: r, t.2.2.2)]
    | none => none
  | _ => none
/-- an int becomes a long: a token stays one -/
def xi_i2l (nx : Nat) : xS → Option (List xS) := fun t => match t.2.2.1 with
  | x :: r => match x.1 with
    | 3 => some [(nx, t.2.1, (6, x.2) :: r, t.2.2.2)]
    | _ => match x_bi t.2.2.2.2.1 x with
      | some a => some [(nx, t.2.1, (4, a) :: r, t.2.2.2)]
      | none => none
  | _ => none
def xi_inc (i : Nat) (n : Int) (nx : Nat) : xS → Option (List xS) := fun t => match x_find t.2.1 i with
  | some x => match x_bi t.2.2.2.2.1 x with
    | some a => some [(nx, (i, x_I (a.1 + n) (a.2 + n)) :: t.2.1.filter (x_flt 0 i), t.2.2.1, t.2.2.2)]
    | none => none
  | none => none
section X4
variable {cl : List vw_C} {K : xKx} {cc : ByteArray} {own : String} {nL : Nat} {nm : String} {MC MS pc nx : Nat}
theorem xi_bin_ok {F : Int × Int → Int × Int → Option xV} {g : Int32 → Int32 → Int32} (P : Int32 → Prop) (hw : ∀ x y, P y → x_Stk cc own nL pc nx [.int y, .int x] [.int (g x y)])
    (hF : ∀ (a b : Int × Int) (z : xV) (x y : Int32), F a b = some z → a.1 ≤ x.toInt → x.toInt ≤ a.2 → b.1 ≤ y.toInt → y.toInt ≤ b.2 → P y ∧ ∀ ad V sc, x_rel ad V sc z (.int (g x y))) : x_Snd cl K cc own nL nm MC MS pc (xi_bin F nx) := by
  intro V sc p l e R s m args below meth c D A H0 Q C hA hK t ts hpc hf hg
  unfold xi_bin at hf
  split at hf
  · rename_i y x r hst
    split at hf
    · rename_i a b ha hb
      split at hf
      · rename_i z hz
        cases hf
        subst hpc
        intro ls stk H locs ⟨lv, ws, tys, h1, h2, h3, h4⟩
        rw [hst] at h3
        match stk, h3 with
        | v1 :: v2 :: rest, h3 =>
          obtain ⟨ny, rfl, y1, y2⟩ := x_bi_ok h4.2.2.2.2.2 hb h3.1
          obtain ⟨nx', rfl, x1, x2⟩ := x_bi_ok h4.2.2.2.2.2 ha h3.2.1
          obtain ⟨hP, hr⟩ := hF a b z nx' ny hz x1 x2 y1 y2
          exact hw nx' ny hP C.1 (hg _ List.mem_cons_self ls (.int (g nx' ny) :: rest) H locs ⟨lv, ws, tys, h1, h2, ⟨hr _ _ _, h3.2.2⟩, h4⟩)
      · cases hf
    · cases hf
  · cases hf
theorem xi_un_ok {F : Int × Int → xV} {g : Int32 → Value} (hw : ∀ x, x_Stk cc own nL pc nx [.int x] [g x])
    (hF : ∀ (a : Int × Int) (x : Int32), a.1 ≤ x.toInt → x.toInt ≤ a.2 → ∀ ad V sc, x_rel ad V sc (F a) (g x)) : x_Snd cl K cc own nL nm MC MS pc (xi_un F nx) := by
  intro V sc p l e R s m args below meth c D A H0 Q C hA hK t ts hpc hf hg
  unfold xi_un at hf
  split at hf
  · rename_i x r hst
    split at hf
    · rename_i a ha
      cases hf
      subst hpc
      intro ls stk H locs ⟨lv, ws, tys, h1, h2, h3, h4⟩
      rw [hst] at h3
      match stk, h3 with
      | v2 :: rest, h3 =>
        obtain ⟨nx', rfl, x1, x2⟩ := x_bi_ok h4.2.2.2.2.2 ha h3.1
        exact hw nx' C.1 (hg _ List.mem_cons_self ls (g nx' :: rest) H locs ⟨lv, ws, tys, h1, h2, ⟨hF a nx' x1 x2 _ _ _, h3.2⟩, h4⟩)
    · cases hf
  · cases hf
theorem xi_unL_ok {F : Int × Int → xV} {g : Int64 → Value} (hw : ∀ x, x_Stk cc own nL pc nx [.long x] [g x])
    (hF : ∀ (a : Int × Int) (x : Int64), a.1 ≤ x.toInt → x.toInt ≤ a.2 → ∀ ad V sc, x_rel ad V sc (F a) (g x)) : x_Snd cl K cc own nL nm MC MS pc (xi_unL F nx) := by
  intro V sc p l e R s m args below meth c D A H0 Q C hA hK t ts hpc hf hg
  unfold xi_unL at hf
  split at hf
  · rename_i x r hst
    split at hf
    · rename_i a ha
      cases hf
      subst hpc
      intro ls stk H locs ⟨lv, ws, tys, h1, h2, h3, h4⟩
      rw [hst] at h3
      match stk, h3 with
      | v2 :: rest, h3 =>
        obtain ⟨nx', rfl, x1, x2⟩ := x_bl_ok h4.2.2.2.2.2 ha h3.1
        exact hw nx' C.1 (hg _ List.mem_cons_self ls (g nx' :: rest) H locs ⟨lv, ws, tys, h1, h2, ⟨hF a nx' x1 x2 _ _ _, h3.2⟩, h4⟩)
    · cases hf
  · cases hf
theorem xi_binL_ok {F : Int × Int → Int × Int → Option xV} {g : Int64 → Int64 → Int64} (P : Int64 → Prop) (hw : ∀ x y, P y → x_Stk cc own nL pc nx [.long y, .long x] [.long (g x y)])
    (hF : ∀ (a b : Int × Int) (z : xV) (x y : Int64), F a b = some z → a.1 ≤ x.toInt → x.toInt ≤ a.2 → b.1 ≤ y.toInt → y.toInt ≤ b.2 → P y ∧ ∀ ad V sc, x_rel ad V sc z (.long (g x y))) : x_Snd cl K cc own nL nm MC MS pc (xi_binL F nx) := by
  intro V sc p l e R s m args below meth c D A H0 Q C hA hK t ts hpc hf hg
  unfold xi_binL at hf
  split at hf
  · rename_i y x r hst
    split at hf
    · rename_i a b ha hb
      split at hf
      · rename_i z hz
        cases hf
        subst hpc
        intro ls stk H locs ⟨lv, ws, tys, h1, h2, h3, h4⟩
        rw [hst] at h3
        match stk, h3 with
        | v1 :: v2 :: rest, h3 =>
          obtain ⟨ny, rfl, y1, y2⟩ := x_bl_ok h4.2.2.2.2.2 hb h3.1
          obtain ⟨nx', rfl, x1, x2⟩ := x_bl_ok h4.2.2.2.2.2 ha h3.2.1
          obtain ⟨hP, hr⟩ := hF a b z nx' ny hz x1 x2 y1 y2
          exact hw nx' ny hP C.1 (hg _ List.mem_cons_self ls (.long (g nx' ny) :: rest) H locs ⟨lv, ws, tys, h1, h2, ⟨hr _ _ _, h3.2.2⟩, h4⟩)
      · cases hf
    · cases hf
  · cases hf
theorem xi_shL_ok {F : Int × Int → Int × Int → Option xV} {g : Int64 → Int32 → Int64} (hw : ∀ x y, x_Stk cc own nL pc nx [.int y, .long x] [.long (g x y)])
    (hF : ∀ (a b : Int × Int) (z : xV) (x : Int64) (y : Int32), F a b = some z → a.1 ≤ x.toInt → x.toInt ≤ a.2 → b.1 ≤ y.toInt → y.toInt ≤ b.2 → ∀ ad V sc, x_rel ad V sc z (.long (g x y))) : x_Snd cl K cc own nL nm MC MS pc (xi_shL F nx) := by
  intro V sc p l e R s m args below meth c D A H0 Q C hA hK t ts hpc hf hg
  unfold xi_shL at hf
  split at hf
  · rename_i y x r hst
    split at hf
    · rename_i a b ha hb
      split at hf
      · rename_i z hz
        cases hf
        subst hpc
        intro ls stk H locs ⟨lv, ws, tys, h1, h2, h3, h4⟩
        rw [hst] at h3
        match stk, h3 with
        | v1 :: v2 :: rest, h3 =>
          obtain ⟨ny, rfl, y1, y2⟩ := x_bi_ok h4.2.2.2.2.2 hb h3.1
          obtain ⟨nx', rfl, x1, x2⟩ := x_bl_ok h4.2.2.2.2.2 ha h3.2.1
          have hr := hF a b z nx' ny hz x1 x2 y1 y2
          exact hw nx' ny C.1 (hg _ List.mem_cons_self ls (.long (g nx' ny) :: rest) H locs ⟨lv, ws, tys, h1, h2, ⟨hr _ _ _, h3.2.2⟩, h4⟩)
      · cases hf
    · cases hf
  · cases hf
theorem xi_i2l_ok (hw : ∀ x : Int32, x_Stk cc own nL pc nx [.int x] [.long x.toInt64]) : x_Snd cl K cc own nL nm MC MS pc (xi_i2l nx) := by
  intro V sc p l e R s m args below meth c D A H0 Q C hA hK t ts hpc hf hg
  unfold xi_i2l at hf
  split at hf
  · rename_i x r hst
    obtain ⟨tg, xa, xb⟩ := x
    split at hf
    · rename_i h0
      simp only at h0
      subst h0
      cases hf
      subst hpc
      intro ls stk H locs ⟨lv, ws, tys, h1, h2, h3, h4⟩
      rw [hst] at h3
      match stk, h3 with
      | v2 :: rest, h3 =>
        obtain ⟨n, rfl, hn⟩ := h3.1
        exact hw n C.1 (hg _ List.mem_cons_self ls (.long n.toInt64 :: rest) H locs ⟨lv, ws, tys, h1, h2, ⟨⟨n.toInt64, rfl, by rw [Int32.toInt_toInt64]; exact hn⟩, h3.2⟩, h4⟩)
    · split at hf
      · rename_i a ha
        cases hf
        subst hpc
        intro ls stk H locs ⟨lv, ws, tys, h1, h2, h3, h4⟩
        rw [hst] at h3
        match stk, h3 with
        | v2 :: rest, h3 =>
          obtain ⟨n, rfl, x1, x2⟩ := x_bi_ok h4.2.2.2.2.2 ha h3.1
          exact hw n C.1 (hg _ List.mem_cons_self ls (.long n.toInt64 :: rest) H locs ⟨lv, ws, tys, h1, h2, ⟨⟨n.toInt64, rfl, by rw [Int32.toInt_toInt64]; exact x1, by rw [Int32.toInt_toInt64]; exact x2⟩, h3.2⟩, h4⟩)
      · cases hf
  · cases hf
theorem xi_inc_ok {i : Nat} {n : Int} (hn : -2147483648 ≤ n ∧ n ≤ 2147483647) (hw : x_Inc cc own nL pc nx i n) : x_Snd cl K cc own nL nm MC MS pc (xi_inc i n nx) := by
  intro V sc p l e R s m args below meth c D A H0 Q C hA hK t ts hpc hf hg
  unfold xi_inc at hf
  split at hf
  · rename_i x hx
    split at hf
    · rename_i a ha
      cases hf
      subst hpc
      intro ls stk H locs ⟨lv, ws, tys, h1, h2, h3, h4⟩
      obtain ⟨k, v, hk, hr⟩ := x_find_ok h2 hx
      obtain ⟨z, rfl, x1, x2⟩ := x_bi_ok h4.2.2.2.2.2 ha hr
      refine hw C.1 h1 hk (fun ls' hl' => hg _ List.mem_cons_self ls' stk H locs ⟨_, ws, tys, hl', ⟨⟨rfl, ?_⟩, x_all2_filter h2 x_flt_eq⟩, h3, h4⟩)
      refine x_I_ok (z := z.toInt + n) ?_ (by omega) (by omega)
      rw [Int32.toInt_add, Int32.toInt_ofInt, x_bmod hn.1 hn.2]
    · cases hf
  · cases hf
end X4
end
end
-- part 05
section
noncomputable section
/-! branches by bounds: decided where the bounds decide, else both ways with narrower bounds -/
def x_cnd (k : Nat) (a b : Int) : Prop := match k with
  | 0 => a = b
  | 1 => a ≠ b
  | 2 => a < b
  | 3 => b ≤ a
  | 4 => b < a
  | _ => a ≤ b
def x_neg (k : Nat) : Nat := match k with
  | 0 => 1
  | 1 => 0
  | 2 => 3
  | 3 => 2
  | 4 => 5
  | _ => 4
theorem x_neg_ok {k : Nat} {a b : Int} (h : ¬ x_cnd k a b) : x_cnd (x_neg k) a b := by
  unfold x_cnd at h
  unfold x_neg
  split at h <;> simp only [x_cnd] <;> omega
/-- can it be so? -/
def x_may (k : Nat) (a b : Int × Int) : Bool := match k with
  | 0 => decide (a.1 ≤ b.2) && decide (b.1 ≤ a.2)
  | 1 => !(decide (a.1 = a.2) && (decide (b.1 = b.2) && decide (a.1 = b.1)))
  | 2 => decide (a.1 < b.2)
  | 3 => decide (b.1 ≤ a.2)
  | 4 => decide (b.1 < a.2)
  | _ => decide (a.1 ≤ b.2)
theorem x_may_ok {k : Nat} {a b : Int × Int} {x y : Int} (hx : a.1 ≤ x ∧ x ≤ a.2) (hy : b.1 ≤ y ∧ y ≤ b.2) (h : x_cnd k x y) : x_may k a b = true := by
  unfold x_cnd at h
  unfold x_may
  split at h <;> simp only [Bool.and_eq_true, decide_eq_true_eq, Bool.not_eq_true', Bool.and_eq_false_iff, decide_eq_false_iff_not] <;> omega
def x_max (a b : Int) : Int := bif decide (a ≤ b) then b else a
def x_min (a b : Int) : Int := bif decide (a ≤ b) then a else b
theorem x_max_le {a b x : Int} (h1 : a ≤ x) (h2 : b ≤ x) : x_max a b ≤ x := by
  unfold x_max
  cases decide (a ≤ b) <;> assumption
theorem x_le_min {a b x : Int} (h1 : x ≤ a) (h2 : x ≤ b) : x ≤ x_min a b := by
  unfold x_min
  cases decide (a ≤ b) <;> assumption
/-- what is then known of the first -/
def x_nar1 (k : Nat) (a b : Int × Int) : Int × Int := match k with
  | 0 => (x_max a.1 b.1, x_min a.2 b.2)
  | 1 => a
  | 2 => (a.1, x_min a.2 (b.2 - 1))
  | 3 => (x_max a.1 b.1, a.2)
  | 4 => (x_max a.1 (b.1 + 1), a.2)
  | _ => (a.1, x_min a.2 b.2)
def x_nar2 (k : Nat) (a b : Int × Int) : Int × Int := match k with
  | 0 => (x_max a.1 b.1, x_min a.2 b.2)
  | 1 => b
  | 2 => (x_max b.1 (a.1 + 1), b.2)
  | 3 => (b.1, x_min b.2 a.2)
  | 4 => (b.1, x_min b.2 (a.2 - 1))
  | _ => (x_max b.1 a.1, b.2)
theorem x_nar_ok {k : Nat} {a b : Int × Int} {x y : Int} (hx : a.1 ≤ x ∧ x ≤ a.2) (hy : b.1 ≤ y ∧ y ≤ b.2) (h : x_cnd k x y) : ((x_nar1 k a b).1 ≤ x ∧ x ≤ (x_nar1 k a b).2) ∧ (x_nar2 k a b).1 ≤ y ∧ y ≤ (x_nar2 k a b).2 := by
  unfold x_cnd at h
  unfold x_nar1 x_nar2
  split at h <;> refine ⟨⟨?_, ?_⟩, ?_, ?_⟩ <;> (try simp only) <;> first | omega | (apply x_max_le <;> omega) | (apply x_le_min <;> omega)
/-- a token's bounds set -/
def x_setb (tk : xT) (x : xV) (b : Int × Int) : xT := match x.1 with
  | 3 => tk.set x.2.1.toNat b
  | 6 => tk.set x.2.1.toNat b
  | _ => tk
theorem x_tk_set {tk : xT} {V : List Int} {j : Nat} {b : Int × Int} {z : Int} (h : x_tk tk V) (hv : V[j]? = some z) (h1 : b.1 ≤ z) (h2 : z ≤ b.2) : x_tk (tk.set j b) V := by
  intro i q hq
  rw [List.getElem?_set] at hq
  split at hq
  · rename_i e
    split at hq
    · cases hq
      subst e
      exact ⟨z, hv, h1, h2⟩
    · cases hq
  · exact h i q hq
theorem x_setb_i {ad : List Nat} {V : List Int} {sc : Nat × Nat × List Nat} {tk : xT} {x : xV} {b : Int × Int} {n : Int32} (h : x_tk tk V) (hr : x_rel ad V sc x (.int n)) (h1 : b.1 ≤ n.toInt) (h2 : n.toInt ≤ b.2) : x_tk (x_setb tk x b) V := by
  obtain ⟨t, xa, xb⟩ := x
  unfold x_setb
  unfold x_rel at hr
  split at hr
  · rename_i h0; simp only at h0; subst h0; exact h
  · rename_i h0; simp only at h0; subst h0; exact h
  · rename_i h0; simp only at h0; subst h0; exact h
  · rename_i h0; simp only at h0; subst h0
    obtain ⟨n', e, hv⟩ := hr
    cases e
    exact x_tk_set h hv h1 h2
  · rename_i h0; simp only at h0; subst h0; exact h
  · obtain ⟨n', e, hv⟩ := hr
    cases e
  · rename_i h0; simp only at h0; subst h0; exact h
  · exact hr.elim
theorem x_setb_l {ad : List Nat} {V : List Int} {sc : Nat × Nat × List Nat} {tk : xT} {x : xV} {b : Int × Int} {n : Int64} (h : x_tk tk V) (hr : x_rel ad V sc x (.long n)) (h1 : b.1 ≤ n.toInt) (h2 : n.toInt ≤ b.2) : x_tk (x_setb tk x b) V := by
  obtain ⟨t, xa, xb⟩ := x
  unfold x_setb
  unfold x_rel at hr
  split at hr
  · rename_i h0; simp only at h0; subst h0; exact h
  · rename_i h0; simp only at h0; subst h0; exact h
  · rename_i h0; simp only at h0; subst h0; exact h
  · obtain ⟨n', e, hv⟩ := hr
    cases e
  · rename_i h0; simp only at h0; subst h0; exact h
  · rename_i h0; simp only at h0; subst h0
    obtain ⟨n', e, hv⟩ := hr
    cases e
    exact x_tk_set h hv h1 h2
  · rename_i h0; simp only at h0; subst h0; exact h
  · exact hr.elim
/-- one way of a branch, if it can be gone -/
def x_way (k : Nat) (a b : Int × Int) (t : xS) (x y : xV) (st : List xV) (nx : Nat) : List xS :=
  bif x_may k a b then [(nx, t.2.1, st, t.2.2.2.1, x_setb (x_setb t.2.2.2.2.1 x (x_nar1 k a b)) y (x_nar2 k a b), t.2.2.2.2.2)] else []
def xi_if2 (k tg nx : Nat) : xS → Option (List xS) := fun t => match t.2.2.1 with
  | y :: x :: r => match x_bi t.2.2.2.2.1 x, x_bi t.2.2.2.2.1 y with
    | some a, some b => some (x_way k a b t x y r tg ++ x_way (x_neg k) a b t x y r nx)
    | _, _ => none
  | _ => none
def xi_if1 (k tg nx : Nat) : xS → Option (List xS) := fun t => match t.2.2.1 with
  | x :: r => match x_bi t.2.2.2.2.1 x with
    | some a => some (x_way k a (0, 0) t x (0, 0, 0) r tg ++ x_way (x_neg k) a (0, 0) t x (0, 0, 0) r nx)
    | _ => none
  | _ => none
def xi_lcmp (nx : Nat) : xS → Option (List xS) := fun t => match t.2.2.1 with
  | y :: x :: r => match x_bl t.2.2.2.2.1 x, x_bl t.2.2.2.2.1 y with
    | some a, some b => some (x_way 2 a b t x y ((0, -1, -1) :: r) nx ++ (x_way 0 a b t x y ((0, 0, 0) :: r) nx ++ x_way 4 a b t x y ((0, 1, 1) :: r) nx))
    | _, _ => none
  | _ => none
section XW5
variable (cc : ByteArray) (own : String) (nL pc tg nx : Nat)
def x_If2 (k : Nat) : Prop := ∀ {p : Program} {l : Launch} {e : Env} {R : Room} {s : State} {m : MethodId} {args : Array Value} {below : List Frame} {meth : Method} {c : Code}, CallFix p m c cc nL s args x_tbl own → ∀ {H : Heap} {locs : List Loc} {cells slots : Nat} {Q : State → Prop} {ls : Array Slot} {rest : List Value} {x y : Int32},
  (x_cnd k x.toInt y.toInt → W p l e R s m args below meth c H locs cells slots Q (F0 m tg ls rest)) → (¬ x_cnd k x.toInt y.toInt → W p l e R s m args below meth c H locs cells slots Q (F0 m nx ls rest)) → W p l e R s m args below meth c H locs cells slots Q (F0 m pc ls (.int y :: .int x :: rest))
def x_If1 (k : Nat) : Prop := ∀ {p : Program} {l : Launch} {e : Env} {R : Room} {s : State} {m : MethodId} {args : Array Value} {below : List Frame} {meth : Method} {c : Code}, CallFix p m c cc nL s args x_tbl own → ∀ {H : Heap} {locs : List Loc} {cells slots : Nat} {Q : State → Prop} {ls : Array Slot} {rest : List Value} {x : Int32},
  (x_cnd k x.toInt 0 → W p l e R s m args below meth c H locs cells slots Q (F0 m tg ls rest)) → (¬ x_cnd k x.toInt 0 → W p l e R s m args below meth c H locs cells slots Q (F0 m nx ls rest)) → W p l e R s m args below meth c H locs cells slots Q (F0 m pc ls (.int x :: rest))
end XW5
section X5
variable {cl : List vw_C} {K : xKx} {cc : ByteArray} {own : String} {nL : Nat} {nm : String} {MC MS pc tg nx : Nat}
theorem x_way_in {k : Nat} {a b : Int × Int} {t : xS} {x y : xV} {st : List xV} {nx : Nat} (h : x_may k a b = true) : (nx, t.2.1, st, t.2.2.2.1, x_setb (x_setb t.2.2.2.2.1 x (x_nar1 k a b)) y (x_nar2 k a b), t.2.2.2.2.2) ∈ x_way k a b t x y st nx := by
  unfold x_way
  rw [h]
  exact List.mem_cons_self
theorem xi_if2_ok {k : Nat} (hw : x_If2 cc own nL pc tg nx k) : x_Snd cl K cc own nL nm MC MS pc (xi_if2 k tg nx) := by
  intro V sc p l e R s m args below meth c D A H0 Q C hA hK t ts hpc hf hg
  unfold xi_if2 at hf
  split at hf
  · rename_i y x r hst
    split at hf
    · rename_i a b ha hb
      cases hf
      subst hpc
      intro ls stk H locs ⟨lv, ws, tys, h1, h2, h3, h4, h5, h6, h7, h8, h9⟩
      rw [hst] at h3
      match stk, h3 with
      | v1 :: v2 :: rest, h3 =>
        obtain ⟨ny, rfl, y1, y2⟩ := x_bi_ok h9 hb h3.1
        obtain ⟨nx', rfl, x1, x2⟩ := x_bi_ok h9 ha h3.2.1
        refine hw C.1 (fun hc => ?_) (fun hc => ?_)
        · obtain ⟨⟨g1, g2⟩, g3, g4⟩ := x_nar_ok ⟨x1, x2⟩ ⟨y1, y2⟩ hc
          exact hg _ (List.mem_append_left _ (x_way_in (x_may_ok ⟨x1, x2⟩ ⟨y1, y2⟩ hc))) ls rest H locs ⟨lv, ws, tys, h1, h2, h3.2.2, h4, h5, h6, h7, h8, x_setb_i (x_setb_i h9 h3.2.1 g1 g2) h3.1 g3 g4⟩
        · have hc := x_neg_ok hc
          obtain ⟨⟨g1, g2⟩, g3, g4⟩ := x_nar_ok ⟨x1, x2⟩ ⟨y1, y2⟩ hc
          exact hg _ (List.mem_append_right _ (x_way_in (x_may_ok ⟨x1, x2⟩ ⟨y1, y2⟩ hc))) ls rest H locs ⟨lv, ws, tys, h1, h2, h3.2.2, h4, h5, h6, h7, h8, x_setb_i (x_setb_i h9 h3.2.1 g1 g2) h3.1 g3 g4⟩
    · cases hf
  · cases hf
theorem xi_if1_ok {k : Nat} (hw : x_If1 cc own nL pc tg nx k) : x_Snd cl K cc own nL nm MC MS pc (xi_if1 k tg nx) := by
  intro V sc p l e R s m args below meth c D A H0 Q C hA hK t ts hpc hf hg
  unfold xi_if1 at hf
  split at hf
  · rename_i x r hst
    split at hf
    · rename_i a ha
      cases hf
      subst hpc
      intro ls stk H locs ⟨lv, ws, tys, h1, h2, h3, h4, h5, h6, h7, h8, h9⟩
      rw [hst] at h3
      match stk, h3 with
      | v2 :: rest, h3 =>
        obtain ⟨nx', rfl, x1, x2⟩ := x_bi_ok h9 ha h3.1
        refine hw C.1 (fun hc => ?_) (fun hc => ?_)
        · obtain ⟨⟨g1, g2⟩, g3, g4⟩ := x_nar_ok (b := (0, 0)) ⟨x1, x2⟩ ⟨Int.le_refl 0, Int.le_refl 0⟩ hc
          exact hg _ (List.mem_append_left _ (x_way_in (x_may_ok ⟨x1, x2⟩ ⟨Int.le_refl 0, Int.le_refl 0⟩ hc))) ls rest H locs ⟨lv, ws, tys, h1, h2, h3.2, h4, h5, h6, h7, h8, x_setb_i h9 h3.1 g1 g2⟩
        · have hc := x_neg_ok hc
          obtain ⟨⟨g1, g2⟩, g3, g4⟩ := x_nar_ok (b := (0, 0)) ⟨x1, x2⟩ ⟨Int.le_refl 0, Int.le_refl 0⟩ hc
          exact hg _ (List.mem_append_right _ (x_way_in (x_may_ok ⟨x1, x2⟩ ⟨Int.le_refl 0, Int.le_refl 0⟩ hc))) ls rest H locs ⟨lv, ws, tys, h1, h2, h3.2, h4, h5, h6, h7, h8, x_setb_i h9 h3.1 g1 g2⟩
    · cases hf
  · cases hf
theorem x_lg_cmp (x y : Int64) : (x.toInt < y.toInt → lg_cmp x y = -1) ∧ (x.toInt = y.toInt → lg_cmp x y = 0) ∧ (y.toInt < x.toInt → lg_cmp x y = 1) := by
  unfold lg_cmp
  refine ⟨fun h => ?_, fun h => ?_, fun h => ?_⟩
  · have h2 : ¬ y.toInt < x.toInt := by omega
    have h4 : ¬ x = y := fun e => by rw [e] at h; omega
    rw [if_neg (fun q => h2 (Int64.lt_iff_toInt_lt.mp q)), if_neg h4]
  · have e : x = y := Int64.toInt_inj.mp h
    subst e
    rw [if_neg (fun q => by have := Int64.lt_iff_toInt_lt.mp q; omega), if_pos rfl]
  · rw [if_pos (Int64.lt_iff_toInt_lt.mpr h)]
theorem xi_lcmp_ok (hw : ∀ x y : Int64, x_Stk cc own nL pc nx [.long y, .long x] [.int (lg_cmp x y)]) : x_Snd cl K cc own nL nm MC MS pc (xi_lcmp nx) := by
  intro V sc p l e R s m args below meth c D A H0 Q C hA hK t ts hpc hf hg
  unfold xi_lcmp at hf
  split at hf
  · rename_i y x r hst
    split at hf
    · rename_i a b ha hb
      cases hf
      subst hpc
      intro ls stk H locs ⟨lv, ws, tys, h1, h2, h3, h4, h5, h6, h7, h8, h9⟩
      rw [hst] at h3
      match stk, h3 with
      | v1 :: v2 :: rest, h3 =>
        obtain ⟨ny, rfl, y1, y2⟩ := x_bl_ok h9 hb h3.1
        obtain ⟨nx', rfl, x1, x2⟩ := x_bl_ok h9 ha h3.2.1
        obtain ⟨c1, c2, c3⟩ := x_lg_cmp nx' ny
        refine hw nx' ny C.1 ?_
        rcases Int.lt_trichotomy nx'.toInt ny.toInt with hc | hc | hc
        · have hc' : x_cnd 2 nx'.toInt ny.toInt := hc
          obtain ⟨⟨g1, g2⟩, g3, g4⟩ := x_nar_ok ⟨x1, x2⟩ ⟨y1, y2⟩ hc'
          rw [c1 hc]
          exact hg _ (List.mem_append_left _ (x_way_in (x_may_ok ⟨x1, x2⟩ ⟨y1, y2⟩ hc'))) ls (.int (-1) :: rest) H locs ⟨lv, ws, tys, h1, h2, ⟨⟨-1, rfl, by decide, by decide⟩, h3.2.2⟩, h4, h5, h6, h7, h8, x_setb_l (x_setb_l h9 h3.2.1 g1 g2) h3.1 g3 g4⟩
        · have hc' : x_cnd 0 nx'.toInt ny.toInt := hc
          obtain ⟨⟨g1, g2⟩, g3, g4⟩ := x_nar_ok ⟨x1, x2⟩ ⟨y1, y2⟩ hc'
          rw [c2 hc]
          exact hg _ (List.mem_append_right _ (List.mem_append_left _ (x_way_in (x_may_ok ⟨x1, x2⟩ ⟨y1, y2⟩ hc')))) ls (.int 0 :: rest) H locs ⟨lv, ws, tys, h1, h2, ⟨⟨0, rfl, by decide, by decide⟩, h3.2.2⟩, h4, h5, h6, h7, h8, x_setb_l (x_setb_l h9 h3.2.1 g1 g2) h3.1 g3 g4⟩
        · have hc' : x_cnd 4 nx'.toInt ny.toInt := hc
          obtain ⟨⟨g1, g2⟩, g3, g4⟩ := x_nar_ok ⟨x1, x2⟩ ⟨y1, y2⟩ hc'
          rw [c3 hc]
          exact hg _ (List.mem_append_right _ (List.mem_append_right _ (x_way_in (x_may_ok ⟨x1, x2⟩ ⟨y1, y2⟩ hc')))) ls (.int 1 :: rest) H locs ⟨lv, ws, tys, h1, h2, ⟨⟨1, rfl, by decide, by decide⟩, h3.2.2⟩, h4, h5, h6, h7, h8, x_setb_l (x_setb_l h9 h3.2.1 g1 g2) h3.1 g3 g4⟩
    · cases hf
  · cases hf
end X5
end
end
-- part 06
section
noncomputable section
/-! cells: fields, arrays, new ones -/
theorem x_rel_app {ad ad' : List Nat} {V : List Int} {sc : Nat × Nat × List Nat} {x : xV} {v : Value} (h : x_rel ad V sc x v) : x_rel (ad ++ ad') V sc x v := by
  obtain ⟨t, a, b⟩ := x
  unfold x_rel at h ⊢
  split at h <;> try exact h
  obtain ⟨q, h1, h2⟩ := h
  exact ⟨q, by rw [List.getElem?_append_left (List.getElem?_eq_some_iff.mp h1).1]; exact h1, h2⟩
theorem x_cell_mono {cl : List vw_C} {ad ad' : List Nat} {V : List Int} {sc : Nat × Nat × List Nat} {tys tys' : List (ClassId × FieldType)} {x : xC} {e : va_E} (h : x_cell cl ad V sc tys x e) : x_cell cl (ad ++ ad') V sc (tys ++ tys') x e := by
  have ht : ∀ {t0 : Nat} {q : ClassId × FieldType}, tys[t0]? = some q → (tys ++ tys')[t0]? = some q := fun h => by rw [List.getElem?_append_left (List.getElem?_eq_some_iff.mp h).1]; exact h
  obtain ⟨t, n, ln, d, o⟩ := x
  unfold x_cell at h ⊢
  split at h
  · obtain ⟨fs, h1, h2, h3⟩ := h
    exact ⟨fs, h1, h2, fun k hk => by obtain ⟨v, g1, g2⟩ := h3 k hk; exact ⟨v, g1, x_rel_app g2⟩⟩
  · obtain ⟨t0, cA, f, h1, h2, h3, h4⟩ := h
    exact ⟨t0, cA, f, ht h1, h2, h3, fun k hk => x_rel_app (h4 k hk)⟩
  · obtain ⟨t0, cA, f, h1, h2, h3, h4⟩ := h
    exact ⟨t0, cA, f, ht h1, h2, h3, fun k hk => x_rel_app (h4 k hk)⟩
  · obtain ⟨t0, cA, f, h1, h2, h3, h4⟩ := h
    exact ⟨t0, cA, f, ht h1, h2, h3, fun k hk => x_rel_app (h4 k hk)⟩
  · obtain ⟨t0, cA, r, f, h0, h1, h2, h3, h4⟩ := h
    exact ⟨t0, cA, r, f, h0, ht h1, h2, h3, fun k hk => x_rel_app (h4 k hk)⟩
  · obtain ⟨t0, cA, f, h1, h2, h3, h4⟩ := h
    exact ⟨t0, cA, f, ht h1, h2, h3, fun k hk => x_rel_app (h4 k hk)⟩
  · exact h.elim
theorem x_fst_set {ws : va_W} {k a : Nat} {e0 e : va_E} (h : ws[k]? = some (a, e0)) : (ws.set k (a, e)).map Prod.fst = ws.map Prod.fst := by
  rw [List.map_set]
  apply List.ext_getElem?
  intro i
  rw [List.getElem?_set]
  split
  · rename_i hi
    subst hi
    have hl := (List.getElem?_eq_some_iff.mp h).1
    rw [List.length_map, if_pos hl, List.getElem?_map, h]
    rfl
  · rfl
theorem x_world_set {cl : List vw_C} {V : List Int} {sc : Nat × Nat × List Nat} {tys : List (ClassId × FieldType)} {w : List xC} {ws : va_W} {k a : Nat} {e0 e : va_E} {x : xC} (h : x_world cl V sc tys w ws) (hk : ws[k]? = some (a, e0)) (hx : x_cell cl (ws.map Prod.fst) V sc tys x e) : x_world cl V sc tys (x_up w k x) (ws.set k (a, e)) := by
  rw [x_up_eq]
  refine ⟨by rw [List.length_set, List.length_set]; exact h.1, by rw [x_fst_set hk]; exact h.2.1, fun j y q hy hq => ?_⟩
  rw [x_fst_set hk]
  rw [List.getElem?_set] at hy hq
  split at hy
  · rename_i hj
    subst hj
    rw [if_pos rfl] at hq
    split at hy
    · split at hq
      · cases hy; cases hq; exact hx
      · cases hq
    · cases hy
  · rename_i hj
    rw [if_neg hj] at hq
    exact h.2.2 j y q hy hq
theorem x_world_app {cl : List vw_C} {V : List Int} {sc : Nat × Nat × List Nat} {tys tys' : List (ClassId × FieldType)} {w w' : List xC} {ws ws' : va_W} (h : x_world cl V sc tys w ws) (hl : w'.length = ws'.length) (hx : ∀ (k : Nat) (x : xC) (q : Nat × va_E), w'[k]? = some x → ws'[k]? = some q → x_cell cl ((ws ++ ws').map Prod.fst) V sc (tys ++ tys') x q.2) : x_world cl V sc (tys ++ tys') (w ++ w') (ws ++ ws') := by
  refine ⟨by rw [List.length_append, List.length_append, h.1, hl], by obtain ⟨l, e⟩ := h.2.1; exact ⟨l ++ ws'.map Prod.fst, by rw [List.map_append, e, List.append_assoc]⟩, fun j y q hy hq => ?_⟩
  by_cases hj : j < w.length
  · rw [List.getElem?_append_left hj] at hy
    rw [List.getElem?_append_left (by rw [← h.1]; exact hj)] at hq
    rw [List.map_append]
    exact x_cell_mono (h.2.2 j y q hy hq)
  · rw [List.getElem?_append_right (by omega)] at hy
    rw [List.getElem?_append_right (by rw [← h.1]; omega)] at hq
    rw [← h.1] at hq
    exact hx _ y q hy hq
theorem x_stk_app {ad ad' : List Nat} {V : List Int} {sc : Nat × Nat × List Nat} {st : List xV} {stk : List Value} (h : x_all2 (x_rel ad V sc) st stk) : x_all2 (x_rel (ad ++ ad') V sc) st stk := x_all2_imp (fun _ _ h => x_rel_app h) h
theorem x_lv_app {ad ad' : List Nat} {V : List Int} {sc : Nat × Nat × List Nat} {al : xL} {lv : List (Nat × Value)} (h : x_all2 (fun a q => a.1 = q.1 ∧ x_rel ad V sc a.2 q.2) al lv) : x_all2 (fun a q => a.1 = q.1 ∧ x_rel (ad ++ ad') V sc a.2 q.2) al lv := x_all2_imp (fun _ _ h => ⟨h.1, x_rel_app h.2⟩) h
/-- a reference leads to a cell of the world -/
theorem x_ref {cl : List vw_C} {V : List Int} {sc : Nat × Nat × List Nat} {tys : List (ClassId × FieldType)} {w : List xC} {ws : va_W} {j b : Int} {v : Value} {x : xC} (h : x_world cl V sc tys w ws) (hr : x_rel (ws.map Prod.fst) V sc (1, j, b) v) (hx : x_at w j.toNat = some x) : ∃ a e, ws[j.toNat]? = some (a, e) ∧ v = .ref a ∧ x_cell cl (ws.map Prod.fst) V sc tys x e := by
  rw [x_at_eq] at hx
  obtain ⟨a, h1, h2⟩ := hr
  simp only [List.getElem?_map, Option.map_eq_some_iff] at h1
  obtain ⟨q, hq, rfl⟩ := h1
  exact ⟨q.1, q.2, hq, h2, h.2.2 _ x q hx hq⟩
-- what a row of the kit gives
section XW6
variable (cl : List vw_C) (cc : ByteArray) (own : String) (nL : Nat) (nm : String) (MC MS pc nx : Nat)
def x_Gf (ci k : Nat) : Prop := ∀ {p : Program} {l : Launch} {e : Env} {R : Room} {s : State} {m : MethodId} {args : Array Value} {below : List Frame} {meth : Method} {c : Code}, x_Cx cc own nL nm MC MS p R s m args meth c → ∀ {H : Heap} {locs : List Loc} {cells slots : Nat} {Q : State → Prop} {ls : Array Slot} {rest : List Value} {D : va_G} {tys : List (ClassId × FieldType)} {ws : va_W} {a q0 : Nat} {fs : List Value} {v : Value},
  va_K D cl tys s → va_P D cl ws H → ws[q0]? = some (a, .inr (ci, fs)) → fs[k]? = some v → W p l e R s m args below meth c H locs cells slots Q (F0 m nx ls (v :: rest)) → W p l e R s m args below meth c H locs cells slots Q (F0 m pc ls (.ref a :: rest))
/-- what may stand in a field: 0 an int, 1 a boolean, 2 a reference -/
def x_pk (fk : Nat) (v : Value) : Prop := match fk with
  | 0 => ∃ n, v = .int n
  | 1 => v = .int 0 ∨ v = .int 1
  | _ => v = .null ∨ ∃ a, v = .ref a
def x_Pf (ci k fk : Nat) : Prop := ∀ {p : Program} {l : Launch} {e : Env} {R : Room} {s : State} {m : MethodId} {args : Array Value} {below : List Frame} {meth : Method} {c : Code}, x_Cx cc own nL nm MC MS p R s m args meth c → ∀ {H H0 : Heap} {locs : List Loc} {cells slots : Nat} {Q : State → Prop} {ls : Array Slot} {rest : List Value} {D : va_G} {A : Nat → Prop} {tys : List (ClassId × FieldType)} {ws : va_W} {a q0 : Nat} {fs : List Value} {v : Value},
  va_K D cl tys s → va_P D cl ws H → va_D A ws → va_S A H0 H locs → ws[q0]? = some (a, .inr (ci, fs)) → k < fs.length → x_pk fk v → (∀ (H1 : Heap) (locs1 : List Loc), va_P D cl (ws.set q0 (a, .inr (ci, fs.set k v))) H1 → va_D A (ws.set q0 (a, .inr (ci, fs.set k v))) → va_S A H0 H1 locs1 → W p l e R s m args below meth c H1 locs1 cells slots Q (F0 m nx ls rest)) → W p l e R s m args below meth c H locs cells slots Q (F0 m pc ls (v :: .ref a :: rest))
def x_Nw (ci N : Nat) (fs : List Value) : Prop := ∀ {p : Program} {l : Launch} {e : Env} {R : Room} {s : State} {m : MethodId} {args : Array Value} {below : List Frame} {meth : Method} {c : Code}, x_Cx cc own nL nm MC MS p R s m args meth c → ∀ {H H0 : Heap} {locs : List Loc} {cells slots : Nat} {Q : State → Prop} {ls : Array Slot} {rest : List Value} {D : va_G} {A : Nat → Prop} {tys : List (ClassId × FieldType)} {ws : va_W}, (∀ q : Nat, H0.size ≤ q → A q) →
  va_K D cl tys s → va_P D cl ws H → va_D A ws → va_S A H0 H locs → cells + 1 ≤ MC → slots + N ≤ MS → (∀ (q : Nat) (H1 : Heap), va_P D cl (ws ++ [(q, .inr (ci, fs))]) H1 → va_D A (ws ++ [(q, .inr (ci, fs))]) → va_S A H0 H1 locs → W p l e R s m args below meth c H1 locs (cells + 1) (slots + N) Q (F0 m nx ls (.ref q :: rest))) → W p l e R s m args below meth c H locs cells slots Q (F0 m pc ls rest)
end XW6
def xi_getf (ci k nx : Nat) : xS → Option (List xS) := fun t => match t.2.2.1 with
  | (1, j, _) :: r => match x_at t.2.2.2.1 j.toNat with
    | some (0, c, n, d, o) => bif Nat.beq c ci && Nat.ble (k + 1) n then some [(nx, t.2.1, x_get d o k :: r, t.2.2.2)] else none
    | _ => none
  | _ => none
def x_pkb (tk : xT) (fk : Nat) (x : xV) : Bool := match fk with
  | 0 => Nat.beq (x_ty x) 0
  | 1 => match x_bi tk x with
    | some a => decide (0 ≤ a.1) && decide (a.2 ≤ 1)
    | none => false
  | _ => Nat.beq (x_ty x) 2
theorem x_pkb_ok {ad : List Nat} {V : List Int} {sc : Nat × Nat × List Nat} {tk : xT} {fk : Nat} {x : xV} {v : Value} (ht : x_tk tk V) (hr : x_rel ad V sc x v) (h : x_pkb tk fk x = true) : x_pk fk v := by
  unfold x_pkb at h
  unfold x_pk
  split at h
  · have := x_ty_ok hr
    rw [Nat.eq_of_beq_eq_true h] at this
    exact this
  · split at h
    · rename_i a ha
      obtain ⟨n, rfl, h1, h2⟩ := x_bi_ok ht ha hr
      simp only [Bool.and_eq_true, decide_eq_true_eq] at h
      have h3 : n.toInt = 0 ∨ n.toInt = 1 := by omega
      rcases h3 with h3 | h3
      · exact Or.inl (by rw [show n = 0 from Int32.toInt_inj.mp h3])
      · exact Or.inr (by rw [show n = 1 from Int32.toInt_inj.mp h3])
    · cases h
  · have := x_ty_ok hr
    rw [Nat.eq_of_beq_eq_true h] at this
    exact this
def xi_putf (ci k fk nx : Nat) : xS → Option (List xS) := fun t => match t.2.2.1 with
  | x :: (1, j, _) :: r => match x_at t.2.2.2.1 j.toNat with
    | some (0, c, n, d, o) => bif Nat.beq c ci && (Nat.ble (k + 1) n && x_pkb t.2.2.2.2.1 fk x) then some [(nx, t.2.1, r, x_up t.2.2.2.1 j.toNat (0, c, n, d, x_put d o k x), t.2.2.2.2)] else none
    | _ => none
  | _ => none
def xi_new (nc : xC) (MC MS nx : Nat) : xS → Option (List xS) := fun t =>
  bif Nat.ble (t.2.2.2.2.2.1 + 1) MC && Nat.ble (t.2.2.2.2.2.2 + nc.2.2.1) MS then some [(nx, t.2.1, (1, t.2.2.2.1.length, 0) :: t.2.2.1, t.2.2.2.1 ++ [nc], t.2.2.2.2.1, t.2.2.2.2.2.1 + 1, t.2.2.2.2.2.2 + nc.2.2.1)] else none
section X6
variable {cl : List vw_C} {K : xKx} {cc : ByteArray} {own : String} {nL : Nat} {nm : String} {MC MS pc nx : Nat}
theorem xi_getf_ok {ci k : Nat} (hw : x_Gf cl cc own nL nm MC MS pc nx ci k) : x_Snd cl K cc own nL nm MC MS pc (xi_getf ci k nx) := by
  intro V sc p l e R s m args below meth c D A H0 Q C hA hK t ts hpc hf hg
  unfold xi_getf at hf
  split at hf
  · rename_i j b r hst
    split at hf
    · rename_i c' n d o hcell
      cases hb : (Nat.beq c' ci && Nat.ble (k + 1) n) with
      | false => rw [hb] at hf; cases hf
      | true =>
        rw [hb] at hf
        cases hf
        subst hpc
        simp only [Bool.and_eq_true] at hb
        have e1 := Nat.eq_of_beq_eq_true hb.1
        have e2 := Nat.le_of_ble_eq_true hb.2
        subst e1
        intro ls stk H locs ⟨lv, ws, tys, h1, h2, h3, h4, h5, h6, h7, h8, h9⟩
        rw [hst] at h3
        match stk, h3 with
        | v1 :: rest, h3 =>
          obtain ⟨a, ee, hq, rfl, hc⟩ := x_ref h4 h3.1 hcell
          obtain ⟨fs, rfl, hl, hv⟩ := hc
          obtain ⟨v, hv1, hv2⟩ := hv k e2
          exact hw C h5 h6 hq hv1 (hg _ List.mem_cons_self ls (v :: rest) H locs ⟨lv, ws, tys, h1, h2, ⟨hv2, h3.2⟩, h4, h5, h6, h7, h8, h9⟩)
    · cases hf
  · cases hf
theorem xi_putf_ok {ci k fk : Nat} (hw : x_Pf cl cc own nL nm MC MS pc nx ci k fk) : x_Snd cl K cc own nL nm MC MS pc (xi_putf ci k fk nx) := by
  intro V sc p l e R s m args below meth c D A H0 Q C hA hK t ts hpc hf hg
  unfold xi_putf at hf
  split at hf
  · rename_i x j b r hst
    split at hf
    · rename_i c' n d o hcell
      cases hb : (Nat.beq c' ci && (Nat.ble (k + 1) n && x_pkb t.2.2.2.2.1 fk x)) with
      | false => rw [hb] at hf; cases hf
      | true =>
        rw [hb] at hf
        cases hf
        subst hpc
        simp only [Bool.and_eq_true] at hb
        have e1 := Nat.eq_of_beq_eq_true hb.1
        have e2 := Nat.le_of_ble_eq_true hb.2.1
        subst e1
        intro ls stk H locs ⟨lv, ws, tys, h1, h2, h3, h4, h5, h6, h7, h8, h9⟩
        rw [hst] at h3
        match stk, h3 with
        | v0 :: v1 :: rest, h3 =>
          obtain ⟨a, ee, hq, rfl, hc⟩ := x_ref h4 h3.2.1 hcell
          obtain ⟨fs, rfl, hl, hv⟩ := hc
          simp only at hl hv hq
          refine hw C h5 h6 h7 h8 hq (by rw [hl]; exact e2) (x_pkb_ok h9 h3.1 hb.2.2) (fun H1 locs1 hP hD hS => hg _ List.mem_cons_self ls rest H1 locs1 ⟨lv, _, tys, h1, ?_, ?_, x_world_set h4 hq ?_, h5, hP, hD, hS, h9⟩)
          · rw [x_fst_set hq]; exact h2
          · rw [x_fst_set hq]; exact h3.2.2
          · refine ⟨fs.set k v0, rfl, by rw [List.length_set]; exact hl, fun i hi => ?_⟩
            simp only at hi
            simp only [x_get_put]
            by_cases hik : i = k
            · subst hik
              exact ⟨v0, by rw [List.getElem?_set_self (by rw [hl]; exact hi)], by rw [if_pos rfl]; exact h3.1⟩
            · obtain ⟨v, g1, g2⟩ := hv i hi
              exact ⟨v, by rw [List.getElem?_set_ne (Ne.symm hik)]; exact g1, by rw [if_neg hik]; exact g2⟩
    · cases hf
  · cases hf
theorem xi_new_ok {nc : xC} {ci N : Nat} {fs : List Value} (hn : nc.2.2.1 = N) (hc : ∀ ad V sc tys, x_cell cl ad V sc tys nc (.inr (ci, fs))) (hw : x_Nw cl cc own nL nm MC MS pc nx ci N fs) : x_Snd cl K cc own nL nm MC MS pc (xi_new nc MC MS nx) := by
  intro V sc p l e R s m args below meth c D A H0 Q C hA hK t ts hpc hf hg
  unfold xi_new at hf
  cases hb : (Nat.ble (t.2.2.2.2.2.1 + 1) MC && Nat.ble (t.2.2.2.2.2.2 + nc.2.2.1) MS) with
  | false => rw [hb] at hf; cases hf
  | true =>
    rw [hb] at hf
    cases hf
    subst hpc
    subst hn
    simp only [Bool.and_eq_true] at hb
    intro ls stk H locs ⟨lv, ws, tys, h1, h2, h3, h4, h5, h6, h7, h8, h9⟩
    refine hw C hA h5 h6 h7 h8 (Nat.le_of_ble_eq_true hb.1) (Nat.le_of_ble_eq_true hb.2) (fun q H1 hP hD hS => hg _ List.mem_cons_self ls (.ref q :: stk) H1 locs ⟨lv, _, tys, h1, ?_, ⟨?_, ?_⟩, ?_, h5, hP, hD, hS, h9⟩)
    · rw [List.map_append]; exact x_lv_app h2
    · refine ⟨q, ?_, rfl⟩
      simp only [Int.toNat_natCast]
      rw [h4.1]
      simp
    · rw [List.map_append]; exact x_stk_app h3
    · have h := x_world_app (tys' := []) (w' := [nc]) (ws' := [(q, .inr (ci, fs))]) h4 rfl (fun k x y hx hy => by
        have hk : k < 1 := (List.getElem?_eq_some_iff.mp hx).1
        rw [show k = 0 by omega] at hx hy
        cases hx
        cases hy
        exact hc _ _ _ _)
      rw [List.append_nil] at h
      exact h
end X6
end
end
-- part 07
section
noncomputable section
/-! arrays -/
def x_join (x y : xV) : Option xV := match x.1, y.1 with
  | 0, 0 => some (0, x_min x.2.1 y.2.1, x_max x.2.2 y.2.2)
  | _, _ => none
theorem x_min_l {a b x : Int} (h : a ≤ x) : x_min a b ≤ x := by
  unfold x_min
  cases hc : decide (a ≤ b) with
  | true => exact h
  | false => simp only [decide_eq_false_iff_not] at hc; show b ≤ x; omega
theorem x_min_r {a b x : Int} (h : b ≤ x) : x_min a b ≤ x := by
  unfold x_min
  cases hc : decide (a ≤ b) with
  | true => simp only [decide_eq_true_eq] at hc; show a ≤ x; omega
  | false => exact h
theorem x_max_l {a b x : Int} (h : x ≤ a) : x ≤ x_max a b := by
  unfold x_max
  cases hc : decide (a ≤ b) with
  | true => simp only [decide_eq_true_eq] at hc; show x ≤ b; omega
  | false => exact h
theorem x_max_r {a b x : Int} (h : x ≤ b) : x ≤ x_max a b := by
  unfold x_max
  cases hc : decide (a ≤ b) with
  | true => exact h
  | false => simp only [decide_eq_false_iff_not] at hc; show x ≤ a; omega
theorem x_join_l {ad : List Nat} {V : List Int} {sc : Nat × Nat × List Nat} {x y z : xV} {v : Value} (h : x_join x y = some z) (hr : x_rel ad V sc x v) : x_rel ad V sc z v := by
  obtain ⟨t, a, b⟩ := x
  obtain ⟨t', a', b'⟩ := y
  unfold x_join at h
  split at h
  · rename_i h1 h2
    simp only at h1 h2
    subst h1
    cases h
    obtain ⟨n, rfl, h3, h4⟩ := hr
    exact ⟨n, rfl, x_min_l h3, x_max_l h4⟩
  · cases h
theorem x_join_r {ad : List Nat} {V : List Int} {sc : Nat × Nat × List Nat} {x y z : xV} {v : Value} (h : x_join x y = some z) (hr : x_rel ad V sc y v) : x_rel ad V sc z v := by
  obtain ⟨t, a, b⟩ := x
  obtain ⟨t', a', b'⟩ := y
  unfold x_join at h
  split at h
  · rename_i h1 h2
    simp only at h1 h2
    subst h2
    cases h
    obtain ⟨n, rfl, h3, h4⟩ := hr
    exact ⟨n, rfl, x_min_r h3, x_max_r h4⟩
  · cases h
/-- what stands at the places lo .. lo + n, together -/
def x_rgn (d : xV) (o : xA) (lo : Nat) : Nat → Option xV
  | 0 => some (x_get d o lo)
  | n + 1 => match x_rgn d o lo n with
    | some y => x_join y (x_get d o (lo + n + 1))
    | none => none
theorem x_rgn_ok {ad : List Nat} {V : List Int} {sc : Nat × Nat × List Nat} {d : xV} {o : xA} {lo : Nat} {v : Value} : ∀ {n : Nat} {z : xV}, x_rgn d o lo n = some z → ∀ k, lo ≤ k → k ≤ lo + n → x_rel ad V sc (x_get d o k) v → x_rel ad V sc z v
  | 0, z, h, k, h1, h2, hr => by
    cases h
    rw [show k = lo by omega] at hr
    exact hr
  | n + 1, z, h, k, h1, h2, hr => by
    unfold x_rgn at h
    split at h
    · rename_i y hy
      by_cases hk : k = lo + n + 1
      · subst hk
        exact x_join_r h hr
      · exact x_join_l h (x_rgn_ok hy k h1 (by omega) hr)
    · cases h
def x_hul : xV → xA → Option xV
  | z, [] => some z
  | z, q :: r => match x_join z q.2 with
    | some y => x_hul y r
    | none => none
theorem x_hul_l {ad : List Nat} {V : List Int} {sc : Nat × Nat × List Nat} {v : Value} : ∀ {o : xA} {z y : xV}, x_hul z o = some y → x_rel ad V sc z v → x_rel ad V sc y v
  | [], z, y, h, hr => by cases h; exact hr
  | q :: r, z, y, h, hr => by
    unfold x_hul at h
    split at h
    · rename_i y' hy
      exact x_hul_l h (x_join_l hy hr)
    · cases h
theorem x_hul_ok {ad : List Nat} {V : List Int} {sc : Nat × Nat × List Nat} {v : Value} {d : xV} : ∀ {o : xA} {z y : xV}, x_hul z o = some y → (∀ v, x_rel ad V sc d v → x_rel ad V sc z v) → ∀ k, x_rel ad V sc (x_get d o k) v → x_rel ad V sc y v
  | [], z, y, h, hz, k, hr => by cases h; exact hz v hr
  | q :: r, z, y, h, hz, k, hr => by
    unfold x_hul at h
    split at h
    · rename_i y' hy
      rw [x_get_cons] at hr
      cases hb : Nat.beq q.1 k with
      | true =>
        rw [hb] at hr
        exact x_hul_l h (x_join_r hy hr)
      | false =>
        rw [hb] at hr
        exact x_hul_ok h (fun v h => x_join_l hy (hz v h)) k hr
    · cases h
/-- the kinds of arrays that an instruction is for: false iaload, true baload -/
def x_akd (b : Bool) (kd : Nat) : Bool := match b with
  | false => Nat.beq kd 1
  | true => Nat.beq kd 2 || Nat.beq kd 3
def x_aty (kd : Nat) : FieldType := match kd with
  | 1 => .int
  | 2 => .byte
  | _ => .boolean
theorem x_arr {cl : List vw_C} {ad : List Nat} {V : List Int} {sc : Nat × Nat × List Nat} {tys : List (ClassId × FieldType)} {b : Bool} {kd c n : Nat} {d : xV} {o : xA} {e : va_E} (hk : x_akd b kd = true) (h : x_cell cl ad V sc tys (kd, c, n, d, o) e) :
    ∃ (t0 : Nat) (cA : ClassId) (f : Nat → Int32), tys[t0]? = some (cA, x_aty kd) ∧ e = .inl (cA, n, .inl f) ∧ n < 2147483648 ∧ ∀ k, k < n → x_rel ad V sc (x_get d o k) (.int (f k)) := by
  unfold x_akd at hk
  split at hk
  · have := Nat.eq_of_beq_eq_true hk
    subst this
    exact h
  · simp only [Bool.or_eq_true] at hk
    rcases hk with hk | hk
    · have := Nat.eq_of_beq_eq_true hk
      subst this
      exact h
    · have := Nat.eq_of_beq_eq_true hk
      subst this
      exact h
theorem x_cell_arr {cl : List vw_C} {ad : List Nat} {V : List Int} {sc : Nat × Nat × List Nat} {tys : List (ClassId × FieldType)} {b : Bool} {kd c n : Nat} {d : xV} {o : xA} {e : va_E} (hk : x_akd b kd = true)
    (h : ∃ (t0 : Nat) (cA : ClassId) (f : Nat → Int32), tys[t0]? = some (cA, x_aty kd) ∧ e = .inl (cA, n, .inl f) ∧ n < 2147483648 ∧ ∀ k, k < n → x_rel ad V sc (x_get d o k) (.int (f k))) : x_cell cl ad V sc tys (kd, c, n, d, o) e := by
  unfold x_akd at hk
  split at hk
  · have := Nat.eq_of_beq_eq_true hk
    subst this
    exact h
  · simp only [Bool.or_eq_true] at hk
    rcases hk with hk | hk
    · have := Nat.eq_of_beq_eq_true hk
      subst this
      exact h
    · have := Nat.eq_of_beq_eq_true hk
      subst this
      exact h
theorem x_ix {i : Int32} {n : Nat} {lo hi : Int} (h0 : 0 ≤ lo) (hn : hi < n) (h1 : lo ≤ i.toInt) (h2 : i.toInt ≤ hi) : vp_in i n ∧ i.toNatClampNeg < n ∧ lo.toNat ≤ i.toNatClampNeg ∧ i.toNatClampNeg ≤ lo.toNat + (hi - lo).toNat := by
  have e : i.toNatClampNeg = i.toInt.toNat := rfl
  refine ⟨vp_in_iff.mpr ⟨by omega, by omega⟩, ?_, ?_, ?_⟩ <;> rw [e] <;> omega
section XW7
variable (cl : List vw_C) (cc : ByteArray) (own : String) (nL : Nat) (nm : String) (MC MS pc nx : Nat)
def x_Al (ty : FieldType) : Prop := ∀ {p : Program} {l : Launch} {e : Env} {R : Room} {s : State} {m : MethodId} {args : Array Value} {below : List Frame} {meth : Method} {c : Code}, x_Cx cc own nL nm MC MS p R s m args meth c → ∀ {H : Heap} {locs : List Loc} {cells slots : Nat} {Q : State → Prop} {ls : Array Slot} {rest : List Value} {D : va_G} {tys : List (ClassId × FieldType)} {ws : va_W} {a q0 t0 n : Nat} {cA : ClassId} {f : Nat → Int32} {i : Int32},
  va_K D cl tys s → va_P D cl ws H → ws[q0]? = some (a, .inl (cA, n, .inl f)) → tys[t0]? = some (cA, ty) → vp_in i n → W p l e R s m args below meth c H locs cells slots Q (F0 m nx ls (.int (f i.toNatClampNeg) :: rest)) → W p l e R s m args below meth c H locs cells slots Q (F0 m pc ls (.int i :: .ref a :: rest))
def x_As (ty : FieldType) : Prop := ∀ {p : Program} {l : Launch} {e : Env} {R : Room} {s : State} {m : MethodId} {args : Array Value} {below : List Frame} {meth : Method} {c : Code}, x_Cx cc own nL nm MC MS p R s m args meth c → ∀ {H H0 : Heap} {locs : List Loc} {cells slots : Nat} {Q : State → Prop} {ls : Array Slot} {rest : List Value} {D : va_G} {A : Nat → Prop} {tys : List (ClassId × FieldType)} {ws : va_W} {a q0 t0 n : Nat} {cA : ClassId} {f : Nat → Int32} {i x : Int32},
  va_K D cl tys s → va_P D cl ws H → va_D A ws → va_S A H0 H locs → ws[q0]? = some (a, .inl (cA, n, .inl f)) → tys[t0]? = some (cA, ty) → vp_in i n → (∀ (H1 : Heap) (locs1 : List Loc), va_P D cl (ws.set q0 (a, .inl (cA, n, .inl (upd f i.toNatClampNeg (vp_nar ty x))))) H1 → va_D A (ws.set q0 (a, .inl (cA, n, .inl (upd f i.toNatClampNeg (vp_nar ty x))))) → va_S A H0 H1 locs1 → W p l e R s m args below meth c H1 locs1 cells slots Q (F0 m nx ls rest)) → W p l e R s m args below meth c H locs cells slots Q (F0 m pc ls (.int x :: .int i :: .ref a :: rest))
end XW7
def xi_ald (b : Bool) (nx : Nat) : xS → Option (List xS) := fun t => match t.2.2.1 with
  | i :: (1, j, _) :: r => match x_bi t.2.2.2.2.1 i, x_at t.2.2.2.1 j.toNat with
    | some ib, some (kd, _, n, d, o) => bif x_akd b kd && (decide (0 ≤ ib.1) && decide (ib.2 < n)) then match x_rgn d o ib.1.toNat (ib.2 - ib.1).toNat with
      | some x => some [(nx, t.2.1, x :: r, t.2.2.2)]
      | none => none
      else none
    | _, _ => none
  | _ => none
/-- what of a value an array's cell keeps -/
def x_nrw (kd : Nat) (x : xV) (b : Int × Int) : xV × (Int × Int) := match kd with
  | 1 => (x, b)
  | 2 => bif decide (-128 ≤ b.1) && decide (b.2 ≤ 127) then (x, b) else ((0, -128, 127), (-128, 127))
  | _ => bif decide (0 ≤ b.1) && decide (b.2 ≤ 1) then (x, b) else ((0, 0, 1), (0, 1))
theorem x_nrw_ok {ad : List Nat} {V : List Int} {sc : Nat × Nat × List Nat} {kd : Nat} {x : xV} {b : Int × Int} {n : Int32} (hr : x_rel ad V sc x (.int n)) (h1 : b.1 ≤ n.toInt) (h2 : n.toInt ≤ b.2) : x_rel ad V sc (x_nrw kd x b).1 (.int (vp_nar (x_aty kd) n)) ∧ (x_nrw kd x b).2.1 ≤ (vp_nar (x_aty kd) n).toInt ∧ (vp_nar (x_aty kd) n).toInt ≤ (x_nrw kd x b).2.2 := by
  unfold x_nrw x_aty
  split
  · exact ⟨hr, h1, h2⟩
  · rw [vp_nar_byte]
    have e : (n.toInt8.toInt32).toInt = n.toInt.bmod 256 := by
      rw [Int8.toInt_toInt32, Int32.toInt_toInt8]
    cases hc : (decide (-128 ≤ b.1) && decide (b.2 ≤ 127)) with
    | true =>
      simp only [Bool.and_eq_true, decide_eq_true_eq] at hc
      have e2 : n.toInt8.toInt32 = n := Int32.toInt_inj.mp (by rw [e, Int.bmod_eq_of_le] <;> omega)
      rw [e2]
      exact ⟨hr, h1, h2⟩
    | false =>
      have h3 := Int.le_bmod (x := n.toInt) (m := 256) (by decide)
      have h4 := Int.bmod_lt (x := n.toInt) (m := 256) (by decide)
      rw [← e] at h3 h4
      exact ⟨⟨_, rfl, by show (-128 : Int) ≤ _; omega, by show _ ≤ (127 : Int); omega⟩, by show (-128 : Int) ≤ _; omega, by show _ ≤ (127 : Int); omega⟩
  · have e0 : vp_nar .boolean n = n &&& 1 := rfl
    rw [e0]
    obtain ⟨j, hj, ej⟩ := pk_andE n (m := 1) 1 (by decide)
    have e : (n &&& 1).toInt = j := by rw [ej]; exact nI_toInt (by omega)
    cases hc : (decide (0 ≤ b.1) && decide (b.2 ≤ 1)) with
    | true =>
      simp only [Bool.and_eq_true, decide_eq_true_eq] at hc
      have h3 : n.toInt = 0 ∨ n.toInt = 1 := by omega
      have e2 : n &&& 1 = n := by
        rcases h3 with h3 | h3
        · rw [show n = 0 from Int32.toInt_inj.mp h3]; decide
        · rw [show n = 1 from Int32.toInt_inj.mp h3]; decide
      rw [e2]
      exact ⟨hr, h1, h2⟩
    | false =>
      exact ⟨⟨_, rfl, by show (0 : Int) ≤ _; omega, by show _ ≤ (1 : Int); omega⟩, by show (0 : Int) ≤ _; omega, by show _ ≤ (1 : Int); omega⟩
def xi_ast (b : Bool) (nx : Nat) : xS → Option (List xS) := fun t => match t.2.2.1 with
  | x :: i :: (1, j, _) :: r => match x_bi t.2.2.2.2.1 i, x_bi t.2.2.2.2.1 x, x_at t.2.2.2.1 j.toNat with
    | some ib, some xb, some (kd, c, n, d, o) => bif x_akd b kd && (decide (0 ≤ ib.1) && decide (ib.2 < n)) then
      bif decide (ib.1 = ib.2) then some [(nx, t.2.1, r, x_up t.2.2.2.1 j.toNat (kd, c, n, d, x_put d o ib.1.toNat (x_nrw kd x xb).1), t.2.2.2.2)]
      else match x_join d (0, (x_nrw kd x xb).2) with
        | some z => match x_hul z o with
          | some y => some [(nx, t.2.1, r, x_up t.2.2.2.1 j.toNat (kd, c, n, y, []), t.2.2.2.2)]
          | none => none
        | none => none
      else none
    | _, _, _ => none
  | _ => none
section X7
variable {cl : List vw_C} {K : xKx} {cc : ByteArray} {own : String} {nL : Nat} {nm : String} {MC MS pc nx : Nat}
theorem xi_ald_ok {b : Bool} (hw : ∀ kd, x_akd b kd = true → x_Al cl cc own nL nm MC MS pc nx (x_aty kd)) : x_Snd cl K cc own nL nm MC MS pc (xi_ald b nx) := by
  intro V sc p l e R s m args below meth c D A H0 Q C hA hK t ts hpc hf hg
  unfold xi_ald at hf
  split at hf
  · rename_i i j jb r hst
    split at hf
    · rename_i ib kd cN n d o hib hcell
      cases hb : (x_akd b kd && (decide (0 ≤ ib.1) && decide (ib.2 < n))) with
      | false => rw [hb] at hf; cases hf
      | true =>
        rw [hb] at hf
        simp only [cond_true] at hf
        split at hf
        · rename_i x hx
          cases hf
          subst hpc
          simp only [Bool.and_eq_true, decide_eq_true_eq] at hb
          intro ls stk H locs ⟨lv, ws, tys, h1, h2, h3, h4, h5, h6, h7, h8, h9⟩
          rw [hst] at h3
          match stk, h3 with
          | v1 :: v2 :: rest, h3 =>
            obtain ⟨ni, rfl, i1, i2⟩ := x_bi_ok h9 hib h3.1
            obtain ⟨a, ee, hq, rfl, hc⟩ := x_ref h4 h3.2.1 hcell
            obtain ⟨t0, cA, f, g1, rfl, g2, g3⟩ := x_arr hb.1 hc
            obtain ⟨k1, k2, k3, k4⟩ := x_ix hb.2.1 hb.2.2 i1 i2
            exact hw kd hb.1 C h5 h6 hq g1 k1 (hg _ List.mem_cons_self ls (.int (f ni.toNatClampNeg) :: rest) H locs ⟨lv, ws, tys, h1, h2, ⟨x_rgn_ok hx _ k3 k4 (g3 _ k2), h3.2.2⟩, h4, h5, h6, h7, h8, h9⟩)
        · cases hf
    · cases hf
  · cases hf
theorem xi_ast_ok {b : Bool} (hw : ∀ kd, x_akd b kd = true → x_As cl cc own nL nm MC MS pc nx (x_aty kd)) : x_Snd cl K cc own nL nm MC MS pc (xi_ast b nx) := by
  intro V sc p l e R s m args below meth c D A H0 Q C hA hK t ts hpc hf hg
  unfold xi_ast at hf
  split at hf
  · rename_i x i j jb r hst
    split at hf
    · rename_i ib xb kd cN n d o hib hxb hcell
      cases hb : (x_akd b kd && (decide (0 ≤ ib.1) && decide (ib.2 < n))) with
      | false => rw [hb] at hf; cases hf
      | true =>
        rw [hb] at hf
        simp only [cond_true] at hf
        subst hpc
        simp only [Bool.and_eq_true, decide_eq_true_eq] at hb
        intro ls stk H locs ⟨lv, ws, tys, h1, h2, h3, h4, h5, h6, h7, h8, h9⟩
        rw [hst] at h3
        match stk, h3 with
        | v0 :: v1 :: v2 :: rest, h3 =>
          obtain ⟨nx', rfl, x1, x2⟩ := x_bi_ok h9 hxb h3.1
          obtain ⟨ni, rfl, i1, i2⟩ := x_bi_ok h9 hib h3.2.1
          obtain ⟨a, ee, hq, rfl, hc⟩ := x_ref h4 h3.2.2.1 hcell
          obtain ⟨t0, cA, f, g1, rfl, g2, g3⟩ := x_arr hb.1 hc
          obtain ⟨k1, k2, k3, k4⟩ := x_ix hb.2.1 hb.2.2 i1 i2
          obtain ⟨n1, n2, n3⟩ := x_nrw_ok (kd := kd) h3.1 x1 x2
          cases hd : decide (ib.1 = ib.2) with
          | true =>
            rw [hd] at hf
            cases hf
            simp only [decide_eq_true_eq] at hd
            refine hw kd hb.1 C h5 h6 h7 h8 hq g1 k1 (fun H1 locs1 hP hD hS => hg _ List.mem_cons_self ls rest H1 locs1 ⟨lv, _, tys, h1, ?_, ?_, x_world_set h4 hq (x_cell_arr hb.1 ⟨t0, cA, _, g1, rfl, g2, fun k hk => ?_⟩), h5, hP, hD, hS, h9⟩)
            · rw [x_fst_set hq]; exact h2
            · rw [x_fst_set hq]; exact h3.2.2.2
            · rw [x_get_put]
              have ek : ni.toNatClampNeg = ib.1.toNat := by omega
              rw [ek]
              by_cases hik : k = ib.1.toNat
              · rw [if_pos hik]
                simp only [upd, hik, if_pos]
                exact n1
              · rw [if_neg hik]
                simp only [upd, if_neg hik]
                exact g3 k hk
          | false =>
            rw [hd] at hf
            simp only [cond_false] at hf
            split at hf
            · rename_i z hz
              split at hf
              · rename_i y hy
                cases hf
                refine hw kd hb.1 C h5 h6 h7 h8 hq g1 k1 (fun H1 locs1 hP hD hS => hg _ List.mem_cons_self ls rest H1 locs1 ⟨lv, _, tys, h1, ?_, ?_, x_world_set h4 hq (x_cell_arr hb.1 ⟨t0, cA, _, g1, rfl, g2, fun k hk => ?_⟩), h5, hP, hD, hS, h9⟩)
                · rw [x_fst_set hq]; exact h2
                · rw [x_fst_set hq]; exact h3.2.2.2
                · unfold x_get
                  by_cases hik : k = ni.toNatClampNeg
                  · simp only [upd, if_pos hik]
                    exact x_hul_l hy (x_join_r hz ⟨_, rfl, n2, n3⟩)
                  · simp only [upd, if_neg hik]
                    exact x_hul_ok hy (fun v h => x_join_l hz h) k (g3 k hk)
              · cases hf
            · cases hf
    · cases hf
  · cases hf
end X7
end
end
-- part 08
section
noncomputable section
/-! arrays of references, lengths, new arrays, the stack, switches -/
section XW8
variable (cl : List vw_C) (cc : ByteArray) (own : String) (nL : Nat) (nm : String) (MC MS pc nx : Nat)
def x_Aq : Prop := ∀ {p : Program} {l : Launch} {e : Env} {R : Room} {s : State} {m : MethodId} {args : Array Value} {below : List Frame} {meth : Method} {c : Code}, x_Cx cc own nL nm MC MS p R s m args meth c → ∀ {H : Heap} {locs : List Loc} {cells slots : Nat} {Q : State → Prop} {ls : Array Slot} {rest : List Value} {D : va_G} {tys : List (ClassId × FieldType)} {ws : va_W} {a q0 t0 n : Nat} {cA : ClassId} {f : Nat → Option Nat} {i : Int32} {ty : FieldType}, ty.isReference = true →
  va_K D cl tys s → va_P D cl ws H → ws[q0]? = some (a, .inl (cA, n, .inr (.inr (.inr (.inr f))))) → tys[t0]? = some (cA, ty) → vp_in i n → W p l e R s m args below meth c H locs cells slots Q (F0 m nx ls (va_rf (f i.toNatClampNeg) :: rest)) → W p l e R s m args below meth c H locs cells slots Q (F0 m pc ls (.int i :: .ref a :: rest))
theorem x_aald {p : Program} {l : Launch} {e : Env} {R : Room} {s : State} {m : MethodId} {args : Array Value} {below : List Frame} {meth : Method} {c : Code} {H : Heap} {locs : List Loc} {cells slots : Nat} {Q : State → Prop} {ls : Array Slot} {rest : List Value} {D : va_G} {tys : List (ClassId × FieldType)} {ws : va_W} {a : Nat} {cl : List vw_C} {cc : ByteArray} {pc : Nat} (hexec : p.tables.exec = Jvm.exec) (hb : c.code = cc) (hK : va_K D cl tys s) (hP : va_P D cl ws H) (q0 t0 : Nat) {cA : ClassId} {ty : FieldType} (hty : ty.isReference = true) {n : Nat} {f : Nat → Option Nat} (ha : ws[q0]? = some (a, .inl (cA, n, .inr (.inr (.inr (.inr f)))))) (ht : tys[t0]? = some (cA, ty)) {i : Int32} (hin : vp_in i n) (hdg : decode cc pc = .ok (.aaload, 1))
    (kk : W p l e R s m args below meth c H locs cells slots Q (F0 m (pc + 1) ls (va_rf (f i.toNatClampNeg) :: rest))) : W p l e R s m args below meth c H locs cells slots Q (F0 m pc ls (.int i :: .ref a :: rest)) := by
  have hlt : i.toNatClampNeg < n := Nat.not_le.mp fun q => hin (Or.inr q)
  exact W.aald (v := va_rf (f i.toNatClampNeg)) (ty := ty) hexec hb (hP q0 _ ha) ((hK.2 t0 _ ht).1 n (fun j => va_rf (f j))) hty (fun q => by cases q) (by show ¬ (i < 0 ∨ (arrV _ _ _).slots.size ≤ _); rw [arrV_size]; exact hin) (by show (arrV _ _ _).slots[_]? = _; rw [arrV_read _ _ hlt]) rfl rfl hdg kk
def x_Aa : Prop := ∀ {p : Program} {l : Launch} {e : Env} {R : Room} {s : State} {m : MethodId} {args : Array Value} {below : List Frame} {meth : Method} {c : Code}, x_Cx cc own nL nm MC MS p R s m args meth c → ∀ {H H0 : Heap} {locs : List Loc} {cells slots : Nat} {Q : State → Prop} {ls : Array Slot} {rest : List Value} {D : va_G} {A : Nat → Prop} {tys : List (ClassId × FieldType)} {ws : va_W} {a q0 t0 qk ci n v : Nat} {vs : List Value} {cA : ClassId} {r : vw_C} {f : Nat → Option Nat} {i : Int32},
  va_K D cl tys s → va_P D cl ws H → va_D A ws → va_S A H0 H locs → ws[q0]? = some (a, .inl (cA, n, .inr (.inr (.inr (.inr f))))) → tys[t0]? = some (cA, .object r.1) → ws[qk]? = some (v, .inr (ci, vs)) → cl[ci]? = some r → vp_in i n → (∀ (H1 : Heap) (locs1 : List Loc), va_P D cl (ws.set q0 (a, .inl (cA, n, .inr (.inr (.inr (.inr (va_up f i.toNatClampNeg (some v)))))))) H1 → va_D A (ws.set q0 (a, .inl (cA, n, .inr (.inr (.inr (.inr (va_up f i.toNatClampNeg (some v)))))))) → va_S A H0 H1 locs1 → W p l e R s m args below meth c H1 locs1 cells slots Q (F0 m nx ls rest)) → W p l e R s m args below meth c H locs cells slots Q (F0 m pc ls (.ref v :: .int i :: .ref a :: rest))
def x_Ln : Prop := ∀ {p : Program} {l : Launch} {e : Env} {R : Room} {s : State} {m : MethodId} {args : Array Value} {below : List Frame} {meth : Method} {c : Code}, x_Cx cc own nL nm MC MS p R s m args meth c → ∀ {H : Heap} {locs : List Loc} {cells slots : Nat} {Q : State → Prop} {ls : Array Slot} {rest : List Value} {D : va_G} {tys : List (ClassId × FieldType)} {ws : va_W} {a q0 t0 : Nat} {cA : ClassId} {x : vp_A} {ty : FieldType},
  va_K D cl tys s → va_P D cl ws H → ws[q0]? = some (a, .inl (cA, x)) → tys[t0]? = some (cA, ty) → W p l e R s m args below meth c H locs cells slots Q (F0 m nx ls (.int (Int32.ofNat x.1) :: rest)) → W p l e R s m args below meth c H locs cells slots Q (F0 m pc ls (.ref a :: rest))
/-- a new array of numbers -/
def x_Na (ty : FieldType) : Prop := ∀ {p : Program} {l : Launch} {e : Env} {R : Room} {s : State} {m : MethodId} {args : Array Value} {below : List Frame} {meth : Method} {c : Code}, x_Cx cc own nL nm MC MS p R s m args meth c → ∀ {H H0 : Heap} {locs : List Loc} {cells slots : Nat} {Q : State → Prop} {ls : Array Slot} {rest : List Value} {D : va_G} {A : Nat → Prop} {tys : List (ClassId × FieldType)} {ws : va_W} {n : Int32} {N : Nat}, (∀ q : Nat, H0.size ≤ q → A q) →
  va_K D cl tys s → va_P D cl ws H → va_D A ws → va_S A H0 H locs → ¬ n < 0 → n.toNatClampNeg = N → N ≤ 67108864 → cells + 1 ≤ MC → slots + N ≤ MS → (∀ (q : Nat) (cA : ClassId) (H1 : Heap), va_K D cl (tys ++ [(cA, ty)]) s → va_P D cl (ws ++ [(q, .inl (cA, N, .inl (fun _ => 0)))]) H1 → va_D A (ws ++ [(q, .inl (cA, N, .inl (fun _ => 0)))]) → va_S A H0 H1 locs → W p l e R s m args below meth c H1 locs (cells + 1) (slots + N) Q (F0 m nx ls (.ref q :: rest))) → W p l e R s m args below meth c H locs cells slots Q (F0 m pc ls (.int n :: rest))
/-- a new array of references -/
def x_Nq (C : String) : Prop := ∀ {p : Program} {l : Launch} {e : Env} {R : Room} {s : State} {m : MethodId} {args : Array Value} {below : List Frame} {meth : Method} {c : Code}, x_Cx cc own nL nm MC MS p R s m args meth c → ∀ {H H0 : Heap} {locs : List Loc} {cells slots : Nat} {Q : State → Prop} {ls : Array Slot} {rest : List Value} {D : va_G} {A : Nat → Prop} {tys : List (ClassId × FieldType)} {ws : va_W} {n : Int32} {N : Nat}, (∀ q : Nat, H0.size ≤ q → A q) →
  va_K D cl tys s → va_P D cl ws H → va_D A ws → va_S A H0 H locs → ¬ n < 0 → n.toNatClampNeg = N → N ≤ 67108864 → cells + 1 ≤ MC → slots + N ≤ MS → (∀ (q : Nat) (cA : ClassId) (H1 : Heap), va_K D cl (tys ++ [(cA, .object C)]) s → va_P D cl (ws ++ [(q, .inl (cA, N, .inr (.inr (.inr (.inr (fun _ => none))))))]) H1 → va_D A (ws ++ [(q, .inl (cA, N, .inr (.inr (.inr (.inr (fun _ => none))))))]) → va_S A H0 H1 locs → W p l e R s m args below meth c H1 locs (cells + 1) (slots + N) Q (F0 m nx ls (.ref q :: rest))) → W p l e R s m args below meth c H locs cells slots Q (F0 m pc ls (.int n :: rest))
def x_Sw (x : Int32) (tg : Nat) : Prop := ∀ {p : Program} {l : Launch} {e : Env} {R : Room} {s : State} {m : MethodId} {args : Array Value} {below : List Frame} {meth : Method} {c : Code}, CallFix p m c cc nL s args x_tbl own → ∀ {H : Heap} {locs : List Loc} {cells slots : Nat} {Q : State → Prop} {ls : Array Slot} {rest : List Value},
  W p l e R s m args below meth c H locs cells slots Q (F0 m tg ls rest) → W p l e R s m args below meth c H locs cells slots Q (F0 m pc ls (.int x :: rest))
end XW8
def xi_aald (nx : Nat) : xS → Option (List xS) := fun t => match t.2.2.1 with
  | i :: (1, j, _) :: r => match x_bi t.2.2.2.2.1 i, x_at t.2.2.2.1 j.toNat with
    | some ib, some (kd, _, n, d, o) => bif (Nat.beq kd 5 || Nat.beq kd 6) && (decide (0 ≤ ib.1) && (decide (ib.2 < n) && decide (ib.1 = ib.2))) then some [(nx, t.2.1, x_get d o ib.1.toNat :: r, t.2.2.2)] else none
    | _, _ => none
  | _ => none
def xi_aast (nx : Nat) : xS → Option (List xS) := fun t => match t.2.2.1 with
  | (1, v, vb) :: i :: (1, j, _) :: r => match x_bi t.2.2.2.2.1 i, x_at t.2.2.2.1 j.toNat, x_at t.2.2.2.1 v.toNat with
    | some ib, some (5, c, n, d, o), some (0, ci, _) => bif Nat.beq c ci && (decide (0 ≤ ib.1) && (decide (ib.2 < n) && decide (ib.1 = ib.2))) then some [(nx, t.2.1, r, x_up t.2.2.2.1 j.toNat (5, c, n, d, x_put d o ib.1.toNat (1, v, vb)), t.2.2.2.2)] else none
    | _, _, _ => none
  | _ => none
def xi_alen (nx : Nat) : xS → Option (List xS) := fun t => match t.2.2.1 with
  | (1, j, _) :: r => match x_at t.2.2.2.1 j.toNat with
    | some (kd, _, n, _, _) => bif Nat.beq kd 0 then none else some [(nx, t.2.1, (0, (n : Int), (n : Int)) :: r, t.2.2.2)]
    | none => none
  | _ => none
/-- a new array of kind kd (1, 2, 3: numbers; 5: references to objects of class c) -/
def xi_newa (kd c : Nat) (d : xV) (MC MS nx : Nat) : xS → Option (List xS) := fun t => match t.2.2.1 with
  | n :: r => match x_bi t.2.2.2.2.1 n with
    | some b => bif decide (b.1 = b.2) && (decide (0 ≤ b.1) && (decide (b.1 ≤ 67108864) && (Nat.ble (t.2.2.2.2.2.1 + 1) MC && Nat.ble (t.2.2.2.2.2.2 + b.1.toNat) MS))) then some [(nx, t.2.1, (1, t.2.2.2.1.length, 0) :: r, t.2.2.2.1 ++ [(kd, c, b.1.toNat, d, [])], t.2.2.2.2.1, t.2.2.2.2.2.1 + 1, t.2.2.2.2.2.2 + b.1.toNat)] else none
    | none => none
  | [] => none
/-- the top of the stack: places of the old one in the new one -/
def xi_stk (f : List xV → Option (List xV)) (nx : Nat) : xS → Option (List xS) := fun t => match f t.2.2.1 with
  | some st => some [(nx, t.2.1, st, t.2.2.2)]
  | none => none
def xf_dup (st : List xV) : Option (List xV) := match st with
  | x :: r => bif Nat.beq (x_ty x) 1 then none else some (x :: x :: r)
  | _ => none
def xf_pop (st : List xV) : Option (List xV) := match st with
  | x :: r => bif Nat.beq (x_ty x) 1 then none else some r
  | _ => none
def xf_dup2 (st : List xV) : Option (List xV) := match st with
  | x :: y :: r => bif Nat.beq (x_ty x) 1 || Nat.beq (x_ty y) 1 then none else some (x :: y :: x :: y :: r)
  | _ => none
def xf_dupx1 (st : List xV) : Option (List xV) := match st with
  | x :: y :: r => bif Nat.beq (x_ty x) 1 || Nat.beq (x_ty y) 1 then none else some (x :: y :: x :: r)
  | _ => none
def xf_dupx2 (st : List xV) : Option (List xV) := match st with
  | x :: y :: z :: r => bif Nat.beq (x_ty x) 1 || (Nat.beq (x_ty y) 1 || Nat.beq (x_ty z) 1) then none else some (x :: y :: z :: x :: r)
  | _ => none
/-- one arm of a switch -/
def x_arm (t : xS) (x : xV) (b : Int × Int) (r : List xV) (lo hi : Int) (tg : Nat) : List xS :=
  bif decide (b.1 ≤ hi) && decide (lo ≤ b.2) then [(tg, t.2.1, r, t.2.2.2.1, x_setb t.2.2.2.2.1 x (x_max b.1 lo, x_min b.2 hi), t.2.2.2.2.2)] else []
def x_arms (t : xS) (x : xV) (b : Int × Int) (r : List xV) : List (Int × Int × Nat) → List xS
  | [] => []
  | q :: l => x_arm t x b r q.1 q.2.1 q.2.2 ++ x_arms t x b r l
/-- a switch: ranges of the number and where they lead; together they are all numbers -/
def xi_sw (l : List (Int × Int × Nat)) : xS → Option (List xS) := fun t => match t.2.2.1 with
  | x :: r => match x_bi t.2.2.2.2.1 x with
    | some b => some (x_arms t x b r l)
    | none => none
  | [] => none
theorem x_arms_in {t : xS} {x : xV} {b : Int × Int} {r : List xV} {q : Int × Int × Nat} {n : Int} (h1 : b.1 ≤ n) (h2 : n ≤ b.2) (h3 : q.1 ≤ n) (h4 : n ≤ q.2.1) : ∀ {l : List (Int × Int × Nat)}, q ∈ l → (q.2.2, t.2.1, r, t.2.2.2.1, x_setb t.2.2.2.2.1 x (x_max b.1 q.1, x_min b.2 q.2.1), t.2.2.2.2.2) ∈ x_arms t x b r l
  | [], h => absurd h List.not_mem_nil
  | q' :: l, h => by
    unfold x_arms
    rcases List.mem_cons.mp h with rfl | h
    · refine List.mem_append_left _ ?_
      unfold x_arm
      rw [show (decide (b.1 ≤ q.2.1) && decide (q.1 ≤ b.2)) = true by simp only [Bool.and_eq_true, decide_eq_true_eq]; omega]
      exact List.mem_cons_self
    · exact List.mem_append_right _ (x_arms_in h1 h2 h3 h4 h)
theorem x_vrf {ad : List Nat} {V : List Int} {sc : Nat × Nat × List Nat} {x : xV} {f : Option Nat} (h : x_rel ad V sc x (va_rf f)) : True := trivial
section X8
variable {cl : List vw_C} {K : xKx} {cc : ByteArray} {own : String} {nL : Nat} {nm : String} {MC MS pc nx : Nat}
theorem xi_aald_ok (hw : x_Aq cl cc own nL nm MC MS pc nx) : x_Snd cl K cc own nL nm MC MS pc (xi_aald nx) := by
  intro V sc p l e R s m args below meth c D A H0 Q C hA hK t ts hpc hf hg
  unfold xi_aald at hf
  split at hf
  · rename_i i j jb r hst
    split at hf
    · rename_i ib kd cN n d o hib hcell
      cases hb : ((Nat.beq kd 5 || Nat.beq kd 6) && (decide (0 ≤ ib.1) && (decide (ib.2 < n) && decide (ib.1 = ib.2)))) with
      | false => rw [hb] at hf; cases hf
      | true =>
        rw [hb] at hf
        cases hf
        subst hpc
        simp only [Bool.and_eq_true, decide_eq_true_eq, Bool.or_eq_true] at hb
        intro ls stk H locs ⟨lv, ws, tys, h1, h2, h3, h4, h5, h6, h7, h8, h9⟩
        rw [hst] at h3
        match stk, h3 with
        | v1 :: v2 :: rest, h3 =>
          obtain ⟨ni, rfl, i1, i2⟩ := x_bi_ok h9 hib h3.1
          obtain ⟨a, ee, hq, rfl, hc⟩ := x_ref h4 h3.2.1 hcell
          obtain ⟨k1, k2, k3, k4⟩ := x_ix hb.2.1 hb.2.2.1 i1 i2
          have ek : ni.toNatClampNeg = ib.1.toNat := by omega
          rcases hb.1 with hk | hk
          · have := Nat.eq_of_beq_eq_true hk
            subst this
            obtain ⟨t0, cA, r', f, g0, g1, rfl, g2, g3⟩ := hc
            exact hw C rfl h5 h6 hq g1 k1 (hg _ List.mem_cons_self ls (va_rf (f ni.toNatClampNeg) :: rest) H locs ⟨lv, ws, tys, h1, h2, ⟨by rw [ek]; exact g3 _ (by rw [← ek]; exact k2), h3.2.2⟩, h4, h5, h6, h7, h8, h9⟩)
          · have := Nat.eq_of_beq_eq_true hk
            subst this
            obtain ⟨t0, cA, f, g1, rfl, g2, g3⟩ := hc
            exact hw C rfl h5 h6 hq g1 k1 (hg _ List.mem_cons_self ls (va_rf (f ni.toNatClampNeg) :: rest) H locs ⟨lv, ws, tys, h1, h2, ⟨by rw [ek]; exact g3 _ (by rw [← ek]; exact k2), h3.2.2⟩, h4, h5, h6, h7, h8, h9⟩)
    · cases hf
  · cases hf
theorem xi_aast_ok (hw : x_Aa cl cc own nL nm MC MS pc nx) : x_Snd cl K cc own nL nm MC MS pc (xi_aast nx) := by
  intro V sc p l e R s m args below meth c D A H0 Q C hA hK t ts hpc hf hg
  unfold xi_aast at hf
  split at hf
  · rename_i v vb i j jb r hst
    split at hf
    · rename_i ib cN n d o ci vr hib hcell hcv
      cases hb : (Nat.beq cN ci && (decide (0 ≤ ib.1) && (decide (ib.2 < n) && decide (ib.1 = ib.2)))) with
      | false => rw [hb] at hf; cases hf
      | true =>
        rw [hb] at hf
        cases hf
        subst hpc
        simp only [Bool.and_eq_true, decide_eq_true_eq] at hb
        have ec := Nat.eq_of_beq_eq_true hb.1
        subst ec
        intro ls stk H locs ⟨lv, ws, tys, h1, h2, h3, h4, h5, h6, h7, h8, h9⟩
        rw [hst] at h3
        match stk, h3 with
        | v0 :: v1 :: v2 :: rest, h3 =>
          obtain ⟨ni, rfl, i1, i2⟩ := x_bi_ok h9 hib h3.2.1
          obtain ⟨a, ee, hq, rfl, hc⟩ := x_ref h4 h3.2.2.1 hcell
          have hr0 := h3.1
          obtain ⟨av, ev, hqv, rfl, hcv'⟩ := x_ref h4 h3.1 hcv
          obtain ⟨t0, cA, r', f, g0, g1, rfl, g2, g3⟩ := hc
          obtain ⟨fs, rfl, -, -⟩ := hcv'
          obtain ⟨k1, k2, k3, k4⟩ := x_ix hb.2.1 hb.2.2.1 i1 i2
          have ek : ni.toNatClampNeg = ib.1.toNat := by omega
          refine hw C h5 h6 h7 h8 hq g1 hqv g0 k1 (fun H1 locs1 hP hD hS => hg _ List.mem_cons_self ls rest H1 locs1 ⟨lv, _, tys, h1, ?_, ?_, x_world_set h4 hq ⟨t0, cA, r', _, g0, g1, rfl, g2, fun k hk => ?_⟩, h5, hP, hD, hS, h9⟩)
          · rw [x_fst_set hq]; exact h2
          · rw [x_fst_set hq]; exact h3.2.2.2
          · simp only [x_get_put]
            rw [ek]
            by_cases hik : k = ib.1.toNat
            · rw [if_pos hik]
              simp only [va_up, if_pos hik]
              exact hr0
            · rw [if_neg hik]
              simp only [va_up, if_neg hik]
              exact g3 k hk
    · cases hf
  · cases hf
theorem xi_alen_ok (hw : x_Ln cl cc own nL nm MC MS pc nx) : x_Snd cl K cc own nL nm MC MS pc (xi_alen nx) := by
  intro V sc p l e R s m args below meth c D A H0 Q C hA hK t ts hpc hf hg
  unfold xi_alen at hf
  split at hf
  · rename_i j jb r hst
    split at hf
    · rename_i kd cN n d o hcell
      cases hb : Nat.beq kd 0 with
      | true => rw [hb] at hf; cases hf
      | false =>
        rw [hb] at hf
        cases hf
        subst hpc
        intro ls stk H locs ⟨lv, ws, tys, h1, h2, h3, h4, h5, h6, h7, h8, h9⟩
        rw [hst] at h3
        match stk, h3 with
        | v2 :: rest, h3 =>
          obtain ⟨a, ee, hq, rfl, hc⟩ := x_ref h4 h3.1 hcell
          have key : ∃ (t0 : Nat) (cA : ClassId) (x : vp_A) (ty : FieldType), tys[t0]? = some (cA, ty) ∧ ee = .inl (cA, x) ∧ x.1 = n ∧ n < 2147483648 := by
            unfold x_cell at hc
            split at hc
            · rename_i h0; simp only at h0; subst h0; cases hb
            · obtain ⟨t0, cA, f, g1, g2, g3, -⟩ := hc
              exact ⟨t0, cA, _, _, g1, g2, rfl, g3⟩
            · obtain ⟨t0, cA, f, g1, g2, g3, -⟩ := hc
              exact ⟨t0, cA, _, _, g1, g2, rfl, g3⟩
            · obtain ⟨t0, cA, f, g1, g2, g3, -⟩ := hc
              exact ⟨t0, cA, _, _, g1, g2, rfl, g3⟩
            · obtain ⟨t0, cA, r', f, -, g1, g2, g3, -⟩ := hc
              exact ⟨t0, cA, _, _, g1, g2, rfl, g3⟩
            · obtain ⟨t0, cA, f, g1, g2, g3, -⟩ := hc
              exact ⟨t0, cA, _, _, g1, g2, rfl, g3⟩
            · exact hc.elim
          obtain ⟨t0, cA, x, ty, g1, rfl, rfl, g3⟩ := key
          have e := nI_toInt g3
          exact hw C h5 h6 hq g1 (hg _ List.mem_cons_self ls (.int (Int32.ofNat x.1) :: rest) H locs ⟨lv, ws, tys, h1, h2, ⟨⟨_, rfl, by show (x.1 : Int) ≤ (nI x.1).toInt; omega, by show (nI x.1).toInt ≤ (x.1 : Int); omega⟩, h3.2⟩, h4, h5, h6, h7, h8, h9⟩)
    · cases hf
  · cases hf
theorem x_const {b : Int × Int} {n : Int32} (e : b.1 = b.2) (h0 : 0 ≤ b.1) (h1 : b.1 ≤ n.toInt) (h2 : n.toInt ≤ b.2) : ¬ n < 0 ∧ n.toNatClampNeg = b.1.toNat := by
  have e1 : n.toInt = b.1 := by omega
  refine ⟨fun h => ?_, by show n.toInt.toNat = _; rw [e1]⟩
  have := Int32.lt_iff_toInt_lt.mp h
  rw [Int32.toInt_zero] at this
  omega
theorem xi_newa_ok {kd : Nat} {b : Bool} (hkd : x_akd b kd = true) (hw : x_Na cl cc own nL nm MC MS pc nx (x_aty kd)) : x_Snd cl K cc own nL nm MC MS pc (xi_newa kd 0 (0, 0, 0) MC MS nx) := by
  intro V sc p l e R s m args below meth c D A H0 Q C hA hK t ts hpc hf hg
  unfold xi_newa at hf
  split at hf
  · rename_i n r hst
    split at hf
    · rename_i bb hbb
      cases hb : (decide (bb.1 = bb.2) && (decide (0 ≤ bb.1) && (decide (bb.1 ≤ 67108864) && (Nat.ble (t.2.2.2.2.2.1 + 1) MC && Nat.ble (t.2.2.2.2.2.2 + bb.1.toNat) MS)))) with
      | false => rw [hb] at hf; cases hf
      | true =>
        rw [hb] at hf
        cases hf
        subst hpc
        simp only [Bool.and_eq_true, decide_eq_true_eq] at hb
        obtain ⟨b1, b2, b3, b4, b5⟩ := hb
        intro ls stk H locs ⟨lv, ws, tys, h1, h2, h3, h4, h5, h6, h7, h8, h9⟩
        rw [hst] at h3
        match stk, h3 with
        | v2 :: rest, h3 =>
          obtain ⟨ni, rfl, i1, i2⟩ := x_bi_ok h9 hbb h3.1
          obtain ⟨c1, c2⟩ := x_const b1 b2 i1 i2
          refine hw C hA h5 h6 h7 h8 c1 c2 (by omega) (Nat.le_of_ble_eq_true b4) (Nat.le_of_ble_eq_true b5) (fun q cA H1 hK1 hP hD hS => hg _ List.mem_cons_self ls (.ref q :: rest) H1 locs ⟨lv, _, _, h1, ?_, ⟨?_, ?_⟩, ?_, hK1, hP, hD, hS, h9⟩)
          · rw [List.map_append]; exact x_lv_app h2
          · refine ⟨q, ?_, rfl⟩
            simp only [Int.toNat_natCast]
            rw [h4.1]
            simp
          · rw [List.map_append]; exact x_stk_app h3.2
          · refine x_world_app h4 rfl (fun k x y hx hy => ?_)
            have hk : k < 1 := (List.getElem?_eq_some_iff.mp hx).1
            rw [show k = 0 by omega] at hx hy
            cases hx
            cases hy
            exact x_cell_arr hkd ⟨tys.length, cA, _, by simp, rfl, by omega, fun k hk => ⟨0, rfl, by show (0 : Int) ≤ Int32.toInt 0; decide, by show Int32.toInt 0 ≤ (0 : Int); decide⟩⟩
    · cases hf
  · cases hf
theorem xi_newq_ok {ci : Nat} {r : vw_C} (hr : cl[ci]? = some r) (hw : x_Nq cl cc own nL nm MC MS pc nx r.1) : x_Snd cl K cc own nL nm MC MS pc (xi_newa 5 ci (2, 0, 0) MC MS nx) := by
  intro V sc p l e R s m args below meth c D A H0 Q C hA hK t ts hpc hf hg
  unfold xi_newa at hf
  split at hf
  · rename_i n r' hst
    split at hf
    · rename_i bb hbb
      cases hb : (decide (bb.1 = bb.2) && (decide (0 ≤ bb.1) && (decide (bb.1 ≤ 67108864) && (Nat.ble (t.2.2.2.2.2.1 + 1) MC && Nat.ble (t.2.2.2.2.2.2 + bb.1.toNat) MS)))) with
      | false => rw [hb] at hf; cases hf
      | true =>
        rw [hb] at hf
        cases hf
        subst hpc
        simp only [Bool.and_eq_true, decide_eq_true_eq] at hb
        obtain ⟨b1, b2, b3, b4, b5⟩ := hb
        intro ls stk H locs ⟨lv, ws, tys, h1, h2, h3, h4, h5, h6, h7, h8, h9⟩
        rw [hst] at h3
        match stk, h3 with
        | v2 :: rest, h3 =>
          obtain ⟨ni, rfl, i1, i2⟩ := x_bi_ok h9 hbb h3.1
          obtain ⟨c1, c2⟩ := x_const b1 b2 i1 i2
          refine hw C hA h5 h6 h7 h8 c1 c2 (by omega) (Nat.le_of_ble_eq_true b4) (Nat.le_of_ble_eq_true b5) (fun q cA H1 hK1 hP hD hS => hg _ List.mem_cons_self ls (.ref q :: rest) H1 locs ⟨lv, _, _, h1, ?_, ⟨?_, ?_⟩, ?_, hK1, hP, hD, hS, h9⟩)
          · rw [List.map_append]; exact x_lv_app h2
          · refine ⟨q, ?_, rfl⟩
            simp only [Int.toNat_natCast]
            rw [h4.1]
            simp
          · rw [List.map_append]; exact x_stk_app h3.2
          · refine x_world_app h4 rfl (fun k x y hx hy => ?_)
            have hk : k < 1 := (List.getElem?_eq_some_iff.mp hx).1
            rw [show k = 0 by omega] at hx hy
            cases hx
            cases hy
            exact ⟨tys.length, cA, r, _, hr, by simp, rfl, by show bb.1.toNat < 2147483648; omega, fun k hk => rfl⟩
    · cases hf
  · cases hf
/-- what the stack's change does to its values -/
theorem xi_stk_ok {f : List xV → Option (List xV)} (hw : ∀ (ad : List Nat) (V : List Int) (sc : Nat × Nat × List Nat) (st st' : List xV) (stk : List Value), f st = some st' → x_all2 (x_rel ad V sc) st stk → ∃ (i o rest : List Value), stk = i ++ rest ∧ x_Stk cc own nL pc nx i o ∧ x_all2 (x_rel ad V sc) st' (o ++ rest)) : x_Snd cl K cc own nL nm MC MS pc (xi_stk f nx) := by
  intro V sc p l e R s m args below meth c D A H0 Q C hA hK t ts hpc hf hg
  unfold xi_stk at hf
  split at hf
  · rename_i st' hst
    cases hf
    subst hpc
    intro ls stk H locs ⟨lv, ws, tys, h1, h2, h3, h4⟩
    obtain ⟨i, o, rest, rfl, hs, hr⟩ := hw _ _ _ _ _ _ hst h3
    exact hs C.1 (hg _ List.mem_cons_self ls (o ++ rest) H locs ⟨lv, ws, tys, h1, h2, hr, h4⟩)
  · cases hf
theorem x_one {ad : List Nat} {V : List Int} {sc : Nat × Nat × List Nat} {x : xV} {v : Value} (h : x_rel ad V sc x v) (hb : Nat.beq (x_ty x) 1 = false) : v.category = 1 := by
  rw [x_kd_cat (x_ty_ok h), if_neg]
  intro e
  rw [e] at hb
  cases hb
theorem xf_dup_ok (hw : ∀ v : Value, v.category = 1 → x_Stk cc own nL pc nx [v] [v, v]) : x_Snd cl K cc own nL nm MC MS pc (xi_stk xf_dup nx) := xi_stk_ok fun ad V sc st st' stk h hr => by
  unfold xf_dup at h
  split at h
  · rename_i x r
    cases hb : Nat.beq (x_ty x) 1 with
    | true => rw [hb] at h; cases h
    | false =>
      rw [hb] at h
      cases h
      match stk, hr with
      | v :: rest, hr => exact ⟨[v], [v, v], rest, rfl, hw v (x_one hr.1 hb), hr.1, hr.1, hr.2⟩
  · cases h
theorem xf_pop_ok (hw : ∀ v : Value, v.category = 1 → x_Stk cc own nL pc nx [v] []) : x_Snd cl K cc own nL nm MC MS pc (xi_stk xf_pop nx) := xi_stk_ok fun ad V sc st st' stk h hr => by
  unfold xf_pop at h
  split at h
  · rename_i x r
    cases hb : Nat.beq (x_ty x) 1 with
    | true => rw [hb] at h; cases h
    | false =>
      rw [hb] at h
      cases h
      match stk, hr with
      | v :: rest, hr => exact ⟨[v], [], rest, rfl, hw v (x_one hr.1 hb), hr.2⟩
  · cases h
theorem xf_dup2_ok (hw : ∀ v u : Value, v.category = 1 → u.category = 1 → x_Stk cc own nL pc nx [v, u] [v, u, v, u]) : x_Snd cl K cc own nL nm MC MS pc (xi_stk xf_dup2 nx) := xi_stk_ok fun ad V sc st st' stk h hr => by
  unfold xf_dup2 at h
  split at h
  · rename_i x y r
    cases hb : (Nat.beq (x_ty x) 1 || Nat.beq (x_ty y) 1) with
    | true => rw [hb] at h; cases h
    | false =>
      rw [hb] at h
      cases h
      simp only [Bool.or_eq_false_iff] at hb
      match stk, hr with
      | v :: u :: rest, hr => exact ⟨[v, u], [v, u, v, u], rest, rfl, hw v u (x_one hr.1 hb.1) (x_one hr.2.1 hb.2), hr.1, hr.2.1, hr.1, hr.2.1, hr.2.2⟩
  · cases h
theorem xf_dupx1_ok (hw : ∀ v u : Value, v.category = 1 → u.category = 1 → x_Stk cc own nL pc nx [v, u] [v, u, v]) : x_Snd cl K cc own nL nm MC MS pc (xi_stk xf_dupx1 nx) := xi_stk_ok fun ad V sc st st' stk h hr => by
  unfold xf_dupx1 at h
  split at h
  · rename_i x y r
    cases hb : (Nat.beq (x_ty x) 1 || Nat.beq (x_ty y) 1) with
    | true => rw [hb] at h; cases h
    | false =>
      rw [hb] at h
      cases h
      simp only [Bool.or_eq_false_iff] at hb
      match stk, hr with
      | v :: u :: rest, hr => exact ⟨[v, u], [v, u, v], rest, rfl, hw v u (x_one hr.1 hb.1) (x_one hr.2.1 hb.2), hr.1, hr.2.1, hr.1, hr.2.2⟩
  · cases h
theorem xf_dupx2_ok (hw : ∀ v u w : Value, v.category = 1 → u.category = 1 → w.category = 1 → x_Stk cc own nL pc nx [v, u, w] [v, u, w, v]) : x_Snd cl K cc own nL nm MC MS pc (xi_stk xf_dupx2 nx) := xi_stk_ok fun ad V sc st st' stk h hr => by
  unfold xf_dupx2 at h
  split at h
  · rename_i x y z r
    cases hb : (Nat.beq (x_ty x) 1 || (Nat.beq (x_ty y) 1 || Nat.beq (x_ty z) 1)) with
    | true => rw [hb] at h; cases h
    | false =>
      rw [hb] at h
      cases h
      simp only [Bool.or_eq_false_iff] at hb
      match stk, hr with
      | v :: u :: w :: rest, hr => exact ⟨[v, u, w], [v, u, w, v], rest, rfl, hw v u w (x_one hr.1 hb.1) (x_one hr.2.1 hb.2.1) (x_one hr.2.2.1 hb.2.2), hr.1, hr.2.1, hr.2.2.1, hr.1, hr.2.2.2⟩
  · cases h
theorem xi_sw_ok {l : List (Int × Int × Nat)} (hw : ∀ x : Int32, ∃ q ∈ l, q.1 ≤ x.toInt ∧ x.toInt ≤ q.2.1 ∧ x_Sw cc own nL pc x q.2.2) : x_Snd cl K cc own nL nm MC MS pc (xi_sw l) := by
  intro V sc p ll e R s m args below meth c D A H0 Q C hA hK t ts hpc hf hg
  unfold xi_sw at hf
  split at hf
  · rename_i x r hst
    split at hf
    · rename_i b hb
      cases hf
      subst hpc
      intro ls stk H locs ⟨lv, ws, tys, h1, h2, h3, h4, h5, h6, h7, h8, h9⟩
      rw [hst] at h3
      match stk, h3 with
      | v2 :: rest, h3 =>
        obtain ⟨n, rfl, x1, x2⟩ := x_bi_ok h9 hb h3.1
        obtain ⟨q, hq, q1, q2, hs⟩ := hw n
        exact hs C.1 (hg _ (x_arms_in x1 x2 q1 q2 hq) ls rest H locs ⟨lv, ws, tys, h1, h2, h3.2, h4, h5, h6, h7, h8, x_setb_i h9 h3.1 (x_max_le x1 q1) (x_le_min x2 q2)⟩)
    · cases hf
  · cases hf
end X8
end
end
-- part 08b
section
noncomputable section
/-! one picture is weaker than another: what may be forgotten, and a token that counts -/
/-- V and U say the same but for the tokens a .. a + 3 -/
def x_off (a : Nat) (V U : List Int) : Prop := V.length = U.length ∧ ∀ j, ¬ (a ≤ j ∧ j ≤ a + 3) → V[j]? = U[j]?
theorem x_off.refl {a : Nat} {V : List Int} : x_off a V V := ⟨rfl, fun _ _ => rfl⟩
theorem x_off.symm {a : Nat} {V U : List Int} (h : x_off a V U) : x_off a U V := ⟨h.1.symm, fun j h1 => (h.2 j h1).symm⟩
theorem x_off.trans {a : Nat} {V U T : List Int} (h : x_off a V U) (g : x_off a U T) : x_off a V T := ⟨h.1.trans g.1, fun j h1 => (h.2 j h1).trans (g.2 j h1)⟩
/-- the token a becomes k, the token a + 2 becomes i; each with its next -/
def x_vup (V : List Int) (a : Nat) (k i : Int) : List Int := (((V.set a k).set (a + 1) (k + 1)).set (a + 2) i).set (a + 3) (i + 1)
theorem x_vup_off (V : List Int) (a : Nat) (k i : Int) : x_off a V (x_vup V a k i) := by
  refine ⟨by simp [x_vup], fun j h1 => ?_⟩
  unfold x_vup
  rw [List.getElem?_set_ne (by omega), List.getElem?_set_ne (by omega), List.getElem?_set_ne (by omega), List.getElem?_set_ne (by omega)]
theorem x_vup_a {V : List Int} {a : Nat} {k i : Int} (h : a + 3 < V.length) : (x_vup V a k i)[a]? = some k := by
  unfold x_vup
  rw [List.getElem?_set_ne (by omega), List.getElem?_set_ne (by omega), List.getElem?_set_ne (by omega), List.getElem?_set_self (by omega)]
theorem x_vup_s {V : List Int} {a : Nat} {k i : Int} (h : a + 3 < V.length) : (x_vup V a k i)[a + 1]? = some (k + 1) := by
  unfold x_vup
  rw [List.getElem?_set_ne (by omega), List.getElem?_set_ne (by omega), List.getElem?_set_self (by simp; omega)]
theorem x_vup_b {V : List Int} {a : Nat} {k i : Int} (h : a + 3 < V.length) : (x_vup V a k i)[a + 2]? = some i := by
  unfold x_vup
  rw [List.getElem?_set_ne (by omega), List.getElem?_set_self (by simp; omega)]
theorem x_vup_t {V : List Int} {a : Nat} {k i : Int} (h : a + 3 < V.length) : (x_vup V a k i)[a + 3]? = some (i + 1) := by
  unfold x_vup
  rw [List.getElem?_set_self (by simp; omega)]
/-- not one of the tokens a .. a + 3 -/
def x_nt (a : Nat) (x : xV) : Bool := match x.1 with
  | 3 => !(Nat.ble a x.2.1.toNat && Nat.ble x.2.1.toNat (a + 3))
  | 6 => !(Nat.ble a x.2.1.toNat && Nat.ble x.2.1.toNat (a + 3))
  | _ => true
theorem x_nbn {a b : Nat} (h : (!(Nat.ble a b && Nat.ble b (a + 3))) = true) : ¬ (a ≤ b ∧ b ≤ a + 3) := fun e => by
  rw [Nat.ble_eq_true_of_le e.1, Nat.ble_eq_true_of_le e.2] at h
  cases h
theorem x_nt_ok {a : Nat} {ad : List Nat} {V U : List Int} {sc : Nat × Nat × List Nat} {x : xV} {v : Value} (ho : x_off a V U) (h : x_nt a x = true) (hr : x_rel ad V sc x v) : x_rel ad U sc x v := by
  obtain ⟨t, i, b⟩ := x
  unfold x_rel at hr ⊢
  unfold x_nt at h
  split at hr <;> try exact hr
  · rename_i h0
    simp only at h0
    subst h0
    obtain ⟨n, e1, e2⟩ := hr
    exact ⟨n, e1, by rw [← ho.2 _ (x_nbn h)]; exact e2⟩
  · rename_i h0
    simp only at h0
    subst h0
    obtain ⟨n, e1, e2⟩ := hr
    exact ⟨n, e1, by rw [← ho.2 _ (x_nbn h)]; exact e2⟩
/-- what x says (with the tokens' bounds tk) gives what y says -/
def x_leV (a : Nat) (tk : xT) (x y : xV) : Bool := match y.1 with
  | 0 => match x_bi tk x with
    | some b => decide (y.2.1 ≤ b.1) && decide (b.2 ≤ y.2.2)
    | none => false
  | 4 => match x_bl tk x with
    | some b => decide (y.2.1 ≤ b.1) && decide (b.2 ≤ y.2.2)
    | none => false
  | _ => x_eqv x y && x_nt a y
theorem x_leV_ok {a : Nat} {ad : List Nat} {V U : List Int} {sc : Nat × Nat × List Nat} {tk : xT} {x y : xV} {v : Value} (ho : x_off a V U) (ht : x_tk tk V) (h : x_leV a tk x y = true) (hr : x_rel ad V sc x v) : x_rel ad U sc y v := by
  obtain ⟨t, i, b⟩ := y
  unfold x_leV at h
  split at h
  · rename_i h0
    simp only at h0
    subst h0
    split at h
    · rename_i q hq
      simp only [Bool.and_eq_true, decide_eq_true_eq] at h
      obtain ⟨n, rfl, h1, h2⟩ := x_bi_ok ht hq hr
      exact ⟨n, rfl, Int.le_trans h.1 h1, Int.le_trans h2 h.2⟩
    · cases h
  · rename_i h0
    simp only at h0
    subst h0
    split at h
    · rename_i q hq
      simp only [Bool.and_eq_true, decide_eq_true_eq] at h
      obtain ⟨n, rfl, h1, h2⟩ := x_bl_ok ht hq hr
      exact ⟨n, rfl, Int.le_trans h.1 h1, Int.le_trans h2 h.2⟩
    · cases h
  · simp only [Bool.and_eq_true] at h
    have e := x_eqv_ok h.1
    subst e
    exact x_nt_ok ho h.2 hr
def x_leO (a : Nat) (tk : xT) (d' : xV) : xA → xA → Bool
  | [], [] => true
  | p :: r, q :: r' => Nat.beq p.1 q.1 && (x_leV a tk p.2 q.2 && x_leO a tk d' r r')
  | p :: r, [] => x_leV a tk p.2 d' && x_leO a tk d' r []
  | [], _ :: _ => false
theorem x_leO_ok {a : Nat} {ad : List Nat} {V U : List Int} {sc : Nat × Nat × List Nat} {tk : xT} {d d' : xV} (ho : x_off a V U) (ht : x_tk tk V) (hd : x_leV a tk d d' = true) : ∀ {o o' : xA}, x_leO a tk d' o o' = true → ∀ (k : Nat) (v : Value), x_rel ad V sc (x_get d o k) v → x_rel ad U sc (x_get d' o' k) v
  | [], [], _, k, v, hr => x_leV_ok ho ht hd hr
  | p :: r, q :: r', h, k, v, hr => by
    unfold x_leO at h
    simp only [Bool.and_eq_true] at h
    have e := Nat.eq_of_beq_eq_true h.1
    rw [x_get_cons] at hr ⊢
    rw [← e]
    cases hb : Nat.beq p.1 k with
    | true => rw [hb] at hr; exact x_leV_ok ho ht h.2.1 hr
    | false => rw [hb] at hr; exact x_leO_ok ho ht hd h.2.2 k v hr
  | p :: r, [], h, k, v, hr => by
    unfold x_leO at h
    simp only [Bool.and_eq_true] at h
    rw [x_get_cons] at hr
    cases hb : Nat.beq p.1 k with
    | true => rw [hb] at hr; exact x_leV_ok ho ht h.1 hr
    | false => rw [hb] at hr; exact x_leO_ok (o' := []) ho ht hd h.2 k v hr
  | [], _ :: _, h, _, _, _ => by unfold x_leO at h; cases h
def x_leC (a : Nat) (tk : xT) (x y : xC) : Bool := Nat.beq x.1 y.1 && (Nat.beq x.2.1 y.2.1 && (Nat.beq x.2.2.1 y.2.2.1 && (x_leV a tk x.2.2.2.1 y.2.2.2.1 && x_leO a tk y.2.2.2.1 x.2.2.2.2 y.2.2.2.2)))
theorem x_leC_ok {cl : List vw_C} {tys : List (ClassId × FieldType)} {a : Nat} {ad : List Nat} {V U : List Int} {sc : Nat × Nat × List Nat} {tk : xT} {x y : xC} {e : va_E} (ho : x_off a V U) (ht : x_tk tk V) (h : x_leC a tk x y = true) (hc : x_cell cl ad V sc tys x e) : x_cell cl ad U sc tys y e := by
  obtain ⟨t, n, ln, d, o⟩ := x
  obtain ⟨t', n', ln', d', o'⟩ := y
  unfold x_leC at h
  simp only [Bool.and_eq_true] at h
  obtain ⟨h1, h2, h3, h4, h5⟩ := h
  have e1 := Nat.eq_of_beq_eq_true h1
  have e2 := Nat.eq_of_beq_eq_true h2
  have e3 := Nat.eq_of_beq_eq_true h3
  subst e1
  subst e2
  subst e3
  have key := fun (k : Nat) (v : Value) => x_leO_ok (ad := ad) (sc := sc) ho ht h4 h5 k v
  unfold x_cell at hc ⊢
  split at hc
  · rename_i h0; simp only at h0; subst h0
    obtain ⟨fs, g1, g2, g3⟩ := hc
    exact ⟨fs, g1, g2, fun k hk => by obtain ⟨v, k1, k2⟩ := g3 k hk; exact ⟨v, k1, key k v k2⟩⟩
  · rename_i h0; simp only at h0; subst h0
    obtain ⟨t0, cA, f, g1, g2, g3, g4⟩ := hc
    exact ⟨t0, cA, f, g1, g2, g3, fun k hk => key k _ (g4 k hk)⟩
  · rename_i h0; simp only at h0; subst h0
    obtain ⟨t0, cA, f, g1, g2, g3, g4⟩ := hc
    exact ⟨t0, cA, f, g1, g2, g3, fun k hk => key k _ (g4 k hk)⟩
  · rename_i h0; simp only at h0; subst h0
    obtain ⟨t0, cA, f, g1, g2, g3, g4⟩ := hc
    exact ⟨t0, cA, f, g1, g2, g3, fun k hk => key k _ (g4 k hk)⟩
  · rename_i h0; simp only at h0; subst h0
    obtain ⟨t0, cA, r, f, g0, g1, g2, g3, g4⟩ := hc
    exact ⟨t0, cA, r, f, g0, g1, g2, g3, fun k hk => key k _ (g4 k hk)⟩
  · rename_i h0; simp only at h0; subst h0
    obtain ⟨t0, cA, f, g1, g2, g3, g4⟩ := hc
    exact ⟨t0, cA, f, g1, g2, g3, fun k hk => key k _ (g4 k hk)⟩
  · exact hc.elim
def x_leW (a : Nat) (tk : xT) : List xC → List xC → Bool
  | [], [] => true
  | x :: r, y :: r' => x_leC a tk x y && x_leW a tk r r'
  | _, _ => false
theorem x_leW_ok {a : Nat} {tk : xT} : ∀ {w w' : List xC}, x_leW a tk w w' = true → w.length = w'.length ∧ ∀ (k : Nat) (y : xC), w'[k]? = some y → ∃ x, w[k]? = some x ∧ x_leC a tk x y = true
  | [], [], _ => ⟨rfl, fun k y h => by simp at h⟩
  | x :: r, y :: r', h => by
    unfold x_leW at h
    simp only [Bool.and_eq_true] at h
    obtain ⟨h1, h2⟩ := x_leW_ok h.2
    refine ⟨by simp [h1], fun k z hz => ?_⟩
    cases k with
    | zero => cases hz; exact ⟨x, rfl, h.1⟩
    | succ k => simp only [List.getElem?_cons_succ] at hz ⊢; exact h2 k z hz
  | [], _ :: _, h => by unfold x_leW at h; cases h
  | _ :: _, [], h => by unfold x_leW at h; cases h
def x_leS (a : Nat) (tk : xT) : List xV → List xV → Bool
  | [], [] => true
  | x :: r, y :: r' => x_leV a tk x y && x_leS a tk r r'
  | _, _ => false
theorem x_leS_ok {a : Nat} {ad : List Nat} {V U : List Int} {sc : Nat × Nat × List Nat} {tk : xT} (ho : x_off a V U) (ht : x_tk tk V) : ∀ {st st' : List xV} {vs : List Value}, x_leS a tk st st' = true → x_all2 (x_rel ad V sc) st vs → x_all2 (x_rel ad U sc) st' vs
  | [], [], [], _, _ => trivial
  | x :: r, y :: r', v :: vs, h, hr => by
    unfold x_leS at h
    simp only [Bool.and_eq_true] at h
    exact ⟨x_leV_ok ho ht h.1 hr.1, x_leS_ok ho ht h.2 hr.2⟩
  | [], _ :: _, _, h, _ => by unfold x_leS at h; cases h
  | _ :: _, [], _, h, _ => by unfold x_leS at h; cases h
  | [], [], _ :: _, _, hr => hr.elim
  | _ :: _, _ :: _, [], _, hr => hr.elim
/-- locals: those that count (their places c.1, c.2) stand as the tokens a, a + 2 -/
def x_leL (a : Nat) (tk : xT) (c : Nat × Nat) (l : xL) : xL → Bool
  | [] => true
  | q :: r => (bif Nat.beq q.1 c.1 then x_eqv q.2 (3, (a : Int), 0) else bif Nat.beq q.1 c.2 then x_eqv q.2 (3, ((a + 2 : Nat) : Int), 0) else match x_find l q.1 with
    | some x => x_leV a tk x q.2
    | none => false) && x_leL a tk c l r
theorem x_leL_ok {a : Nat} {ad : List Nat} {V U : List Int} {sc : Nat × Nat × List Nat} {tk : xT} {c : Nat × Nat} {nL : Nat} {ls : Array Slot} {l : xL} {lv : List (Nat × Value)} (ho : x_off a V U) (ht : x_tk tk V) (hl : lv_has ls nL lv) (h2 : x_all2 (fun a q => a.1 = q.1 ∧ x_rel ad V sc a.2 q.2) l lv) (hc : c.1 ≠ 99999 → ∃ vc, ls[c.1]? = some (.val vc) ∧ x_rel ad U sc (3, (a : Int), 0) vc) (hc2 : c.2 ≠ 99999 → ∃ vc, ls[c.2]? = some (.val vc) ∧ x_rel ad U sc (3, ((a + 2 : Nat) : Int), 0) vc) : ∀ {l' : xL}, (∀ q ∈ l', q.1 ≠ 99999) → x_leL a tk c l l' = true → ∃ lv', lv_has ls nL lv' ∧ x_all2 (fun a q => a.1 = q.1 ∧ x_rel ad U sc a.2 q.2) l' lv'
  | [], _, _ => ⟨[], ⟨hl.1, hl.2.1, fun q hq => absurd hq List.not_mem_nil⟩, trivial⟩
  | q :: r, hn, h => by
    unfold x_leL at h
    simp only [Bool.and_eq_true] at h
    obtain ⟨lv', g1, g2⟩ := x_leL_ok ho ht hl h2 hc hc2 (fun q hq => hn q (List.mem_cons_of_mem _ hq)) h.2
    have h1 := h.1
    cases hb : Nat.beq q.1 c.1 with
    | true =>
      rw [hb] at h1
      have e := Nat.eq_of_beq_eq_true hb
      obtain ⟨vc, k1, k2⟩ := hc (fun z => hn q List.mem_cons_self (e.trans z))
      refine ⟨(c.1, vc) :: lv', ⟨g1.1, g1.2.1, fun p hp => ?_⟩, ⟨e, by rw [x_eqv_ok h1]; exact k2⟩, g2⟩
      rcases List.mem_cons.mp hp with rfl | hp
      · exact k1
      · exact g1.2.2 p hp
    | false =>
    cases hb2 : Nat.beq q.1 c.2 with
    | true =>
      rw [hb, hb2] at h1
      have e := Nat.eq_of_beq_eq_true hb2
      obtain ⟨vc, k1, k2⟩ := hc2 (fun z => hn q List.mem_cons_self (e.trans z))
      refine ⟨(c.2, vc) :: lv', ⟨g1.1, g1.2.1, fun p hp => ?_⟩, ⟨e, by rw [x_eqv_ok h1]; exact k2⟩, g2⟩
      rcases List.mem_cons.mp hp with rfl | hp
      · exact k1
      · exact g1.2.2 p hp
    | false =>
      rw [hb, hb2] at h1
      simp only [cond_false] at h1
      split at h1
      · rename_i x hx
        obtain ⟨k, v, hk, hr⟩ := x_find_ok h2 hx
        refine ⟨(q.1, v) :: lv', ⟨g1.1, g1.2.1, fun p hp => ?_⟩, ⟨rfl, x_leV_ok ho ht h1 hr⟩, g2⟩
        rcases List.mem_cons.mp hp with rfl | hp
        · exact lv_at hl k hk
        · exact g1.2.2 p hp
      · cases h1
def x_leT (a : Nat) : Nat → xT → xT → Bool
  | _, [], [] => true
  | i, p :: r, q :: r' => (bif Nat.ble a i && Nat.ble i (a + 3) then true else decide (q.1 ≤ p.1) && decide (p.2 ≤ q.2)) && x_leT a (i + 1) r r'
  | _, _, _ => false
theorem x_leT_ok {a : Nat} : ∀ {i : Nat} {tk tk' : xT}, x_leT a i tk tk' = true → ∀ (j : Nat) (q : Int × Int), ¬ (a ≤ i + j ∧ i + j ≤ a + 3) → tk'[j]? = some q → ∃ p, tk[j]? = some p ∧ q.1 ≤ p.1 ∧ p.2 ≤ q.2
  | _, [], [], _, j, q, _, hj => by simp at hj
  | i, p :: r, q :: r', h, j, z, n1, hj => by
    unfold x_leT at h
    simp only [Bool.and_eq_true] at h
    cases j with
    | zero =>
      cases hj
      have h1 := h.1
      have hb : (Nat.ble a i && Nat.ble i (a + 3)) = false := by
        cases hb : (Nat.ble a i && Nat.ble i (a + 3)) with
        | false => rfl
        | true =>
          simp only [Bool.and_eq_true] at hb
          exact absurd ⟨Nat.le_of_ble_eq_true hb.1, Nat.le_of_ble_eq_true hb.2⟩ n1
      rw [hb] at h1
      simp only [cond_false, Bool.and_eq_true, decide_eq_true_eq] at h1
      exact ⟨p, rfl, h1⟩
    | succ j =>
      simp only [List.getElem?_cons_succ] at hj ⊢
      exact x_leT_ok h.2 j z (by omega) hj
  | _, [], _ :: _, h, _, _, _, _ => by unfold x_leT at h; cases h
  | _, _ :: _, [], h, _, _, _, _ => by unfold x_leT at h; cases h
/-- the picture t gives the picture u, but for the locals c.1, c.2 and the tokens a .. a + 3 -/
def x_le (a : Nat) (c : Nat × Nat) (t u : xS) : Bool := Nat.beq t.1 u.1 && (u.2.1.all (fun q => Nat.ble q.1 5000) && (x_leL a t.2.2.2.2.1 c t.2.1 u.2.1 && (x_leS a t.2.2.2.2.1 t.2.2.1 u.2.2.1 && (x_leW a t.2.2.2.2.1 t.2.2.2.1 u.2.2.2.1 && (x_leT a 0 t.2.2.2.2.1 u.2.2.2.2.1 && (Nat.ble t.2.2.2.2.2.1 u.2.2.2.2.2.1 && Nat.ble t.2.2.2.2.2.2 u.2.2.2.2.2.2))))))
theorem x_le_ok {cl : List vw_C} {V U : List Int} {sc : Nat × Nat × List Nat} {nL : Nat} {s : State} {D : va_G} {A : Nat → Prop} {H0 : Heap} {a : Nat} {c : Nat × Nat} {t u : xS} {ls : Array Slot} {stk : List Value} {H : Heap} {locs : List Loc} (ho : x_off a V U) (h : x_le a c t u = true)
    (hc : ∀ ad, c.1 ≠ 99999 → ∃ vc, ls[c.1]? = some (.val vc) ∧ x_rel ad U sc (3, (a : Int), 0) vc) (hc2 : ∀ ad, c.2 ≠ 99999 → ∃ vc, ls[c.2]? = some (.val vc) ∧ x_rel ad U sc (3, ((a + 2 : Nat) : Int), 0) vc) (ha : ∀ j q, (a ≤ j ∧ j ≤ a + 3) → u.2.2.2.2.1[j]? = some q → ∃ n, U[j]? = some n ∧ q.1 ≤ n ∧ n ≤ q.2)
    (hI : x_In cl V sc nL s D A H0 t ls stk H locs) : x_In cl U sc nL s D A H0 u ls stk H locs := by
  unfold x_le at h
  simp only [Bool.and_eq_true] at h
  obtain ⟨-, b1, b2, b3, b4, b5, -, -⟩ := h
  obtain ⟨lv, ws, tys, h1, h2, h3, h4, h5, h6, h7, h8, h9⟩ := hI
  have hn : ∀ q ∈ u.2.1, q.1 ≠ 99999 := fun q hq e => by
    have := Nat.le_of_ble_eq_true (List.all_eq_true.mp b1 q hq)
    omega
  obtain ⟨g1, g2⟩ := x_leW_ok b4
  obtain ⟨lv', k1, k2⟩ := x_leL_ok ho h9 h1 h2 (hc (ws.map Prod.fst)) (hc2 (ws.map Prod.fst)) hn b2
  refine ⟨lv', ws, tys, k1, k2, x_leS_ok ho h9 b3 h3, ⟨g1.symm.trans h4.1, h4.2.1, fun k y q hy hq => ?_⟩, h5, h6, h7, h8, fun j q hj => ?_⟩
  · obtain ⟨x, hx, hxy⟩ := g2 k y hy
    exact x_leC_ok ho h9 hxy (h4.2.2 k x q hx hq)
  · by_cases e1 : a ≤ j ∧ j ≤ a + 3
    · exact ha j q e1 hj
    · obtain ⟨p, hp, p1, p2⟩ := x_leT_ok b5 j q (by simpa using e1) hj
      obtain ⟨n, n1, n2, n3⟩ := h9 j p hp
      exact ⟨n, by rw [← ho.2 j e1]; exact n1, Int.le_trans p1 n2, Int.le_trans n3 p2⟩
theorem x_le_W {p : Program} {l : Launch} {e : Env} {R : Room} {s : State} {m : MethodId} {args : Array Value} {below : List Frame} {meth : Method} {c : Code} {H : Heap} {locs : List Loc} {Q : State → Prop} {a : Nat} {i : Nat × Nat} {t u : xS} {ls : Array Slot} {stk : List Value} (h : x_le a i t u = true) (k : W p l e R s m args below meth c H locs u.2.2.2.2.2.1 u.2.2.2.2.2.2 Q (F0 m u.1 ls stk)) : W p l e R s m args below meth c H locs t.2.2.2.2.2.1 t.2.2.2.2.2.2 Q (F0 m t.1 ls stk) := by
  unfold x_le at h
  simp only [Bool.and_eq_true] at h
  obtain ⟨b0, -, -, -, -, -, b6, b7⟩ := h
  rw [Nat.eq_of_beq_eq_true b0]
  exact W.widen (Nat.le_of_ble_eq_true b6) (Nat.le_of_ble_eq_true b7) k
end
end
-- part 09
section
noncomputable section
/-! the engine: methods by number, calls inside; and what it says of a method is a contract -/
/-- name, code, locals, answer's type, cells and slots that it makes at most, class of the receiver (999: none) -/
abbrev xM : Type := MethodName × ByteArray × Nat × Option FieldType × Nat × Nat × Nat
abbrev xm_y (q : xM) : MethodName := q.1
abbrev xm_b (q : xM) : ByteArray := q.2.1
abbrev xm_l (q : xM) : Nat := q.2.2.1
abbrev xm_r (q : xM) : Option FieldType := q.2.2.2.1
abbrev xm_c (q : xM) : Nat := q.2.2.2.2.1
abbrev xm_s (q : xM) : Nat := q.2.2.2.2.2.1
abbrev xm_o (q : xM) : Nat := q.2.2.2.2.2.2
def x_ws (q : xM) : List Cond := .code (xm_y q) (xm_b q) (xm_l q) (xm_r q) :: x_tbl
def x_rm (d : Nat) (q : xM) : Room := { frames := d, cells := xm_c q, slots := xm_s q, locals := 64 * d }
def x_ent : Nat → List xV → xL
  | _, [] => []
  | i, x :: r => (i, x) :: x_ent (bif Nat.beq (x_ty x) 1 then i + 2 else i + 1) r
def x_cats : List xV → Nat
  | [] => 0
  | x :: r => (bif Nat.beq (x_ty x) 1 then 2 else 1) + x_cats r
def x_each {α β : Type} (f : α → Option (List β)) : List α → Option (List β)
  | [] => some []
  | t :: r => match f t with
    | some a => match x_each f r with
      | some b => some (a ++ b)
      | none => none
    | none => none
def x_retv (k : Nat) (t : xS) : Option xK := match k, t.2.2.1 with
  | 0, [] => some ([], t.2.2.2.1, t.2.2.2.2.1)
  | 1, [x] => bif Nat.beq (x_ty x) 0 then some ([x], t.2.2.2.1, t.2.2.2.2.1) else none
  | 2, [x] => bif Nat.beq (x_ty x) 1 then some ([x], t.2.2.2.1, t.2.2.2.2.1) else none
  | 3, [x] => bif Nat.beq (x_ty x) 2 then some ([x], t.2.2.2.1, t.2.2.2.2.1) else none
  | 4, [x] => bif x_pkb t.2.2.2.2.1 1 x then some ([x], t.2.2.2.1, t.2.2.2.2.1) else none
  | _, _ => none
def x_ret (k : Nat) (q : xM) (t : xS) : Option xK := bif Nat.ble t.2.2.2.2.2.1 (xm_c q) && Nat.ble t.2.2.2.2.2.2 (xm_s q) then x_retv k t else none
/-- the receiver is an object of the class that is wanted -/
def x_rcv (o : Nat) (as : List xV) (w : List xC) : Bool := bif Nat.beq o 999 then true else match as with
  | (1, j, _) :: _ => match x_at w j.toNat with
    | some (0, c, _) => Nat.beq c o
    | _ => false
  | _ => false
def x_back (t : xS) (rest : List xV) (q : xM) (lf : xK) : xS := (t.1 + 3, t.2.1, lf.1 ++ rest, lf.2.1, lf.2.2, t.2.2.2.2.2.1 + xm_c q, t.2.2.2.2.2.2 + xm_s q)
def x_may_call (fd d : Nat) (t : xS) (M' na : Nat) (q q' : xM) (as rest : List xV) : Bool :=
  Nat.ble fd d && (Nat.ble 1 M' && (Nat.ble na t.2.2.1.length && (Nat.ble (x_cats rest) 8 && (Nat.ble (x_cats as) (xm_l q') && (Nat.ble (t.2.2.2.2.2.1 + xm_c q') (xm_c q) && (Nat.ble (t.2.2.2.2.2.2 + xm_s q') (xm_s q) && x_rcv (xm_o q') as t.2.2.2.1))))))
def x_rets (code : Nat → Nat → xE) (q : xM) (M : Nat) : List xS → Option (List xK)
  | [] => some []
  | t :: r => match code M t.1 with
    | (1, _, k, _) => match x_ret k q t with
      | some lf => match x_rets code q M r with
        | some b => some (lf :: b)
        | none => none
      | none => none
    | _ => none
/-- a loop: the places of the locals that count (99999: none), the picture at its head, its token, where it goes out -/
abbrev xLp : Type := (Nat × Nat) × (xS → Option xS) × Nat × Nat
def x_tok (a : Nat) : Bool := Nat.beq a 20 || (Nat.beq a 24 || Nat.beq a 28)
def x_cb (t : xS) (c : Nat) : Option (Int × Int) := match x_find t.2.1 c with
  | some x => x_bi t.2.2.2.2.1 x
  | none => none
def x_c2 (c : Nat × Nat) : Nat := bif Nat.beq c.2 99999 then c.1 else c.2
def x_inb (tk : xT) (j : Nat) (lo hi : Int) : Bool := match tk[j]? with
  | some q => decide (q.1 ≤ lo) && decide (hi ≤ q.2)
  | none => false
/-- those that count lie between the bounds that u has for the tokens -/
def x_ctr (a : Nat) (c : Nat × Nat) (t u : xS) : Bool := match x_cb t c.1, x_cb t (x_c2 c) with
  | some b, some b2 => x_inb u.2.2.2.2.1 a b.1 b.2 && (x_inb u.2.2.2.2.1 (a + 1) (b.1 + 1) (b.2 + 1) && (x_inb u.2.2.2.2.1 (a + 2) b2.1 b2.2 && x_inb u.2.2.2.2.1 (a + 3) (b2.1 + 1) (b2.2 + 1)))
  | _, _ => false
def x_below (a : Nat) (c : Nat × Nat) (t : xS) : Bool := bif Nat.beq a 20 && !(Nat.beq c.2 99999) then match x_cb t c.1, x_cb t c.2 with
  | some b, some b2 => decide (b2.2 ≤ b.1)
  | _, _ => false else true
def x_enter (fd d M a : Nat) (c : Nat × Nat) (t u : xS) : Bool := Nat.ble fd d && (Nat.ble 1 M && (x_tok a && (x_below a c t && (x_le a c t u && x_ctr a c t u))))
/-- back at the head: the count is one more -/
def x_again (a : Nat) (c : Nat × Nat) (t u : xS) : Bool := x_le a c t u && (x_ctr a c t u && ((match x_find t.2.1 c.1 with
  | some x => x_eqv x (3, ((a + 1 : Nat) : Int), 0)
  | none => false) && (bif Nat.beq a 20 && !(Nat.beq c.2 99999) then match x_find t.2.1 c.2 with
    | some x => x_eqv x (3, ((a + 2 : Nat) : Int), 0) || x_eqv x (3, ((a + 3 : Nat) : Int), 0)
    | none => false else true)))
def x_cln (a : Nat) (tk : xT) (x : xV) : xV := bif x_nt a x then x else match x.1 with
  | 3 => match tk[x.2.1.toNat]? with
    | some b => (0, b)
    | none => x
  | _ => match tk[x.2.1.toNat]? with
    | some b => (4, b)
    | none => x
/-- behind the loop: its tokens are forgotten -/
def x_out (a : Nat) (tk0 : xT) (t : xS) : Option xS := match tk0[a]?, tk0[a + 1]?, tk0[a + 2]?, tk0[a + 3]? with
  | some q, some q', some r, some r' => some (t.1, t.2.1.map (fun p => (p.1, x_cln a t.2.2.2.2.1 p.2)), t.2.2.1.map (x_cln a t.2.2.2.2.1), t.2.2.2.1, (((t.2.2.2.2.1.set a q).set (a + 1) q').set (a + 2) r).set (a + 3) r', t.2.2.2.2.2)
  | _, _, _, _ => none
def x_loop (h e a : Nat) (c : Nat × Nat) (tk0 : xT) (u : xS) : List xS → Option (List xS)
  | [] => some []
  | t :: r => bif Nat.beq t.1 h then (bif x_again a c t u then x_loop h e a c tk0 u r else none) else bif Nat.beq t.1 e then match x_out a tk0 t with
      | some t' => bif x_le a (99999, 99999) t t' then match x_loop h e a c tk0 u r with
          | some b => some (t' :: b)
          | none => none
        else none
      | none => none
    else none
/-- a number, whatever cells there are -/
def x_num (x : xV) : Bool := match x.1 with
  | 0 => true
  | 3 => true
  | 4 => true
  | 6 => true
  | _ => false
def x_longs (ls : List xK) : Bool := ls.all (fun lf => match lf.1 with
  | [x] => Nat.beq (x_ty x) 1
  | _ => false)
/-- from t on, to a place of sp, or to the method's end -/
def x_go (fd : Nat) (code : Nat → Nat → xE) (lp : Nat → xLp) (I : Nat → xM) : Nat → Nat → Nat → Nat × Nat → xS → Option (List xS)
  | 0, _, _, _, _ => none
  | n + 1, d, M, sp, t => bif Nat.beq t.1 sp.1 || Nat.beq t.1 sp.2 then some [t] else match code M t.1 with
    | (0, f, _, _) => match f t with
      | some [t'] => x_go fd code lp I n d M sp t'
      | some l => x_each (fun t' => x_go fd code lp I n d M sp t') l
      | none => none
    | (1, _, _, _) => some [t]
    | (2, _, M', na) => match d with
      | 0 => none
      | d' + 1 => bif x_may_call fd d' t M' na (I M) (I M') (t.2.2.1.take na).reverse (t.2.2.1.drop na) then
          match x_go fd code lp I n d' M' (99999, 99999) (0, x_ent 0 (t.2.2.1.take na).reverse, [], t.2.2.2.1, t.2.2.2.2.1, 0, 0) with
          | some rs => match x_rets code (I M') M' rs with
            | some [lf] => x_go fd code lp I n (d' + 1) M sp (x_back t (t.2.2.1.drop na) (I M') lf)
            | some ls => x_each (fun lf => x_go fd code lp I n (d' + 1) M sp lf) (ls.map (x_back t (t.2.2.1.drop na) (I M')))
            | none => none
          | none => none
          else none
    | (3, g, L, _) => match lp L with
      | (c, wk, a, e) => match wk t with
        | some u => bif x_enter fd d M a c t u then match g u with
            | some l => match x_each (fun t' => x_go fd code lp I n d M (t.1, e) t') l with
              | some rs => match x_loop t.1 e a c t.2.2.2.2.1 u rs with
                | some ex => x_each (fun t' => x_go fd code lp I n d M sp t') ex
                | none => none
              | none => none
            | none => none
          else none
        | none => match g t with
          | some [t'] => x_go fd code lp I n d M sp t'
          | some l => x_each (fun t' => x_go fd code lp I n d M sp t') l
          | none => none
    | (4, _, M', na) => match d with
      | 0 => none
      | d' + 1 => bif x_may_call fd d' t M' na (I M) (I M') (t.2.2.1.take na).reverse (t.2.2.1.drop na) && (Nat.beq (xm_o (I M')) 999 && ((t.2.2.1.take na).reverse).all x_num) then
          match x_go fd code lp I n d' M' (99999, 99999) (0, x_ent 0 (t.2.2.1.take na).reverse, [], [], t.2.2.2.2.1, 0, 0) with
          | some rs => match x_rets code (I M') M' rs with
            | some ls => bif x_longs ls then x_go fd code lp I n (d' + 1) M sp (x_back t (t.2.2.1.drop na) (I M') ([x_anyL], t.2.2.2.1, t.2.2.2.2.1)) else none
            | none => none
          | none => none
          else none
    | _ => none
theorem x_after {p : Program} {l : Launch} {e : Env} {R : Room} {s : State} {m : MethodId} {args : Array Value} {below : List Frame} {meth : Method} {c : Code} {H : Heap} {locs : List Loc} {cells slots : Nat} {Q : State → Prop} {pc : Nat} {ls : Array Slot} {rest st0 : List Value} {A0 A1 : Nat → Prop} {H0 : Heap} {mc ms : Nat} {free : Addr → Prop} {Qa : State → Outcome → State → Prop}
    (hr : va_Run p l e R s m args below meth c H locs cells slots mc ms (F0 m pc ls st0) rest Qa free) (hS : va_S A0 H0 H locs) (hQ : ∀ st v t, Qa st (.returned v) t → va_F A1 st t) (hA : ∀ q, q < H.size → A1 q → A0 q) (hf : ∀ q, free q → A0 q)
    (kk : ∀ (v : Option Value) (st t : State) (H1 : Heap) (locs1 : List Loc), st.heap = H → t.heap = H1 → s.vm.Alike t.vm → Qa st (.returned v) t → va_S A0 H0 H1 locs1 → W p l e R s m args below meth c H1 locs1 (cells + mc) (slots + ms) Q (F0 m (pc + 3) ls (v.toList ++ rest))) : W p l e R s m args below meth c H locs cells slots Q (F0 m pc ls st0) := by
  intro T hT X
  obtain ⟨v, st₀, t, T', L, h0, X', hL, e1, e2, hq, st⟩ := hr T hT X
  obtain ⟨hz, hk⟩ := hQ _ _ _ hq
  rw [h0] at hz hk
  obtain ⟨t2, a1, b1⟩ := kk v st₀ t T'.heap (locs ++ L) h0 e1.symm (by rw [← e2]; exact X'.warmed.alike) hq
    ⟨Nat.le_trans hS.1 (by rw [e1]; exact hz), fun q h1 h2 => by rw [e1, hk q (Nat.lt_of_lt_of_le h1 hS.1) (fun z => h2 (hA q (Nat.lt_of_lt_of_le h1 hS.1) z))]; exact hS.2.1 q h1 h2, fun q hq => by
      rcases List.mem_append.mp hq with h | h
      · exact hS.2.2 q h
      · exact hf _ (hL q h)⟩ T' rfl X'
  exact ⟨t2, st t2 a1, b1⟩
/-- what is left behind a method -/
def x_Q (cl : List vw_C) (V : List Int) (sc : Nat × Nat × List Nat) (D : va_G) (ws0 : va_W) (sz : Nat) (Ls : List xK) : Array Value → State → Outcome → State → Prop := fun _ st oc t =>
  (∃ lf ∈ Ls, ∃ (v : Option Value) (ws : va_W) (tys : List (ClassId × FieldType)), oc = .returned v ∧ x_all2 (x_rel (ws.map Prod.fst) V sc) lf.1 v.toList ∧ x_world cl V sc tys lf.2.1 ws ∧ va_K D cl tys t ∧ va_P D cl ws t.heap ∧ va_D (va_A ws0 sz) ws ∧ x_tk lf.2.2 V) ∧ va_F (va_A ws0 sz) st t
def x_Rt (cc : ByteArray) (rt : Option FieldType) (pc k : Nat) : Prop := match k with
  | 0 => decode cc pc = .ok (.return_, 1) ∧ rt = none
  | 1 => decode cc pc = .ok (.ireturn, 1) ∧ rt = some .int
  | 2 => decode cc pc = .ok (.lreturn, 1) ∧ rt = some .long
  | 3 => decode cc pc = .ok (.areturn, 1) ∧ ∃ t, rt = some t ∧ ((∃ n, t = .object n) ∨ ∃ q, t = .array q)
  | 5 => decode cc pc = .ok (.ireturn, 1) ∧ (rt = some .byte ∨ rt = some .char)
  | _ => decode cc pc = .ok (.ireturn, 1) ∧ rt = some .boolean
def x_Cl (cc : ByteArray) (own : String) (nL : Nat) (nm : String) (MC MS pc : Nat) (q' : xM) (na : Nat) : Prop := (19 + xm_l q' ≤ 64) ∧ ∀ {p : Program} {l : Launch} {e : Env} {R : Room} {s : State} {m : MethodId} {args : Array Value} {below : List Frame} {meth : Method} {c : Code}, x_Cx cc own nL nm MC MS p R s m args meth c →
  ∀ {H : Heap} {locs : List Loc} {cells slots mc ms : Nat} {ls : Array Slot} {rest vargs : List Value} {Pc : Array Value → State → Prop} {Qc : Array Value → State → Outcome → State → Prop} {free : Addr → Prop} {rm : Room}, Met l (xm_y q') (x_ws q') rm Pc Qc mc ms free → FrameBlind Pc → (∀ U : State, U.heap = H → s.WarmedH U.vm → Pc vargs.toArray U) →
  (xm_o q' = 999 ∨ ∃ b As, vargs = .ref b :: As ∧ ∃ cellB : Cell, H[b]? = some cellB ∧ cellB.vm.isStatics = false ∧ s.vm.findClass (xm_y q').cls = some cellB.cls) → vargs.length = na → rm.cells = mc → rm.slots = ms → rm.frames + 1 ≤ R.frames → 8 + (xm_l q' + 11) + rm.locals ≤ R.locals → ls.size = nL → (rest.map fun v => v.category).sum ≤ 8 → cells + mc ≤ R.cells ∧ slots + ms ≤ R.slots →
  va_Run p l e R s m args below meth c H locs cells slots mc ms (F0 m pc ls (vargs.reverse ++ rest)) rest (Qc vargs.toArray) free
/-- a place of a method's table may be trusted -/
def x_EOq (cl : List vw_C) (K : xKx) (I : Nat → xM) (q : xM) (pc : Nat) (en : xE) : Prop := match en with
  | (0, f, _, _) => x_Snd cl K (xm_b q) (xm_y q).cls (xm_l q) (xm_y q).name (xm_c q) (xm_s q) pc f
  | (1, _, k, _) => x_Rt (xm_b q) (xm_r q) pc k
  | (2, _, M', na) => x_Cl (xm_b q) (xm_y q).cls (xm_l q) (xm_y q).name (xm_c q) (xm_s q) pc (I M') na
  | (3, f, _, _) => x_Snd cl K (xm_b q) (xm_y q).cls (xm_l q) (xm_y q).name (xm_c q) (xm_s q) pc f
  | (4, _, M', na) => x_Cl (xm_b q) (xm_y q).cls (xm_l q) (xm_y q).name (xm_c q) (xm_s q) pc (I M') na
  | _ => True
abbrev x_EOk (cl : List vw_C) (K : xKx) (I : Nat → xM) (M pc : Nat) (en : xE) : Prop := x_EOq cl K I (I M) pc en
theorem x_each_in {α β : Type} {f : α → Option (List β)} : ∀ {l : List α} {r : List β}, x_each f l = some r → ∀ t ∈ l, ∃ a, f t = some a ∧ ∀ x ∈ a, x ∈ r
  | [], r, h, t, ht => absurd ht List.not_mem_nil
  | t0 :: l, r, h, t, ht => by
    unfold x_each at h
    split at h
    · rename_i a ha
      split at h
      · rename_i b hb
        cases h
        rcases List.mem_cons.mp ht with rfl | ht
        · exact ⟨a, ha, fun x hx => List.mem_append_left _ hx⟩
        · obtain ⟨a', h1, h2⟩ := x_each_in hb t ht
          exact ⟨a', h1, fun x hx => List.mem_append_right _ (h2 x hx)⟩
      · cases h
    · cases h
theorem x_rel_sc {ad : List Nat} {V : List Int} {sc sc' : Nat × Nat × List Nat} (h1 : sc.1 = sc'.1) (h2 : sc.2.1 = sc'.2.1) {x : xV} {v : Value} (h : x_rel ad V sc x v) : x_rel ad V sc' x v := by
  obtain ⟨t, a, b⟩ := x
  unfold x_rel at h ⊢
  split at h <;> try exact h
  exact ⟨by rw [← h1]; exact h.1, by rw [← h2]; exact h.2⟩
theorem x_cell_sc {cl : List vw_C} {ad : List Nat} {V : List Int} {sc sc' : Nat × Nat × List Nat} (h1 : sc.1 = sc'.1) (h2 : sc.2.1 = sc'.2.1) {tys : List (ClassId × FieldType)} {x : xC} {e : va_E} (h : x_cell cl ad V sc tys x e) : x_cell cl ad V sc' tys x e := by
  obtain ⟨t, n, ln, d, o⟩ := x
  unfold x_cell at h ⊢
  split at h
  · obtain ⟨fs, g1, g2, g3⟩ := h
    exact ⟨fs, g1, g2, fun k hk => by obtain ⟨v, k1, k2⟩ := g3 k hk; exact ⟨v, k1, x_rel_sc h1 h2 k2⟩⟩
  · obtain ⟨t0, cA, f, g1, g2, g3, g4⟩ := h
    exact ⟨t0, cA, f, g1, g2, g3, fun k hk => x_rel_sc h1 h2 (g4 k hk)⟩
  · obtain ⟨t0, cA, f, g1, g2, g3, g4⟩ := h
    exact ⟨t0, cA, f, g1, g2, g3, fun k hk => x_rel_sc h1 h2 (g4 k hk)⟩
  · obtain ⟨t0, cA, f, g1, g2, g3, g4⟩ := h
    exact ⟨t0, cA, f, g1, g2, g3, fun k hk => x_rel_sc h1 h2 (g4 k hk)⟩
  · obtain ⟨t0, cA, r, f, g0, g1, g2, g3, g4⟩ := h
    exact ⟨t0, cA, r, f, g0, g1, g2, g3, fun k hk => x_rel_sc h1 h2 (g4 k hk)⟩
  · obtain ⟨t0, cA, f, g1, g2, g3, g4⟩ := h
    exact ⟨t0, cA, f, g1, g2, g3, fun k hk => x_rel_sc h1 h2 (g4 k hk)⟩
  · exact h.elim
theorem x_ent_ok {ad : List Nat} {V : List Int} {sc : Nat × Nat × List Nat} : ∀ {as : List xV} {vs : List Value} (i : Nat), x_all2 (x_rel ad V sc) as vs → x_all2 (fun a q => a.1 = q.1 ∧ x_rel ad V sc a.2 q.2) (x_ent i as) (lv_args i vs)
  | [], [], _, _ => trivial
  | a :: as, v :: vs, i, h => by
    refine ⟨⟨rfl, h.1⟩, ?_⟩
    have e := x_kd_cat (x_ty_ok h.1)
    cases hb : Nat.beq (x_ty a) 1 with
    | true =>
      have := Nat.eq_of_beq_eq_true hb
      rw [this, if_pos rfl] at e
      rw [e, if_pos rfl]
      exact x_ent_ok (i + 2) h.2
    | false =>
      have h1 : ¬ x_ty a = 1 := fun q => by rw [q] at hb; cases hb
      rw [if_neg h1] at e
      rw [e, if_neg (by decide)]
      exact x_ent_ok (i + 1) h.2
  | [], _ :: _, _, h => h.elim
  | _ :: _, [], _, h => h.elim
theorem x_cats_ok {ad : List Nat} {V : List Int} {sc : Nat × Nat × List Nat} : ∀ {as : List xV} {vs : List Value}, x_all2 (x_rel ad V sc) as vs → (vs.map fun v => v.category).sum = x_cats as ∧ (lg_sl vs).length = x_cats as
  | [], [], _ => ⟨rfl, rfl⟩
  | a :: as, v :: vs, h => by
    have e := x_kd_cat (x_ty_ok h.1)
    obtain ⟨h1, h2⟩ := x_cats_ok h.2
    cases hb : Nat.beq (x_ty a) 1 with
    | true =>
      have := Nat.eq_of_beq_eq_true hb
      rw [this, if_pos rfl] at e
      refine ⟨by simp only [List.map_cons, List.sum_cons, e, h1, x_cats, hb, cond_true], ?_⟩
      show (List.flatMap _ (v :: vs)).length = _
      rw [List.flatMap_cons, e, if_pos rfl, List.length_append]
      show 2 + (lg_sl vs).length = _
      rw [h2]
      simp only [x_cats, hb, cond_true]
    | false =>
      have h3 : ¬ x_ty a = 1 := fun q => by rw [q] at hb; cases hb
      rw [if_neg h3] at e
      refine ⟨by simp only [List.map_cons, List.sum_cons, e, h1, x_cats, hb, cond_false], ?_⟩
      show (List.flatMap _ (v :: vs)).length = _
      rw [List.flatMap_cons, e, if_neg (by decide), List.length_append]
      show 1 + (lg_sl vs).length = _
      rw [h2]
      simp only [x_cats, hb, cond_false]
  | [], _ :: _, h => h.elim
  | _ :: _, [], h => h.elim
theorem x_split {α β : Type} {R : α → β → Prop} (n : Nat) : ∀ {as : List α} {bs : List β}, x_all2 R as bs → x_all2 R (as.take n) (bs.take n) ∧ x_all2 R (as.drop n) (bs.drop n) := by
  induction n with
  | zero => intro as bs h; simp only [List.take_zero, List.drop_zero]; exact ⟨trivial, h⟩
  | succ n ih =>
    intro as bs h
    match as, bs, h with
    | [], [], _ => exact ⟨trivial, trivial⟩
    | a :: as, b :: bs, h =>
      obtain ⟨h1, h2⟩ := ih h.2
      exact ⟨⟨h.1, h1⟩, h2⟩
theorem x_num_ok {ad ad' : List Nat} {V : List Int} {sc sc' : Nat × Nat × List Nat} {x : xV} {v : Value} (h : x_num x = true) (hr : x_rel ad V sc x v) : x_rel ad' V sc' x v := by
  obtain ⟨t, i, b⟩ := x
  unfold x_num at h
  unfold x_rel at hr ⊢
  split at h
  · rename_i h0; simp only at h0; subst h0; exact hr
  · rename_i h0; simp only at h0; subst h0; exact hr
  · rename_i h0; simp only at h0; subst h0; exact hr
  · rename_i h0; simp only at h0; subst h0; exact hr
  · cases h
theorem x_nums_ok {ad ad' : List Nat} {V : List Int} {sc sc' : Nat × Nat × List Nat} : ∀ {as : List xV} {vs : List Value}, as.all x_num = true → x_all2 (x_rel ad V sc) as vs → x_all2 (x_rel ad' V sc') as vs
  | [], [], _, _ => trivial
  | a :: as, v :: vs, h, hr => by
    simp only [List.all_cons, Bool.and_eq_true] at h
    exact ⟨x_num_ok h.1 hr.1, x_nums_ok h.2 hr.2⟩
  | [], _ :: _, _, h => h.elim
  | _ :: _, [], _, h => h.elim
end
end
-- part 10
section
noncomputable section
/-! what the engine says holds -/
def x_Tab (fd : Nat) (PV : List Int → Prop) (cl : List vw_C) (KK : Nat → xKx) (I : Nat → xM) (code : Nat → Nat → xE) : Prop :=
  1 ≤ fd ∧ (∀ M pc, x_EOk cl (KK M) I M pc (code M pc)) ∧ (∀ M, plainName (xm_y (I M)).cls = true) ∧ (∀ M, M ≠ 0 → ∀ (R : Room) s A H V sc, fd ≤ R.frames → 64 * fd ≤ R.locals → PV V → KK M R s A H V sc) ∧ (∀ M, xm_o (I M) ≠ 999 → ∃ r, cl[xm_o (I M)]? = some r ∧ r.1 = (xm_y (I M)).cls) ∧
  ∀ V a k i, x_tok a = true → PV V → a + 3 < V.length ∧ V[a + 1]? = V[a]?.map (· + 1) ∧ V[a + 3]? = V[a + 2]?.map (· + 1) ∧ (a = 20 → ∀ x y, V[20]? = some x → V[22]? = some y → y ≤ x) ∧ ((a = 20 → i ≤ k) → PV (x_vup V a k i))
def x_Frm (fd : Nat) (PV : List Int → Prop) (cl : List vw_C) (KK : Nat → xKx) (I : Nat → xM) (code : Nat → Nat → xE) (lp : Nat → xLp) (l : Launch) (n : Nat) : Prop :=
  ∀ (d M : Nat) (sp : Nat × Nat) (t : xS) (Ls : List xS), x_go fd code lp I n d M sp t = some Ls → ∀ {V : List Int} {sc : Nat × Nat × List Nat} {p : Program} {e : Env} {R : Room} {s : State} {m : MethodId} {args : Array Value} {below : List Frame} {meth : Method} {c : Code} {D : va_G} {A : Nat → Prop} {H0 : Heap} {Q : State → Prop},
    x_Cx (xm_b (I M)) (xm_y (I M)).cls (xm_l (I M)) (xm_y (I M)).name (xm_c (I M)) (xm_s (I M)) p R s m args meth c → d ≤ R.frames → 64 * d ≤ R.locals → (∀ q : Nat, H0.size ≤ q → A q) → KK M R s A H0 V sc → PV V →
    (∀ t' ∈ Ls, x_Good cl V sc (xm_l (I M)) p l e R s m args below meth c D A H0 Q t') → x_Good cl V sc (xm_l (I M)) p l e R s m args below meth c D A H0 Q t
theorem x_rets_in {code : Nat → Nat → xE} {q : xM} {M : Nat} : ∀ {rs : List xS} {ls : List xK}, x_rets code q M rs = some ls → ∀ t ∈ rs, ∃ f k b lf, code M t.1 = (1, f, k, b) ∧ x_ret k q t = some lf ∧ lf ∈ ls
  | [], _, _, t, ht => absurd ht List.not_mem_nil
  | t0 :: rs, ls, h, t, ht => by
    unfold x_rets at h
    split at h
    · rename_i f k b hc
      split at h
      · rename_i lf hlf
        split at h
        · rename_i b' hb
          cases h
          rcases List.mem_cons.mp ht with rfl | ht
          · exact ⟨f, k, b, lf, hc, hlf, List.mem_cons_self⟩
          · obtain ⟨f', k', b'', lf', h1, h2, h3⟩ := x_rets_in hb t ht
            exact ⟨f', k', b'', lf', h1, h2, List.mem_cons_of_mem _ h3⟩
        · cases h
      · cases h
    · cases h
theorem x_loop_in {h e a : Nat} {c : Nat × Nat} {tk0 : xT} {u : xS} : ∀ {rs ex : List xS}, x_loop h e a c tk0 u rs = some ex → ∀ t ∈ rs, (x_again a c t u = true) ∨ (∃ t', x_out a tk0 t = some t' ∧ x_le a (99999, 99999) t t' = true ∧ t' ∈ ex)
  | [], _, _, t, ht => absurd ht List.not_mem_nil
  | t0 :: rs, ex, hh, t, ht => by
    unfold x_loop at hh
    cases h1 : Nat.beq t0.1 h with
    | true =>
      rw [h1] at hh
      simp only [cond_true] at hh
      cases h2 : x_again a c t0 u with
      | true =>
        rw [h2] at hh
        rcases List.mem_cons.mp ht with rfl | ht
        · exact Or.inl h2
        · exact x_loop_in hh t ht
      | false => rw [h2] at hh; cases hh
    | false =>
      rw [h1] at hh
      simp only [cond_false] at hh
      cases h2 : Nat.beq t0.1 e with
      | false => rw [h2] at hh; cases hh
      | true =>
        rw [h2] at hh
        simp only [cond_true] at hh
        split at hh
        · rename_i t' ho
          cases h3 : x_le a (99999, 99999) t0 t' with
          | false => rw [h3] at hh; cases hh
          | true =>
            rw [h3] at hh
            simp only [cond_true] at hh
            split at hh
            · rename_i b hb
              cases hh
              rcases List.mem_cons.mp ht with rfl | ht
              · exact Or.inr ⟨t', ho, h3, List.mem_cons_self⟩
              · rcases x_loop_in hb t ht with g | ⟨t2, g1, g2, g3⟩
                · exact Or.inl g
                · exact Or.inr ⟨t2, g1, g2, List.mem_cons_of_mem _ g3⟩
            · cases hh
        · cases hh
theorem x_inb_ok {tk : xT} {j : Nat} {lo hi n : Int} (h : x_inb tk j lo hi = true) (h1 : lo ≤ n) (h2 : n ≤ hi) : ∃ q, tk[j]? = some q ∧ q.1 ≤ n ∧ n ≤ q.2 := by
  unfold x_inb at h
  split at h
  · rename_i q hq
    simp only [Bool.and_eq_true, decide_eq_true_eq] at h
    exact ⟨q, hq, by omega, by omega⟩
  · cases h
theorem x_cb_ok {cl : List vw_C} {V : List Int} {sc : Nat × Nat × List Nat} {nL : Nat} {s : State} {D : va_G} {A : Nat → Prop} {H0 : Heap} {c : Nat} {t : xS} {b : Int × Int} {ls : Array Slot} {stk : List Value} {H : Heap} {locs : List Loc} (h : x_cb t c = some b) (hI : x_In cl V sc nL s D A H0 t ls stk H locs) : ∃ (n : Int32) (x : xV) (ad : List Nat), ls[c]? = some (.val (.int n)) ∧ b.1 ≤ n.toInt ∧ n.toInt ≤ b.2 ∧ x_find t.2.1 c = some x ∧ x_rel ad V sc x (.int n) := by
  unfold x_cb at h
  split at h
  · rename_i x hx
    obtain ⟨lv, ws, tys, h1, h2, h3, h4, h5, h6, h7, h8, h9⟩ := hI
    obtain ⟨k, v, hk, hr⟩ := x_find_ok h2 hx
    obtain ⟨n, rfl, n1, n2⟩ := x_bi_ok h9 h hr
    exact ⟨n, x, _, lv_at h1 k hk, n1, n2, hx, hr⟩
  · cases h
/-- into the picture at the head -/
theorem x_into {cl : List vw_C} {V : List Int} {sc : Nat × Nat × List Nat} {nL : Nat} {s : State} {D : va_G} {A : Nat → Prop} {H0 : Heap} {a : Nat} {c : Nat × Nat} {t u : xS} {ls : Array Slot} {stk : List Value} {H : Heap} {locs : List Loc} (hlen : a + 3 < V.length) (hle : x_le a c t u = true) (h : x_ctr a c t u = true) (hI : x_In cl V sc nL s D A H0 t ls stk H locs) :
    ∃ (n i : Int32), ls[c.1]? = some (.val (.int n)) ∧ ls[x_c2 c]? = some (.val (.int i)) ∧ (∃ q, u.2.2.2.2.1[a]? = some q ∧ q.1 ≤ n.toInt ∧ n.toInt ≤ q.2) ∧ x_In cl (x_vup V a n.toInt i.toInt) sc nL s D A H0 u ls stk H locs := by
  unfold x_ctr at h
  split at h
  · rename_i b b2 hb hb2
    simp only [Bool.and_eq_true] at h
    obtain ⟨n, x, ad, k1, k2, k3, k4, k5⟩ := x_cb_ok hb hI
    obtain ⟨i, x', ad', m1, m2, m3, m4, m5⟩ := x_cb_ok hb2 hI
    obtain ⟨q1, q1a, q1b⟩ := x_inb_ok h.1 k2 k3
    obtain ⟨q2, q2a, q2b⟩ := x_inb_ok (n := n.toInt + 1) h.2.1 (by omega) (by omega)
    obtain ⟨q3, q3a, q3b⟩ := x_inb_ok h.2.2.1 m2 m3
    obtain ⟨q4, q4a, q4b⟩ := x_inb_ok (n := i.toInt + 1) h.2.2.2 (by omega) (by omega)
    refine ⟨n, i, k1, m1, ⟨q1, q1a, q1b⟩, x_le_ok (x_vup_off V a n.toInt i.toInt) hle (fun ad' _ => ⟨.int n, k1, n, rfl, ?_⟩) (fun ad' hne => ⟨.int i, ?_, i, rfl, ?_⟩) (fun j z hj hz => ?_) hI⟩
    · simp only [Int.toNat_natCast]
      exact x_vup_a hlen
    · have e : x_c2 c = c.2 := by unfold x_c2; rw [x_nb hne]; rfl
      rw [← e]
      exact m1
    · simp only [Int.toNat_natCast]
      exact x_vup_b hlen
    · have hj4 : j = a ∨ j = a + 1 ∨ j = a + 2 ∨ j = a + 3 := by omega
      rcases hj4 with rfl | rfl | rfl | rfl
      · rw [q1a] at hz; cases hz; exact ⟨_, x_vup_a hlen, q1b⟩
      · rw [q2a] at hz; cases hz; exact ⟨_, x_vup_s hlen, q2b⟩
      · rw [q3a] at hz; cases hz; exact ⟨_, x_vup_b hlen, q3b⟩
      · rw [q4a] at hz; cases hz; exact ⟨_, x_vup_t hlen, q4b⟩
  · cases h
theorem x_out_tk {a : Nat} {tk0 : xT} {t t' : xS} (h : x_out a tk0 t = some t') : ∀ j q, (a ≤ j ∧ j ≤ a + 3) → t'.2.2.2.2.1[j]? = some q → tk0[j]? = some q := by
  unfold x_out at h
  split at h
  · rename_i q q' r r' hq hq' hr hr'
    cases h
    intro j z hj hz
    simp only [List.getElem?_set] at hz
    have hj4 : j = a ∨ j = a + 1 ∨ j = a + 2 ∨ j = a + 3 := by omega
    rcases hj4 with rfl | rfl | rfl | rfl
    · rw [if_neg (by omega), if_neg (by omega), if_neg (by omega), if_pos rfl] at hz
      split at hz
      · cases hz; exact hq
      · cases hz
    · rw [if_neg (by omega), if_neg (by omega), if_pos rfl] at hz
      split at hz
      · cases hz; exact hq'
      · cases hz
    · rw [if_neg (by omega), if_pos rfl] at hz
      split at hz
      · cases hz; exact hr
      · cases hz
    · rw [if_pos rfl] at hz
      split at hz
      · cases hz; exact hr'
      · cases hz
  · cases h
/-- a local by its picture -/
theorem x_lcl {cl : List vw_C} {V : List Int} {sc : Nat × Nat × List Nat} {nL : Nat} {s : State} {D : va_G} {A : Nat → Prop} {H0 : Heap} {c : Nat} {t : xS} {x : xV} {n : Int32} {ls : Array Slot} {stk : List Value} {H : Heap} {locs : List Loc} (hx : x_find t.2.1 c = some x) (hn : ls[c]? = some (.val (.int n))) (hI : x_In cl V sc nL s D A H0 t ls stk H locs) : ∃ ad, x_rel ad V sc x (.int n) := by
  obtain ⟨lv, ws, tys, h1, h2, h3, h4, h5, h6, h7, h8, h9⟩ := hI
  obtain ⟨k, v, hk, hr⟩ := x_find_ok h2 hx
  have e := lv_at h1 k hk
  rw [hn] at e
  cases e
  exact ⟨_, hr⟩
theorem x_tkn {ad : List Nat} {V : List Int} {sc : Nat × Nat × List Nat} {j : Nat} {n : Int32} (h : x_rel ad V sc (3, (j : Int), 0) (.int n)) : V[j]? = some n.toInt := by
  obtain ⟨z, e, h2⟩ := h
  cases e
  simpa using h2
def x_Met (PV : List Int → Prop) (cl : List vw_C) (I : Nat → xM) (l : Launch) (d M : Nat) (as : List xV) (w : List xC) (tk : xT) (ls : List xK) : Prop :=
  ∀ (V : List Int) (s1 s2 : Nat) (D : va_G) (ws : va_W) (tys : List (ClassId × FieldType)) (vs : List Value) (sz : Nat), x_all2 (x_rel (ws.map Prod.fst) V (s1, s2, ws.map Prod.fst)) as vs → x_world cl V (s1, s2, ws.map Prod.fst) tys w ws → x_tk tk V → PV V →
    Met l (xm_y (I M)) (x_ws (I M)) (x_rm d (I M)) (va_Pc vs (fun U => U.heap.size = sz ∧ va_P D cl ws U.heap ∧ va_K D cl tys U ∧ va_D (fun _ => True) ws ∧ x_Ex U)) (x_Q cl V (s1, s2, ws.map Prod.fst) D ws sz ls) (xm_c (I M)) (xm_s (I M)) (va_A ws sz)
theorem x_goodIn {q q' : xM} (h : Cond.code (xm_y q') (xm_b q') (xm_l q') (xm_r q') ∈ x_tbl) (hg : x_tbl.all goodWord = true) : GoodIn x_tbl (x_ws q') := by
  intro w hw
  rcases List.mem_cons.mp hw with rfl | hw
  · exact ⟨h, good_of_word (List.all_eq_true.mp hg _ h)⟩
  · exact ⟨hw, good_of_word (List.all_eq_true.mp hg _ hw)⟩
section X10
variable {fd : Nat} {PV : List Int → Prop} {cl : List vw_C} {KK : Nat → xKx} {I : Nat → xM} {code : Nat → Nat → xE} {lp : Nat → xLp} {l : Launch}
theorem x_met_of (hT : x_Tab fd PV cl KK I code) {n : Nat} (hF : x_Frm fd PV cl KK I code lp l n) {d M : Nat} {as : List xV} {w : List xC} {tk : xT} {rs : List xS} {ls : List xK} (hd : fd ≤ d) (hM : M ≠ 0) (hl : x_cats as ≤ xm_l (I M)) (h : x_go fd code lp I n d M (99999, 99999) (0, x_ent 0 as, [], w, tk, 0, 0) = some rs) (hrs : x_rets code (I M) M rs = some ls) : x_Met PV cl I l d M as w tk ls := by
  intro V s1 s2 D ws tys vs sz has hw htk hPV
  refine Met.ofW (cc := xm_b (I M)) (maxL := xm_l (I M)) (ret := xm_r (I M)) (hT.2.2.1 M) rfl ?_
  intro p e s m args below meth c s₁ B hml hv
  obtain ⟨rfl, hsz, hP, hK, hD0, hEx⟩ := hv
  have hx := B.exec
  have hb := B.bytes
  have hr := B.returns
  have hts := atoms_spec (ws := x_ws (I M)) B.pre
  have hown : s.vm.findClass (xm_y (I M)).cls = some m.cls := findClass_of_methodNamed B.named
  have hlocks := B.notSynchronized
  have hin : meth.name = (xm_y (I M)).name := (name_of_methodNamed B.named B.method).1
  subst hsz
  have hD := hD0.self (sz := s.heap.size)
  have hA : ∀ q : Nat, s.heap.size ≤ q → va_A ws s.heap.size q := fun q h => Or.inr h
  rw [lg_entry_eq]
  have hle : (lg_sl vs).length ≤ xm_l (I M) := by rw [(x_cats_ok has).2]; exact hl
  refine hF d M _ _ rs h (D := D) (A := va_A ws s.heap.size) (H0 := s.heap) ⟨⟨hx, hb, hml, hown, fun w hw => hts w (List.mem_cons_of_mem _ hw)⟩, hin, rfl, rfl, by show 1 ≤ d; have := hT.1; omega, by show 32 ≤ 64 * d; have := hT.1; omega, hEx⟩ (Nat.le_refl d) (Nat.le_refl (64 * d)) hA (hT.2.2.2.1 M hM _ _ _ _ _ _ hd (Nat.mul_le_mul_left 64 hd) hPV) hPV ?_ _ [] s.heap [] ⟨lv_args 0 vs, ws, tys, lv_entry vs hle, x_ent_ok 0 has, trivial, hw, hK, hP, hD, va_S.rf, htk⟩
  intro t ht ls' stk H locs hI
  obtain ⟨f, k, b, lf, hc, hlf, hmem⟩ := x_rets_in hrs t ht
  obtain ⟨lv, ws', tys', h1, h2, h3, h4, h5, h6, h7, h8, h9⟩ := hI
  unfold x_ret at hlf
  cases hbb : (Nat.ble t.2.2.2.2.2.1 (xm_c (I M)) && Nat.ble t.2.2.2.2.2.2 (xm_s (I M))) with
  | false => rw [hbb] at hlf; cases hlf
  | true =>
    rw [hbb] at hlf
    simp only [Bool.and_eq_true] at hbb
    have hE := hT.2.1 M t.1
    rw [hc] at hE
    replace hE : x_Rt (xm_b (I M)) (xm_r (I M)) t.1 k := hE
    replace hlf : x_retv k t = some lf := hlf
    refine W.widen (k := xm_c (I M)) (n := xm_s (I M)) (Nat.le_of_ble_eq_true hbb.1) (Nat.le_of_ble_eq_true hbb.2) ?_
    have fin : ∀ (v : Option Value) (T : State), x_all2 (x_rel (ws'.map Prod.fst) V (s1, s2, ws.map Prod.fst)) lf.1 v.toList → lf.2.1 = t.2.2.2.1 → lf.2.2 = t.2.2.2.2.1 → T.heap = H → s.WarmedH T.vm → x_Q cl V (s1, s2, ws.map Prod.fst) D ws s.heap.size ls vs.toArray s (.returned v) T := by
      intro v T hr e1 e2 hTh hW
      exact ⟨⟨lf, hmem, v, ws', tys', rfl, hr, by rw [e1]; exact h4, va_K.moved hW.alike h5, by rw [hTh]; exact h6, h7, by rw [e2]; exact h9⟩, h8.F hTh⟩
    unfold x_retv at hlf
    split at hlf
    · rename_i hst
      cases hlf
      rw [hst] at h3
      match stk, h3 with
      | [], _ =>
        obtain ⟨g1, g2⟩ := hE
        exact W.vret hx hb (by rw [hr, g2]) (fun T hTh hW => fin none T trivial rfl rfl hTh hW) h8.2.2 g1
    · rename_i x hst
      cases hy : Nat.beq (x_ty x) 0 with
      | false => rw [hy] at hlf; cases hlf
      | true =>
        rw [hy] at hlf
        cases hlf
        rw [hst] at h3
        match stk, h3 with
        | [v], h3 =>
          obtain ⟨g1, g2⟩ := hE
          have hk := x_ty_ok h3.1
          rw [Nat.eq_of_beq_eq_true hy] at hk
          obtain ⟨z, rfl⟩ := hk
          exact W.iret hx hb (by rw [hr, g2]) (fun T hTh hW => fin (some (.int z)) T h3 rfl rfl hTh hW) h8.2.2 g1
    · rename_i x hst
      cases hy : Nat.beq (x_ty x) 1 with
      | false => rw [hy] at hlf; cases hlf
      | true =>
        rw [hy] at hlf
        cases hlf
        rw [hst] at h3
        match stk, h3 with
        | [v], h3 =>
          obtain ⟨g1, g2⟩ := hE
          have hk := x_ty_ok h3.1
          rw [Nat.eq_of_beq_eq_true hy] at hk
          obtain ⟨z, rfl⟩ := hk
          exact W.lret hx hb (by rw [hr, g2]) (fun T hTh hW => fin (some (.long z)) T h3 rfl rfl hTh hW) h8.2.2 g1
    · rename_i x hst
      cases hy : Nat.beq (x_ty x) 2 with
      | false => rw [hy] at hlf; cases hlf
      | true =>
        rw [hy] at hlf
        cases hlf
        rw [hst] at h3
        match stk, h3 with
        | [v], h3 =>
          obtain ⟨g1, rt, g2, g3⟩ := hE
          have hk := x_ty_ok h3.1
          rw [Nat.eq_of_beq_eq_true hy] at hk
          exact W.aret hx hb (by rw [hr, g2]) g3 hk (fun T hTh hW => fin (some v) T h3 rfl rfl hTh hW) h8.2.2 g1
    · rename_i x hst
      cases hy : x_pkb t.2.2.2.2.1 1 x with
      | false => rw [hy] at hlf; cases hlf
      | true =>
        rw [hy] at hlf
        cases hlf
        rw [hst] at h3
        match stk, h3 with
        | [v], h3 =>
          obtain ⟨g1, g2⟩ := hE
          have hk : v = .int 0 ∨ v = .int 1 := x_pkb_ok h9 h3.1 hy
          rcases hk with rfl | rfl
          · exact W.zret hx hb (by rw [hr, g2]) (by decide) (fun T hTh hW => fin (some (.int 0)) T h3 rfl rfl hTh hW) h8.2.2 g1
          · exact W.zret hx hb (by rw [hr, g2]) (by decide) (fun T hTh hW => fin (some (.int 1)) T h3 rfl rfl hTh hW) h8.2.2 g1
    · cases hlf
theorem x_frm (hT : x_Tab fd PV cl KK I code) : ∀ n, x_Frm fd PV cl KK I code lp l n := by
  intro n
  induction n with
  | zero => intro d M sp t Ls h; cases h
  | succ n ih =>
    intro d M sp t Ls h V sc p e R s m args below meth c D A H0 Q C hd hdl hA hK hPV hret
    unfold x_go at h
    cases hsp : (Nat.beq t.1 sp.1 || Nat.beq t.1 sp.2) with
    | true =>
      rw [hsp] at h
      cases h
      exact hret t (List.mem_singleton.mpr rfl)
    | false =>
    rw [hsp] at h
    simp only [cond_false] at h
    have hE := hT.2.1 M t.1
    split at h
    · rename_i f a b hc
      rw [hc] at hE
      replace hE : x_Snd cl (KK M) (xm_b (I M)) (xm_y (I M)).cls (xm_l (I M)) (xm_y (I M)).name (xm_c (I M)) (xm_s (I M)) t.1 f := hE
      split at h
      · rename_i t' hf
        refine hE C hA hK t [t'] rfl hf (fun t2 h2 => ?_)
        rw [List.mem_singleton] at h2
        subst h2
        exact ih d M sp t2 Ls h C hd hdl hA hK hPV hret
      · rename_i l' hne hf
        refine hE C hA hK t l' rfl hf (fun t2 h2 => ?_)
        obtain ⟨a', ha, hin⟩ := x_each_in h t2 h2
        exact ih d M sp t2 a' ha C hd hdl hA hK hPV (fun t3 h3 => hret t3 (hin _ h3))
      · cases h
    · rename_i f k b hc
      cases h
      exact hret t (List.mem_singleton.mpr rfl)
    · rename_i f M' na hc
      rw [hc] at hE
      obtain ⟨h64, hE⟩ : x_Cl (xm_b (I M)) (xm_y (I M)).cls (xm_l (I M)) (xm_y (I M)).name (xm_c (I M)) (xm_s (I M)) t.1 (I M') na := hE
      cases d with
      | zero => cases h
      | succ d' =>
        simp only at h
        cases hb : x_may_call fd d' t M' na (I M) (I M') (t.2.2.1.take na).reverse (t.2.2.1.drop na) with
        | false => rw [hb] at h; cases h
        | true =>
          rw [hb] at h
          simp only [cond_true] at h
          unfold x_may_call at hb
          simp only [Bool.and_eq_true] at hb
          obtain ⟨b1, b2, b3, b4, b5, b6, b7, b8⟩ := hb
          have b1 := Nat.le_of_ble_eq_true b1
          have b2 := Nat.le_of_ble_eq_true b2
          have b3 := Nat.le_of_ble_eq_true b3
          have b4 := Nat.le_of_ble_eq_true b4
          have b5 := Nat.le_of_ble_eq_true b5
          have b6 := Nat.le_of_ble_eq_true b6
          have b7 := Nat.le_of_ble_eq_true b7
          have key : ∀ (rs : List xS) (ls : List xK), x_go fd code lp I n d' M' (99999, 99999) (0, x_ent 0 (t.2.2.1.take na).reverse, [], t.2.2.2.1, t.2.2.2.2.1, 0, 0) = some rs → x_rets code (I M') M' rs = some ls → (∀ lf ∈ ls, x_Good cl V sc (xm_l (I M)) p l e R s m args below meth c D A H0 Q (x_back t (t.2.2.1.drop na) (I M') lf)) → x_Good cl V sc (xm_l (I M)) p l e R s m args below meth c D A H0 Q t := by
            intro rs ls hls hrs hgo lsl stk H locs hI
            obtain ⟨lv, ws, tys, h1, h2, h3, h4, h5, h6, h7, h8, h9⟩ := hI
            have hspl := x_split na h3
            have hargs := x_all2_rev hspl.1
            have hM := x_met_of hT ih (l := l) b1 (by omega) b5 hls hrs V sc.1 sc.2.1 D ws tys (stk.take na).reverse H.size
              (x_all2_imp (fun a v hh => x_rel_sc rfl rfl hh) hargs)
              ⟨h4.1, ⟨[], by simp⟩, fun k x q hx hq => x_cell_sc rfl rfl (h4.2.2 k x q hx hq)⟩ h9 hPV
            have hlen : stk.length = t.2.2.1.length := (x_all2_len h3).symm
            have hvA : ∀ q : Nat, va_A ws H.size q → A q := by
              intro q hq
              rcases hq with ⟨k, e9, hk⟩ | hq
              · exact h7.2 k _ hk
              · exact hA q (Nat.le_trans h8.1 hq)
            have hrun := hE (e := e) (below := below) C (H := H) (locs := locs) (cells := t.2.2.2.2.2.1) (slots := t.2.2.2.2.2.2) (ls := lsl) (rest := stk.drop na) hM
              (fun a U g mk q => by obtain ⟨q0, q1, qP, qK, qD, qE⟩ := q; exact ⟨q0, q1, qP, va_K.moved (u := U) (U := U.calling g mk a) (Vm.Alike.refl U.vm) qK, qD, qE.same (U := U.calling g mk a) rfl⟩)
              (fun U hU hW => ⟨rfl, by rw [hU], by rw [hU]; exact h6, va_K.moved hW.alike h5, h7.weaken (fun _ _ _ _ => trivial), C.2.2.2.2.2.2.warm hW⟩)
              (by
                by_cases ho : xm_o (I M') = 999
                · exact Or.inl ho
                · refine Or.inr ?_
                  unfold x_rcv at b8
                  rw [x_nb ho] at b8
                  simp only [cond_false] at b8
                  split at b8
                  · rename_i j jb as' has'
                    split at b8
                    · rename_i c9 r9 hcell
                      have e9 := Nat.eq_of_beq_eq_true b8
                      rw [has'] at hargs
                      match hv : (stk.take na).reverse, hargs with
                      | v :: As, hargs =>
                        obtain ⟨a, ee, hq, rfl, hcc⟩ := x_ref h4 hargs.1 hcell
                        obtain ⟨fs, rfl, -, -⟩ := hcc
                        obtain ⟨r, hr1, hr2⟩ := hT.2.2.2.2.1 M' ho
                        rw [← e9] at hr1
                        obtain ⟨cellB, k1, k2, k3⟩ := va_recv h5 h6 hr1 hq
                        exact ⟨a, As, rfl, cellB, k1, k2, by rw [← hr2]; exact k3⟩
                    · cases b8
                  · cases b8)
              (by rw [List.length_reverse, List.length_take, hlen]; omega) rfl rfl (by show d' + 1 ≤ R.frames; omega) (by show 8 + (xm_l (I M') + 11) + 64 * d' ≤ R.locals; omega) h1.1
              (by rw [(x_cats_ok hspl.2).1]; exact b4) ⟨by rw [C.2.2.1]; exact b6, by rw [C.2.2.2.1]; exact b7⟩
            rw [List.reverse_reverse, List.take_append_drop] at hrun
            refine x_after hrun h8 (fun st v T hq => hq.2) (fun q _ h => hvA q h) hvA (fun v st T H1 locs1 hst hTh hal hq hS1 => ?_)
            obtain ⟨⟨lf, hlf, v', ws', tys', ev, hr, hw', hK', hP', hD', htk⟩, hFr⟩ := hq
            cases ev
            obtain ⟨l9, e9⟩ := hw'.2.1
            have e9 : ws'.map Prod.fst = ws.map Prod.fst ++ l9 := e9
            refine hgo lf hlf lsl (v.toList ++ stk.drop na) H1 locs1 ⟨lv, ws', tys', h1, ?_, ?_, ⟨hw'.1, ?_, fun k x q hx hq => x_cell_sc rfl rfl (hw'.2.2 k x q hx hq)⟩, va_K.moved hal.symm hK', by rw [← hTh]; exact hP', hD'.weaken (fun _ q _ h => hvA q.1 h), hS1, htk⟩
            · rw [e9]; exact x_lv_app h2
            · refine x_all2_app (x_all2_imp (fun a v hh => x_rel_sc rfl rfl hh) hr) ?_
              rw [e9]; exact x_stk_app hspl.2
            · obtain ⟨l0, e0⟩ := h4.2.1
              exact ⟨l0 ++ l9, by rw [e9, e0, List.append_assoc]⟩
          split at h
          · rename_i rs hls
            split at h
            · rename_i lf hrs
              refine key rs [lf] hls hrs (fun lf2 h2 => ?_)
              rw [List.mem_singleton] at h2
              subst h2
              exact ih (d' + 1) M sp _ Ls h C hd hdl hA hK hPV hret
            · rename_i ls hne hrs
              refine key rs ls hls hrs (fun lf2 h2 => ?_)
              obtain ⟨a', ha, hin⟩ := x_each_in h _ (List.mem_map_of_mem h2)
              exact ih (d' + 1) M sp _ a' ha C hd hdl hA hK hPV (fun t3 h3 => hret t3 (hin _ h3))
            · cases h
          · cases h
    · rename_i g L b hc
      rw [hc] at hE
      replace hE : x_Snd cl (KK M) (xm_b (I M)) (xm_y (I M)).cls (xm_l (I M)) (xm_y (I M)).name (xm_c (I M)) (xm_s (I M)) t.1 g := hE
      generalize hlp : lp L = lq at h
      obtain ⟨ci, wk, a, ep⟩ := lq
      simp only at h
      split at h
      · rename_i u hwk
        cases hb : x_enter fd d M a ci t u with
        | false => rw [hb] at h; cases h
        | true =>
          rw [hb] at h
          simp only [cond_true] at h
          split at h
          · rename_i l' hg
            split at h
            · rename_i rs hrs
              split at h
              · rename_i ex hex
                unfold x_enter at hb
                simp only [Bool.and_eq_true] at hb
                obtain ⟨c1, c2, c3, c5, c6, c7⟩ := hb
                have c1 := Nat.le_of_ble_eq_true c1
                have c2 := Nat.le_of_ble_eq_true c2
                have hupc : u.1 = t.1 := by
                  unfold x_le at c6
                  simp only [Bool.and_eq_true] at c6
                  exact (Nat.eq_of_beq_eq_true c6.1).symm
                have hexG : ∀ t' ∈ ex, x_Good cl V sc (xm_l (I M)) p l e R s m args below meth c D A H0 Q t' := fun t' ht' => by
                  obtain ⟨a', ha, hin⟩ := x_each_in h t' ht'
                  exact ih d M sp t' a' ha C hd hdl hA hK hPV (fun t3 h3 => hret t3 (hin _ h3))
                intro ls stk H locs hI
                have htk : x_tk t.2.2.2.2.1 V := by
                  obtain ⟨lv, ws, tys, h1, h2, h3, h4, h5, h6, h7, h8, h9⟩ := hI
                  exact h9
                obtain ⟨hlen, -, -, -, -⟩ := hT.2.2.2.2.2 V a 0 0 c3 hPV
                obtain ⟨n0, i0, u1, u2, ⟨q, hq, q1, q2⟩, hIn0⟩ := x_into hlen c6 c7 hI
                have main : ∀ (N : Nat) (U : List Int), x_off a V U → PV U → (∀ k, U[a]? = some k → (q.2 + 1 - k).toNat ≤ N) → x_Good cl U sc (xm_l (I M)) p l e R s m args below meth c D A H0 Q u := by
                  intro N
                  induction N with
                  | zero =>
                    intro U hoff hPU hN ls2 stk2 H2 locs2 hI2
                    have h9 : x_tk u.2.2.2.2.1 U := by
                      obtain ⟨lv, ws, tys, h1, h2, h3, h4, h5, h6, h7, h8, h9⟩ := hI2
                      exact h9
                    obtain ⟨k, z1, z2, z3⟩ := h9 a q hq
                    have := hN k z1
                    omega
                  | succ N ihN =>
                    intro U hoff hPU hN
                    have hKU := hT.2.2.2.1 M (by omega) R s A H0 U sc (Nat.le_trans c1 hd) (Nat.le_trans (Nat.mul_le_mul_left 64 c1) hdl) hPU
                    refine hE C hA hKU u l' hupc hg (fun t1 ht1 => ?_)
                    obtain ⟨a1, ha1, hin1⟩ := x_each_in hrs t1 ht1
                    refine ih d M (t.1, ep) t1 a1 ha1 C hd hdl hA hKU hPU (fun t2 ht2 => ?_)
                    rcases x_loop_in hex t2 (hin1 t2 ht2) with hag | ⟨t', ho, hle', hmem⟩
                    · intro ls2 stk2 H2 locs2 hI2
                      unfold x_again at hag
                      simp only [Bool.and_eq_true] at hag
                      obtain ⟨g1, g2, g3, g4⟩ := hag
                      obtain ⟨hlenU, hs1, hs2, hrel, -⟩ := hT.2.2.2.2.2 U a 0 0 c3 hPU
                      obtain ⟨n, i, w1, w2, ⟨q', hq', q1', q2'⟩, hIn⟩ := x_into hlenU g1 g2 hI2
                      rw [hq] at hq'
                      cases hq'
                      split at g3
                      · rename_i x hx
                        have ex9 := x_eqv_ok g3
                        subst ex9
                        obtain ⟨ad9, hr9⟩ := x_lcl hx w1 hI2
                        have hn9 : U[a + 1]? = some n.toInt := x_tkn hr9
                        rw [hn9] at hs1
                        cases hUa : U[a]? with
                        | none => rw [hUa] at hs1; cases hs1
                        | some k0 =>
                          rw [hUa] at hs1
                          have e7 : n.toInt = k0 + 1 := Option.some.inj hs1
                          have hle9 : a = 20 → i.toInt ≤ n.toInt := fun ea => by
                            subst ea
                            by_cases e2 : ci.2 = 99999
                            · have e3 : x_c2 ci = ci.1 := by unfold x_c2; rw [e2]; rfl
                              rw [e3, w1] at w2
                              cases w2
                              exact Int.le_refl _
                            · have e3 : x_c2 ci = ci.2 := by unfold x_c2; rw [x_nb e2]; rfl
                              rw [x_nb e2] at g4
                              simp only [Nat.beq_refl, Bool.not_false, Bool.and_self, cond_true] at g4
                              split at g4
                              · rename_i x2 hx2
                                rw [e3] at w2
                                obtain ⟨ad8, hr8⟩ := x_lcl hx2 w2 hI2
                                simp only [Bool.or_eq_true] at g4
                                rcases g4 with g4 | g4
                                · have ex8 := x_eqv_ok g4
                                  subst ex8
                                  have := hrel rfl k0 i.toInt hUa (x_tkn hr8)
                                  omega
                                · have ex8 := x_eqv_ok g4
                                  subst ex8
                                  have h23 : U[20 + 3]? = some i.toInt := x_tkn hr8
                                  rw [h23] at hs2
                                  cases hU2 : U[20 + 2]? with
                                  | none => rw [hU2] at hs2; cases hs2
                                  | some i0 =>
                                    rw [hU2] at hs2
                                    have e6 : i.toInt = i0 + 1 := Option.some.inj hs2
                                    have := hrel rfl k0 i0 hUa hU2
                                    omega
                              · cases g4
                          refine x_le_W g1 (ihN (x_vup U a n.toInt i.toInt) (hoff.trans (x_vup_off U a n.toInt i.toInt)) ((hT.2.2.2.2.2 U a n.toInt i.toInt c3 hPU).2.2.2.2 hle9) (fun k2 hk2 => ?_) ls2 stk2 H2 locs2 hIn)
                          rw [x_vup_a hlenU] at hk2
                          cases hk2
                          have := hN k0 hUa
                          omega
                      · cases g3
                    · intro ls2 stk2 H2 locs2 hI2
                      refine x_le_W hle' (hexG t' hmem ls2 stk2 H2 locs2 (x_le_ok hoff.symm hle' (fun _ z => absurd rfl z) (fun _ z => absurd rfl z) (fun j q hj hq => ?_) hI2))
                      exact htk j q (x_out_tk ho j q hj hq)
                have hle0 : a = 20 → i0.toInt ≤ n0.toInt := fun ea => by
                  subst ea
                  by_cases e2 : ci.2 = 99999
                  · have e3 : x_c2 ci = ci.1 := by unfold x_c2; rw [e2]; rfl
                    rw [e3, u1] at u2
                    cases u2
                    exact Int.le_refl _
                  · have e3 : x_c2 ci = ci.2 := by unfold x_c2; rw [x_nb e2]; rfl
                    unfold x_below at c5
                    rw [x_nb e2] at c5
                    simp only [Nat.beq_refl, Bool.not_false, Bool.and_self, cond_true] at c5
                    split at c5
                    · rename_i b b2 hb hb2
                      simp only [decide_eq_true_eq] at c5
                      obtain ⟨n, x, ad, k1, k2, k3, k4, k5⟩ := x_cb_ok hb hI
                      obtain ⟨i, x', ad', m1, m2, m3, m4, m5⟩ := x_cb_ok hb2 hI
                      rw [e3, m1] at u2
                      rw [k1] at u1
                      cases u1
                      cases u2
                      omega
                    · cases c5
                refine x_le_W c6 (main (q.2 + 1 - n0.toInt).toNat (x_vup V a n0.toInt i0.toInt) (x_vup_off V a n0.toInt i0.toInt) ((hT.2.2.2.2.2 V a n0.toInt i0.toInt c3 hPV).2.2.2.2 hle0) (fun k' hk' => ?_) ls stk H locs hIn0)
                rw [x_vup_a hlen] at hk'
                cases hk'
                exact Nat.le_refl _
              · cases h
            · cases h
          · cases h
      · split at h
        · rename_i t' hf
          refine hE C hA hK t [t'] rfl hf (fun t2 h2 => ?_)
          rw [List.mem_singleton] at h2
          subst h2
          exact ih d M sp t2 Ls h C hd hdl hA hK hPV hret
        · rename_i l' hne hf
          refine hE C hA hK t l' rfl hf (fun t2 h2 => ?_)
          obtain ⟨a', ha, hin⟩ := x_each_in h t2 h2
          exact ih d M sp t2 a' ha C hd hdl hA hK hPV (fun t3 h3 => hret t3 (hin _ h3))
        · cases h
    · rename_i f M' na hc
      rw [hc] at hE
      obtain ⟨h64, hE⟩ : x_Cl (xm_b (I M)) (xm_y (I M)).cls (xm_l (I M)) (xm_y (I M)).name (xm_c (I M)) (xm_s (I M)) t.1 (I M') na := hE
      cases d with
      | zero => cases h
      | succ d' =>
        simp only at h
        cases hb : (x_may_call fd d' t M' na (I M) (I M') (t.2.2.1.take na).reverse (t.2.2.1.drop na) && (Nat.beq (xm_o (I M')) 999 && ((t.2.2.1.take na).reverse).all x_num)) with
        | false => rw [hb] at h; cases h
        | true =>
          rw [hb] at h
          simp only [cond_true] at h
          unfold x_may_call at hb
          simp only [Bool.and_eq_true] at hb
          obtain ⟨⟨b1, b2, b3, b4, b5, b6, b7, b8⟩, b9, b10⟩ := hb
          have b1 := Nat.le_of_ble_eq_true b1
          have b2 := Nat.le_of_ble_eq_true b2
          have b3 := Nat.le_of_ble_eq_true b3
          have b4 := Nat.le_of_ble_eq_true b4
          have b5 := Nat.le_of_ble_eq_true b5
          have b6 := Nat.le_of_ble_eq_true b6
          have b7 := Nat.le_of_ble_eq_true b7
          split at h
          · rename_i rs hls
            split at h
            · rename_i lfs hrs
              cases hlg : x_longs lfs with
              | false => rw [hlg] at h; cases h
              | true =>
                rw [hlg] at h
                simp only [cond_true] at h
                have hgo := ih (d' + 1) M sp _ Ls h C hd hdl hA hK hPV hret
                intro lsl stk H locs hI
                obtain ⟨lv, ws, tys, h1, h2, h3, h4, h5, h6, h7, h8, h9⟩ := hI
                have hspl := x_split na h3
                have hargs := x_all2_rev hspl.1
                have hM := x_met_of hT ih (l := l) b1 (by omega) b5 hls hrs V sc.1 sc.2.1 D [] tys (stk.take na).reverse H.size
                  (x_nums_ok (by simpa using b10) hargs) ⟨rfl, ⟨[], rfl⟩, fun k x q hx hq => by simp at hx⟩ h9 hPV
                have hlen : stk.length = t.2.2.1.length := (x_all2_len h3).symm
                have hvA : ∀ q : Nat, va_A [] H.size q → H.size ≤ q := by
                  intro q hq
                  rcases hq with ⟨k, e9, hk⟩ | hq
                  · simp at hk
                  · exact hq
                have hrun := hE (e := e) (below := below) C (H := H) (locs := locs) (cells := t.2.2.2.2.2.1) (slots := t.2.2.2.2.2.2) (ls := lsl) (rest := stk.drop na) hM
                  (fun a U g mk q => by obtain ⟨q0, q1, qP, qK, qD, qE⟩ := q; exact ⟨q0, q1, qP, va_K.moved (u := U) (U := U.calling g mk a) (Vm.Alike.refl U.vm) qK, qD, qE.same (U := U.calling g mk a) rfl⟩)
                  (fun U hU hW => ⟨rfl, by rw [hU], fun k x hx => by simp at hx, va_K.moved hW.alike h5, ⟨fun i j x y hi => by simp at hi, fun k x hx => by simp at hx⟩, C.2.2.2.2.2.2.warm hW⟩)
                  (Or.inl (Nat.eq_of_beq_eq_true b9))
                  (by rw [List.length_reverse, List.length_take, hlen]; omega) rfl rfl (by show d' + 1 ≤ R.frames; omega) (by show 8 + (xm_l (I M') + 11) + 64 * d' ≤ R.locals; omega) h1.1
                  (by rw [(x_cats_ok hspl.2).1]; exact b4) ⟨by rw [C.2.2.1]; exact b6, by rw [C.2.2.2.1]; exact b7⟩
                rw [List.reverse_reverse, List.take_append_drop] at hrun
                refine x_after hrun h8 (fun st v T hq => hq.2) (fun q hq h => absurd (hvA q h) (Nat.not_le.mpr hq)) (fun q h => hA q (Nat.le_trans h8.1 (hvA q h))) (fun v st T H1 locs1 hst hTh hal hq hS1 => ?_)
                obtain ⟨⟨lf, hlf, v', ws', tys', ev, hr, hw', hK', hP', hD', htk⟩, hFr⟩ := hq
                cases ev
                have hl1 := List.all_eq_true.mp hlg lf hlf
                split at hl1
                · rename_i x hx
                  rw [hx] at hr
                  match v, hr with
                  | some v, hr =>
                    have hk := x_ty_ok hr.1
                    rw [Nat.eq_of_beq_eq_true hl1] at hk
                    obtain ⟨z, rfl⟩ := hk
                    refine hgo lsl (.long z :: stk.drop na) H1 locs1 ⟨lv, ws, tys, h1, h2, ⟨x_anyL_ok z, hspl.2⟩, h4, h5, h6.kept (fun k x hx => ?_), h7, hS1, h9⟩
                    have hlt := (h6 k x hx).lt
                    rw [← hTh, hFr.2 x.1 (by rw [hst]; exact hlt) (fun q => absurd (hvA _ q) (Nat.not_le.mpr hlt)), hst]
                  | none, hr => exact hr.elim
                · cases hl1
            · cases h
          · cases h
    · cases h
end X10
end
end
-- part 11
section
noncomputable section
/-! rows of the tables: an instruction's decoding gives its trust -/
theorem x_c {z : Int} {v : Int32} (h : v.toInt = z) : ∀ ad V sc, x_rel ad V sc (0, z, z) (.int v) := fun _ _ _ => ⟨v, rfl, by rw [h]; exact Int.le_refl z, by rw [h]; exact Int.le_refl z⟩
theorem x_cL {z : Int} {v : Int64} (h : v.toInt = z) : ∀ ad V sc, x_rel ad V sc (4, z, z) (.long v) := fun _ _ _ => ⟨v, rfl, by rw [h]; exact Int.le_refl z, by rw [h]; exact Int.le_refl z⟩
theorem x_lin {u v c : Int} (h1 : u ≤ c) (h2 : c ≤ v) (k : Int) : x_min (u * k) (v * k) ≤ c * k ∧ c * k ≤ x_max (u * k) (v * k) := by
  rcases Int.le_total 0 k with hk | hk
  · exact ⟨x_min_l (Int.mul_le_mul_of_nonneg_right h1 hk), x_max_r (Int.mul_le_mul_of_nonneg_right h2 hk)⟩
  · exact ⟨x_min_r (Int.mul_le_mul_of_nonpos_right h2 hk), x_max_l (Int.mul_le_mul_of_nonpos_right h1 hk)⟩
def xF_add (a b : Int × Int) : Option xV := some (x_I (a.1 + b.1) (a.2 + b.2))
def xF_sub (a b : Int × Int) : Option xV := some (x_I (a.1 - b.2) (a.2 - b.1))
def xF_mul (a b : Int × Int) : Option xV := some (x_I (x_min (x_min (a.1 * b.1) (a.2 * b.1)) (x_min (a.1 * b.2) (a.2 * b.2))) (x_max (x_max (a.1 * b.1) (a.2 * b.1)) (x_max (a.1 * b.2) (a.2 * b.2))))
def xF_neg (a : Int × Int) : xV := x_I (-a.2) (-a.1)
def xF_and63 (_ b : Int × Int) : Option xV := bif decide (b.1 = 63) && decide (b.2 = 63) then some (0, 0, 63) else none
def xF_any (_ _ : Int × Int) : Option xV := some x_any
def xF_byte (a : Int × Int) : xV := bif decide (-128 ≤ a.1) && decide (a.2 ≤ 127) then (0, a) else (0, -128, 127)
theorem x_corner {a1 a2 b1 b2 x y : Int} (h1 : a1 ≤ x) (h2 : x ≤ a2) (h3 : b1 ≤ y) (h4 : y ≤ b2) : x_min (x_min (a1 * b1) (a2 * b1)) (x_min (a1 * b2) (a2 * b2)) ≤ x * y ∧ x * y ≤ x_max (x_max (a1 * b1) (a2 * b1)) (x_max (a1 * b2) (a2 * b2)) := by
  obtain ⟨p1, p2⟩ := x_lin h1 h2 b1
  obtain ⟨q1, q2⟩ := x_lin h1 h2 b2
  obtain ⟨r1, r2⟩ := x_lin h3 h4 x
  rw [Int.mul_comm y x, Int.mul_comm b1 x, Int.mul_comm b2 x] at r1 r2
  constructor
  · refine Int.le_trans ?_ r1
    exact x_le_min (x_min_l p1) (x_min_r q1)
  · refine Int.le_trans r2 ?_
    exact x_max_le (x_max_l p2) (x_max_r q2)
section X11
variable {cl : List vw_C} {K : xKx} {cc : ByteArray} {own : String} {nL : Nat} {nm : String} {MC MS pc : Nat}
theorem xr_iconst {n z : Int} {v : Int32} (d : decode cc pc = .ok (.iconst n, 1)) (hv : Int32.ofInt n = v) (hz : v.toInt = z) : x_Snd cl K cc own nL nm MC MS pc (xi_push (0, z, z) (pc + 1)) := xi_push_ok (fun S => fun k => lv_iconst S.1 S.2.1 d hv k) (x_c hz)
theorem xr_bipush {n z : Int} {v : Int32} (d : decode cc pc = .ok (.bipush n, 2)) (hv : (Int8.ofInt n).toInt32 = v) (hz : v.toInt = z) : x_Snd cl K cc own nL nm MC MS pc (xi_push (0, z, z) (pc + 2)) := xi_push_ok (fun S => fun k => lv_bipush S.1 S.2.1 d hv k) (x_c hz)
theorem xr_sipush {n z : Int} {v : Int32} (d : decode cc pc = .ok (.sipush n, 3)) (hv : (Int16.ofInt n).toInt32 = v) (hz : v.toInt = z) : x_Snd cl K cc own nL nm MC MS pc (xi_push (0, z, z) (pc + 3)) := xi_push_ok (fun S => fun k => lv_sipush S.1 S.2.1 d hv k) (x_c hz)
theorem xr_ldc {ix : Nat} {z : Int} {v : Int32} (d : decode cc pc = .ok (.ldc ix, 2)) (hw : Cond.constant own ix v ∈ x_tbl) (hz : v.toInt = z) : x_Snd cl K cc own nL nm MC MS pc (xi_push (0, z, z) (pc + 2)) := xi_push_ok (fun S => fun k => lv_ldc S.1 S.2.1 S.2.2.2.1 (S.2.2.2.2 _ hw) d k) (x_c hz)
theorem xr_ldcw {ix : Nat} {z : Int} {v : Int32} (d : decode cc pc = .ok (.ldc_w ix, 3)) (hw : Cond.constant own ix v ∈ x_tbl) (hz : v.toInt = z) : x_Snd cl K cc own nL nm MC MS pc (xi_push (0, z, z) (pc + 3)) := xi_push_ok (fun S => fun k => lv_ldcw S.1 S.2.1 S.2.2.2.1 (S.2.2.2.2 _ hw) d k) (x_c hz)
theorem xr_ldc2 {ix : Nat} {z : Int} {v : Int64} (d : decode cc pc = .ok (.ldc2_w ix, 3)) (hw : Cond.constantLong own ix v ∈ x_tbl) (hz : v.toInt = z) : x_Snd cl K cc own nL nm MC MS pc (xi_push (4, z, z) (pc + 3)) := xi_push_ok (fun S => fun k => lv_ldc2 S.1 S.2.1 S.2.2.2.1 (S.2.2.2.2 _ hw) d k) (x_cL hz)
theorem xr_lconst {n : Fin 2} {z : Int} {v : Int64} (d : decode cc pc = .ok (.lconst n, 1)) (hv : Int64.ofNat n = v) (hz : v.toInt = z) : x_Snd cl K cc own nL nm MC MS pc (xi_push (4, z, z) (pc + 1)) := xi_push_ok (fun S => fun k => lv_lconst S.1 S.2.1 d hv k) (x_cL hz)
theorem xr_null (d : decode cc pc = .ok (.aconst_null, 1)) : x_Snd cl K cc own nL nm MC MS pc (xi_push (2, 0, 0) (pc + 1)) := xi_push_ok (x := (2, 0, 0)) (v := .null) (fun S => fun k => lv_null S.1 S.2.1 d k) (fun _ _ _ => rfl)
theorem xr_iload_n {i : Fin 4} (d : decode cc pc = .ok (.iload_n i, 1)) : x_Snd cl K cc own nL nm MC MS pc (xi_load i 0 (pc + 1)) := xi_load_ok (fun S => fun hl hk k => by obtain ⟨n, rfl⟩ := hk; exact lv_iload_n S.1 S.2.1 d rfl hl k)
theorem xr_iload {i : Nat} (d : decode cc pc = .ok (.iload i, 2)) : x_Snd cl K cc own nL nm MC MS pc (xi_load i 0 (pc + 2)) := xi_load_ok (fun S => fun hl hk k => by obtain ⟨n, rfl⟩ := hk; exact lv_iload S.1 S.2.1 d hl k)
theorem xr_lload_n {i : Fin 4} (d : decode cc pc = .ok (.lload_n i, 1)) : x_Snd cl K cc own nL nm MC MS pc (xi_load i 1 (pc + 1)) := xi_load_ok (fun S => fun hl hk k => by obtain ⟨n, rfl⟩ := hk; exact lv_lload_n S.1 S.2.1 d rfl hl k)
theorem xr_lload {i : Nat} (d : decode cc pc = .ok (.lload i, 2)) : x_Snd cl K cc own nL nm MC MS pc (xi_load i 1 (pc + 2)) := xi_load_ok (fun S => fun hl hk k => by obtain ⟨n, rfl⟩ := hk; exact lv_lload S.1 S.2.1 d hl k)
theorem xr_aload_n {i : Fin 4} (d : decode cc pc = .ok (.aload_n i, 1)) : x_Snd cl K cc own nL nm MC MS pc (xi_load i 2 (pc + 1)) := xi_load_ok (fun S => fun hl hk k => by rcases hk with rfl | ⟨a, rfl⟩; exact lv_aload_nN S.1 S.2.1 d rfl hl k; exact lv_aload_n S.1 S.2.1 d rfl hl k)
theorem xr_aload {i : Nat} (d : decode cc pc = .ok (.aload i, 2)) : x_Snd cl K cc own nL nm MC MS pc (xi_load i 2 (pc + 2)) := xi_load_ok (fun S => fun hl hk k => by rcases hk with rfl | ⟨a, rfl⟩; exact lv_aloadN S.1 S.2.1 d hl k; exact lv_aload S.1 S.2.1 d hl k)
theorem xr_istore_n {i : Fin 4} (d : decode cc pc = .ok (.istore_n i, 1)) (hn : (i : Nat) < nL) : x_Snd cl K cc own nL nm MC MS pc (xi_stor i 0 (pc + 1)) := xi_stor_ok (fun S => fun hl hk k => by obtain ⟨n, rfl⟩ := hk; exact lv_istore_n S.1 S.2.1 d rfl hl hn rfl k)
theorem xr_istore {i : Nat} (d : decode cc pc = .ok (.istore i, 2)) (hn : i < nL) : x_Snd cl K cc own nL nm MC MS pc (xi_stor i 0 (pc + 2)) := xi_stor_ok (fun S => fun hl hk k => by obtain ⟨n, rfl⟩ := hk; exact lv_istore S.1 S.2.1 d hl hn rfl k)
theorem xr_lstore_n {i : Fin 4} (d : decode cc pc = .ok (.lstore_n i, 1)) (hn : (i : Nat) + 1 < nL) : x_Snd cl K cc own nL nm MC MS pc (xi_stor i 1 (pc + 1)) := xi_stor_ok (fun S => fun hl hk k => by obtain ⟨n, rfl⟩ := hk; exact lv_lstore_n S.1 S.2.1 d rfl hl hn rfl k)
theorem xr_lstore {i : Nat} (d : decode cc pc = .ok (.lstore i, 2)) (hn : i + 1 < nL) : x_Snd cl K cc own nL nm MC MS pc (xi_stor i 1 (pc + 2)) := xi_stor_ok (fun S => fun hl hk k => by obtain ⟨n, rfl⟩ := hk; exact lv_lstore S.1 S.2.1 d hl hn rfl k)
theorem xr_astore_n {i : Fin 4} (d : decode cc pc = .ok (.astore_n i, 1)) (hn : (i : Nat) < nL) : x_Snd cl K cc own nL nm MC MS pc (xi_stor i 2 (pc + 1)) := xi_stor_ok (fun S => fun hl hk k => by rcases hk with rfl | ⟨a, rfl⟩; exact lv_astore_nN S.1 S.2.1 d rfl hl hn rfl k; exact lv_astore_n S.1 S.2.1 d rfl hl hn rfl k)
theorem xr_astore {i : Nat} (d : decode cc pc = .ok (.astore i, 2)) (hn : i < nL) : x_Snd cl K cc own nL nm MC MS pc (xi_stor i 2 (pc + 2)) := xi_stor_ok (fun S => fun hl hk k => by rcases hk with rfl | ⟨a, rfl⟩; exact lv_astoreN S.1 S.2.1 d hl hn rfl k; exact lv_astore S.1 S.2.1 d hl hn rfl k)
theorem xr_iinc {i : Nat} {n : Int} (d : decode cc pc = .ok (.iinc i n, 3)) (hn : i < nL) (hz : -2147483648 ≤ n ∧ n ≤ 2147483647) : x_Snd cl K cc own nL nm MC MS pc (xi_inc i n (pc + 3)) := xi_inc_ok hz (fun S => fun hl hk k => lv_iinc S.1 S.2.1 d hl hk rfl hn rfl k)
theorem xr_goto {off : Int} {tg : Nat} (d : decode cc pc = .ok (.goto off, 3)) (ht : (pc : Int) + off = (tg : Int)) : x_Snd cl K cc own nL nm MC MS pc (xi_goto tg) := xi_goto_ok (fun S => fun k => lv_goto S.1 S.2.1 d ht k)
theorem xr_iadd (d : decode cc pc = .ok (.iadd, 1)) : x_Snd cl K cc own nL nm MC MS pc (xi_bin xF_add (pc + 1)) := xi_bin_ok (g := fun x y => x + y) (fun _ => True) (fun x y _ => (fun S => fun k => lv_iadd S.1 S.2.1 d k)) (fun a b z x y h h1 h2 h3 h4 => ⟨trivial, fun ad V sc => by cases h; exact x_I_ok (Int32.toInt_add x y) (by omega) (by omega)⟩)
theorem xr_isub (d : decode cc pc = .ok (.isub, 1)) : x_Snd cl K cc own nL nm MC MS pc (xi_bin xF_sub (pc + 1)) := xi_bin_ok (g := fun x y => x - y) (fun _ => True) (fun x y _ => (fun S => fun k => lv_isub S.1 S.2.1 d k)) (fun a b z x y h h1 h2 h3 h4 => ⟨trivial, fun ad V sc => by cases h; exact x_I_ok (Int32.toInt_sub x y) (by omega) (by omega)⟩)
theorem xr_imul (d : decode cc pc = .ok (.imul, 1)) : x_Snd cl K cc own nL nm MC MS pc (xi_bin xF_mul (pc + 1)) := xi_bin_ok (g := fun x y => x * y) (fun _ => True) (fun x y _ => (fun S => fun k => lv_imul S.1 S.2.1 d k)) (fun a b z x y h h1 h2 h3 h4 => ⟨trivial, fun ad V sc => by cases h; exact x_I_ok (Int32.toInt_mul x y) (x_corner h1 h2 h3 h4).1 (x_corner h1 h2 h3 h4).2⟩)
theorem xr_iand (d : decode cc pc = .ok (.iand, 1)) : x_Snd cl K cc own nL nm MC MS pc (xi_bin xF_and63 (pc + 1)) := xi_bin_ok (g := fun x y => x &&& y) (fun _ => True) (fun x y _ => (fun S => fun k => lv_iand S.1 S.2.1 d k)) (fun a b z x y h h1 h2 h3 h4 => ⟨trivial, fun ad V sc => by
  unfold xF_and63 at h
  cases hb : (decide (b.1 = 63) && decide (b.2 = 63)) with
  | false => rw [hb] at h; cases h
  | true =>
    rw [hb] at h
    cases h
    simp only [Bool.and_eq_true, decide_eq_true_eq] at hb
    have e : y = 63 := Int32.toInt_inj.mp (by rw [show (63 : Int32).toInt = 63 from by decide]; omega)
    subst e
    obtain ⟨j, hj, ej⟩ := pk_andE x (m := 63) 6 (by decide)
    have e2 : (x &&& 63).toInt = j := by rw [ej]; exact nI_toInt (by omega)
    exact ⟨_, rfl, by show (0 : Int) ≤ _; omega, by show _ ≤ (63 : Int); omega⟩⟩)
theorem xr_ishr (d : decode cc pc = .ok (.ishr, 1)) : x_Snd cl K cc own nL nm MC MS pc (xi_bin xF_any (pc + 1)) := xi_bin_ok (g := fun x y => x >>> (y &&& 31)) (fun _ => True) (fun x y _ => (fun S => fun k => lv_ishr S.1 S.2.1 d k)) (fun a b z x y h h1 h2 h3 h4 => ⟨trivial, fun ad V sc => by cases h; exact x_any_ok _⟩)
theorem xr_ineg (d : decode cc pc = .ok (.ineg, 1)) : x_Snd cl K cc own nL nm MC MS pc (xi_un xF_neg (pc + 1)) := xi_un_ok (g := fun x => .int (-x)) (fun x => (fun S => fun k => lv_ineg S.1 S.2.1 d k)) (fun a x h1 h2 ad V sc => x_I_ok (Int32.toInt_neg x) (by omega) (by omega))
theorem xr_i2b (d : decode cc pc = .ok (.i2b, 1)) : x_Snd cl K cc own nL nm MC MS pc (xi_un xF_byte (pc + 1)) := xi_un_ok (g := fun x => .int x.toInt8.toInt32) (fun x => (fun S => fun k => lv_i2b S.1 S.2.1 d rfl k)) (fun a x h1 h2 ad V sc => by
  have h := (x_nrw_ok (ad := ad) (V := V) (sc := sc) (kd := 2) (x := (0, a)) (b := a) (n := x) ⟨x, rfl, h1, h2⟩ h1 h2).1
  unfold x_nrw at h
  unfold xF_byte
  cases hb : (decide (-128 ≤ a.1) && decide (a.2 ≤ 127)) with
  | true => rw [hb] at h; exact h
  | false => rw [hb] at h; exact h)
theorem xr_i2l (d : decode cc pc = .ok (.i2l, 1)) : x_Snd cl K cc own nL nm MC MS pc (xi_i2l (pc + 1)) := xi_i2l_ok (fun x => (fun S => fun k => lv_i2l S.1 S.2.1 d rfl k))
theorem xr_lcmp (d : decode cc pc = .ok (.lcmp, 1)) : x_Snd cl K cc own nL nm MC MS pc (xi_lcmp (pc + 1)) := xi_lcmp_ok (fun x y => (fun S => fun k => W.lcmp S.1 S.2.1 d k))
def xF_addL (a b : Int × Int) : Option xV := some (x_J (a.1 + b.1) (a.2 + b.2))
def xF_subL (a b : Int × Int) : Option xV := some (x_J (a.1 - b.2) (a.2 - b.1))
theorem xr_ladd (d : decode cc pc = .ok (.ladd, 1)) : x_Snd cl K cc own nL nm MC MS pc (xi_binL xF_addL (pc + 1)) := xi_binL_ok (g := fun x y => x + y) (fun _ => True) (fun x y _ => (fun S => fun k => lv_ladd S.1 S.2.1 d k)) (fun a b z x y h h1 h2 h3 h4 => ⟨trivial, fun ad V sc => by cases h; exact x_J_ok (Int64.toInt_add x y) (by omega) (by omega)⟩)
theorem xr_lsub (d : decode cc pc = .ok (.lsub, 1)) : x_Snd cl K cc own nL nm MC MS pc (xi_binL xF_subL (pc + 1)) := xi_binL_ok (g := fun x y => x - y) (fun _ => True) (fun x y _ => (fun S => fun k => lv_lsub S.1 S.2.1 d k)) (fun a b z x y h h1 h2 h3 h4 => ⟨trivial, fun ad V sc => by cases h; exact x_J_ok (Int64.toInt_sub x y) (by omega) (by omega)⟩)
theorem x_le32 {x y : Int32} : x ≤ y ↔ x.toInt ≤ y.toInt := Int32.le_iff_toInt_le
theorem x_lt32 {x y : Int32} : x < y ↔ x.toInt < y.toInt := Int32.lt_iff_toInt_lt
theorem x_eq32 {x y : Int32} : x = y ↔ x.toInt = y.toInt := Int32.toInt_inj.symm
theorem xr_icmpeq {off : Int} {tg : Nat} (d : decode cc pc = .ok (.if_icmp .eq off, 3)) (ht : (pc : Int) + off = (tg : Int)) : x_Snd cl K cc own nL nm MC MS pc (xi_if2 0 tg (pc + 3)) := xi_if2_ok (k := 0) (fun S => fun kt kf => lv_icmp_eq S.1 S.2.1 d ht (fun h => kt (x_eq32.mp h)) (fun h => kf (fun q => h (x_eq32.mpr q))))
theorem xr_icmpne {off : Int} {tg : Nat} (d : decode cc pc = .ok (.if_icmp .ne off, 3)) (ht : (pc : Int) + off = (tg : Int)) : x_Snd cl K cc own nL nm MC MS pc (xi_if2 1 tg (pc + 3)) := xi_if2_ok (k := 1) (fun S => fun kt kf => lv_icmp_ne S.1 S.2.1 d ht (fun h => kt (fun q => h (x_eq32.mpr q))) (fun h => kf (fun q => q (x_eq32.mp h))))
theorem xr_icmplt {off : Int} {tg : Nat} (d : decode cc pc = .ok (.if_icmp .lt off, 3)) (ht : (pc : Int) + off = (tg : Int)) : x_Snd cl K cc own nL nm MC MS pc (xi_if2 2 tg (pc + 3)) := xi_if2_ok (k := 2) (fun S => fun kt kf => lv_icmp_lt S.1 S.2.1 d ht (fun h => kt (x_lt32.mp h)) (fun h => kf (fun q => h (x_lt32.mpr q))))
theorem xr_icmpge {off : Int} {tg : Nat} (d : decode cc pc = .ok (.if_icmp .ge off, 3)) (ht : (pc : Int) + off = (tg : Int)) : x_Snd cl K cc own nL nm MC MS pc (xi_if2 3 tg (pc + 3)) := xi_if2_ok (k := 3) (fun S => fun kt kf => lv_icmp_ge S.1 S.2.1 d ht (fun h => kt (x_le32.mp h)) (fun h => kf (fun q => h (x_le32.mpr q))))
theorem xr_icmpgt {off : Int} {tg : Nat} (d : decode cc pc = .ok (.if_icmp .gt off, 3)) (ht : (pc : Int) + off = (tg : Int)) : x_Snd cl K cc own nL nm MC MS pc (xi_if2 4 tg (pc + 3)) := xi_if2_ok (k := 4) (fun S => fun kt kf => lv_icmp_gt S.1 S.2.1 d ht (fun h => kt (x_lt32.mp h)) (fun h => kf (fun q => h (x_lt32.mpr q))))
theorem xr_icmple {off : Int} {tg : Nat} (d : decode cc pc = .ok (.if_icmp .le off, 3)) (ht : (pc : Int) + off = (tg : Int)) : x_Snd cl K cc own nL nm MC MS pc (xi_if2 5 tg (pc + 3)) := xi_if2_ok (k := 5) (fun S => fun kt kf => lv_icmp_le S.1 S.2.1 d ht (fun h => kt (x_le32.mp h)) (fun h => kf (fun q => h (x_le32.mpr q))))
theorem x_z : (0 : Int32).toInt = 0 := by decide
theorem x_eq0 {x : Int32} : x = 0 ↔ x.toInt = 0 := by rw [x_eq32, x_z]
theorem x_lt0 {x : Int32} : x < 0 ↔ x.toInt < 0 := by rw [x_lt32, x_z]
theorem x_gt0 {x : Int32} : 0 < x ↔ 0 < x.toInt := by rw [x_lt32, x_z]
theorem x_le0 {x : Int32} : x ≤ 0 ↔ x.toInt ≤ 0 := by rw [x_le32, x_z]
theorem x_ge0 {x : Int32} : 0 ≤ x ↔ 0 ≤ x.toInt := by rw [x_le32, x_z]
theorem xr_ifeq {off : Int} {tg : Nat} (d : decode cc pc = .ok (.ifCond .eq off, 3)) (ht : (pc : Int) + off = (tg : Int)) : x_Snd cl K cc own nL nm MC MS pc (xi_if1 0 tg (pc + 3)) := xi_if1_ok (k := 0) (fun S => fun kt kf => lv_if_eq S.1 S.2.1 d ht (fun h => kt (x_eq0.mp h)) (fun h => kf (fun q => h (x_eq0.mpr q))))
theorem xr_ifne {off : Int} {tg : Nat} (d : decode cc pc = .ok (.ifCond .ne off, 3)) (ht : (pc : Int) + off = (tg : Int)) : x_Snd cl K cc own nL nm MC MS pc (xi_if1 1 tg (pc + 3)) := xi_if1_ok (k := 1) (fun S => fun kt kf => lv_if_ne S.1 S.2.1 d ht (fun h => kt (fun q => h (x_eq0.mpr q))) (fun h => kf (fun q => q (x_eq0.mp h))))
theorem xr_iflt {off : Int} {tg : Nat} (d : decode cc pc = .ok (.ifCond .lt off, 3)) (ht : (pc : Int) + off = (tg : Int)) : x_Snd cl K cc own nL nm MC MS pc (xi_if1 2 tg (pc + 3)) := xi_if1_ok (k := 2) (fun S => fun kt kf => lv_if_lt S.1 S.2.1 d ht (fun h => kt (x_lt0.mp h)) (fun h => kf (fun q => h (x_lt0.mpr q))))
theorem xr_ifge {off : Int} {tg : Nat} (d : decode cc pc = .ok (.ifCond .ge off, 3)) (ht : (pc : Int) + off = (tg : Int)) : x_Snd cl K cc own nL nm MC MS pc (xi_if1 3 tg (pc + 3)) := xi_if1_ok (k := 3) (fun S => fun kt kf => lv_if_ge S.1 S.2.1 d ht (fun h => kt (x_ge0.mp h)) (fun h => kf (fun q => h (x_ge0.mpr q))))
theorem xr_ifgt {off : Int} {tg : Nat} (d : decode cc pc = .ok (.ifCond .gt off, 3)) (ht : (pc : Int) + off = (tg : Int)) : x_Snd cl K cc own nL nm MC MS pc (xi_if1 4 tg (pc + 3)) := xi_if1_ok (k := 4) (fun S => fun kt kf => lv_if_gt S.1 S.2.1 d ht (fun h => kt (x_gt0.mp h)) (fun h => kf (fun q => h (x_gt0.mpr q))))
theorem xr_ifle {off : Int} {tg : Nat} (d : decode cc pc = .ok (.ifCond .le off, 3)) (ht : (pc : Int) + off = (tg : Int)) : x_Snd cl K cc own nL nm MC MS pc (xi_if1 5 tg (pc + 3)) := xi_if1_ok (k := 5) (fun S => fun kt kf => lv_if_le S.1 S.2.1 d ht (fun h => kt (x_le0.mp h)) (fun h => kf (fun q => h (x_le0.mpr q))))
theorem xr_dup (d : decode cc pc = .ok (.dup, 1)) : x_Snd cl K cc own nL nm MC MS pc (xi_stk xf_dup (pc + 1)) := xf_dup_ok (fun v h => (fun S => fun k => lv_dup S.1 S.2.1 d h k))
theorem xr_pop (d : decode cc pc = .ok (.pop, 1)) : x_Snd cl K cc own nL nm MC MS pc (xi_stk xf_pop (pc + 1)) := xf_pop_ok (fun v h => (fun S => fun k => lv_pop S.1 S.2.1 d h k))
theorem xr_dup2 (d : decode cc pc = .ok (.dup2, 1)) : x_Snd cl K cc own nL nm MC MS pc (xi_stk xf_dup2 (pc + 1)) := xf_dup2_ok (fun v u h h' => (fun S => fun k => lv_dup2_11 S.1 S.2.1 d h h' k))
theorem xr_dup_x1 (d : decode cc pc = .ok (.dup_x1, 1)) : x_Snd cl K cc own nL nm MC MS pc (xi_stk xf_dupx1 (pc + 1)) := xf_dupx1_ok (fun v u h h' => (fun S => fun k => lv_dup_x1 S.1 S.2.1 d h h' k))
theorem xr_dup_x2 (d : decode cc pc = .ok (.dup_x2, 1)) : x_Snd cl K cc own nL nm MC MS pc (xi_stk xf_dupx2 (pc + 1)) := xf_dupx2_ok (fun v u w h h' h'' => (fun S => fun k => lv_dup_x2 S.1 S.2.1 d h h' h'' k))
theorem xr_iaload (d : decode cc pc = .ok (.iaload, 1)) : x_Snd cl K cc own nL nm MC MS pc (xi_ald false (pc + 1)) := xi_ald_ok (fun kd hk => by
  have e := Nat.eq_of_beq_eq_true hk
  subst e
  intro p l e R s m args below meth c C H locs cells slots Q ls rest D tys ws a q0 t0 n cA f i h1 h2 h3 h4 h5 k
  exact va_iald C.1.1 C.1.2.1 h1 h2 _ _ h3 h4 h5 d k)
theorem xr_baload (d : decode cc pc = .ok (.baload, 1)) : x_Snd cl K cc own nL nm MC MS pc (xi_ald true (pc + 1)) := xi_ald_ok (fun kd hk => by
  unfold x_akd at hk
  simp only [Bool.or_eq_true] at hk
  rcases hk with hk | hk
  · have e := Nat.eq_of_beq_eq_true hk
    subst e
    intro p l e R s m args below meth c C H locs cells slots Q ls rest D tys ws a q0 t0 n cA f i h1 h2 h3 h4 h5 k
    exact va_bald C.1.1 C.1.2.1 h1 h2 _ _ h3 h4 h5 d k
  · have e := Nat.eq_of_beq_eq_true hk
    subst e
    intro p l e R s m args below meth c C H locs cells slots Q ls rest D tys ws a q0 t0 n cA f i h1 h2 h3 h4 h5 k
    exact va_zald C.1.1 C.1.2.1 h1 h2 _ _ h3 h4 h5 d k)
theorem xr_iastore (d : decode cc pc = .ok (.iastore, 1)) : x_Snd cl K cc own nL nm MC MS pc (xi_ast false (pc + 1)) := xi_ast_ok (fun kd hk => by
  have e := Nat.eq_of_beq_eq_true hk
  subst e
  intro p l e R s m args below meth c C H H0 locs cells slots Q ls rest D A tys ws a q0 t0 n cA f i x h1 h2 h6 h7 h3 h4 h5 k
  exact va_iast C.1.1 C.1.2.1 h1 h2 h6 h7 _ _ h3 h4 h5 d k)
theorem xr_bastore (d : decode cc pc = .ok (.bastore, 1)) : x_Snd cl K cc own nL nm MC MS pc (xi_ast true (pc + 1)) := xi_ast_ok (fun kd hk => by
  unfold x_akd at hk
  simp only [Bool.or_eq_true] at hk
  rcases hk with hk | hk
  · have e := Nat.eq_of_beq_eq_true hk
    subst e
    intro p l e R s m args below meth c C H H0 locs cells slots Q ls rest D A tys ws a q0 t0 n cA f i x h1 h2 h6 h7 h3 h4 h5 k
    exact va_bast C.1.1 C.1.2.1 h1 h2 h6 h7 _ _ h3 h4 h5 d k
  · have e := Nat.eq_of_beq_eq_true hk
    subst e
    intro p l e R s m args below meth c C H H0 locs cells slots Q ls rest D A tys ws a q0 t0 n cA f i x h1 h2 h6 h7 h3 h4 h5 k
    exact va_zast C.1.1 C.1.2.1 h1 h2 h6 h7 _ _ h3 h4 h5 d k)
theorem xr_aaload (d : decode cc pc = .ok (.aaload, 1)) : x_Snd cl K cc own nL nm MC MS pc (xi_aald (pc + 1)) := xi_aald_ok (fun C => fun h0 h1 h2 h3 h4 h5 k => x_aald C.1.1 C.1.2.1 h1 h2 _ _ h0 h3 h4 h5 d k)
theorem xr_aastore (d : decode cc pc = .ok (.aastore, 1)) : x_Snd cl K cc own nL nm MC MS pc (xi_aast (pc + 1)) := xi_aast_ok (fun C => fun h1 h2 h3 h4 h5 h6 h7 h8 h9 k => va_astq C.1.1 C.1.2.1 h1 h2 h3 h4 _ _ _ _ h5 h6 h7 h8 h9 d k)
theorem xr_alen (d : decode cc pc = .ok (.arraylength, 1)) : x_Snd cl K cc own nL nm MC MS pc (xi_alen (pc + 1)) := xi_alen_ok (fun C => fun h1 h2 h3 h4 k => va_alen C.1.1 C.1.2.1 h1 h2 _ _ h3 h4 rfl d k)
end X11
end
end
-- part 12
section
noncomputable section
/-! rows that need the classes' words -/
theorem x_fit_int : ∀ v, x_pk 0 v → narrow .int v = v ∧ fits .int v = true := fun v h => by obtain ⟨n, rfl⟩ := h; exact ⟨rfl, rfl⟩
theorem x_fit_bool : ∀ v, x_pk 1 v → narrow .boolean v = v ∧ fits .boolean v = true := fun v h => by
  rcases h with rfl | rfl
  · exact ⟨by decide, by decide⟩
  · exact ⟨by decide, by decide⟩
theorem x_fit_obj {C : String} : ∀ v, x_pk 2 v → narrow (.object C) v = v ∧ fits (.object C) v = true := fun v h => by
  rcases h with rfl | ⟨a, rfl⟩
  · exact ⟨rfl, rfl⟩
  · exact ⟨rfl, rfl⟩
theorem x_fit_arr {t : FieldType} : ∀ v, x_pk 2 v → narrow (.array t) v = v ∧ fits (.array t) v = true := fun v h => by
  rcases h with rfl | ⟨a, rfl⟩
  · exact ⟨rfl, rfl⟩
  · exact ⟨rfl, rfl⟩
/-- a new object's fields: 0 a number, 1 a reference -/
def x_fv (b : Nat) : Value := match b with
  | 0 => .int 0
  | _ => .null
def x_fa (b : Nat) : xV := match b with
  | 0 => (0, 0, 0)
  | _ => (2, 0, 0)
def x_ovs : Nat → List Nat → xA
  | _, [] => []
  | i, b :: r => (i, x_fa b) :: x_ovs (i + 1) r
def x_nc (ci : Nat) (ks : List Nat) : xC := (0, ci, ks.length, (0, 0, 0), x_ovs 0 ks)
theorem x_fa_ok {ad : List Nat} {V : List Int} {sc : Nat × Nat × List Nat} (b : Nat) : x_rel ad V sc (x_fa b) (x_fv b) := by
  unfold x_fa x_fv
  split
  · exact ⟨0, rfl, by show (0 : Int) ≤ Int32.toInt 0; decide, by show Int32.toInt 0 ≤ (0 : Int); decide⟩
  · exact rfl
theorem x_ovs_ok : ∀ (ks : List Nat) (i k : Nat) (b : Nat), ks[k]? = some b → x_get (0, 0, 0) (x_ovs i ks) (i + k) = x_fa b
  | [], _, _, _, h => by cases h
  | c :: r, i, 0, b, h => by
    cases h
    simp [x_ovs, x_get_cons]
  | c :: r, i, k + 1, b, h => by
    simp only [x_ovs, x_get_cons]
    rw [x_nb (by omega : i ≠ i + (k + 1))]
    have := x_ovs_ok r (i + 1) k b (by simpa using h)
    rw [show i + (k + 1) = i + 1 + k by omega]
    exact this
theorem x_nc_ok {cl : List vw_C} {ci : Nat} {ks : List Nat} : ∀ ad V sc tys, x_cell cl ad V sc tys (x_nc ci ks) (.inr (ci, ks.map x_fv)) := fun ad V sc tys =>
  ⟨ks.map x_fv, rfl, List.length_map _, fun k hk => by
    have hk : k < ks.length := hk
    have h := x_ovs_ok ks 0 k ks[k] (List.getElem?_eq_getElem hk)
    rw [Nat.zero_add] at h
    refine ⟨x_fv ks[k], by rw [List.getElem?_map, List.getElem?_eq_getElem hk]; rfl, ?_⟩
    show x_rel ad V sc (x_get (0, 0, 0) (x_ovs 0 ks) k) _
    rw [h]
    exact x_fa_ok _⟩
def xi_oi (nx : Nat) : xS → Option (List xS) := fun t => match t.2.2.1 with
  | (1, _, _) :: r => bif Nat.ble (x_cats r) 8 then some [(nx, t.2.1, r, t.2.2.2)] else none
  | _ => none
section X12
variable {cl : List vw_C} {K : xKx} {cc : ByteArray} {own : String} {nL : Nat} {nm : String} {MC MS pc : Nat}
theorem xr_getf {ci k ix N : Nat} {C : String} {T : u_T} (hc : cl[ci]? = some (C, T, N)) (hin : ∀ w ∈ u_ws C T N, w ∈ x_tbl) (hk : k < N) (hw : Cond.fieldLink own ix (T k).1 (T k).2.1 (T k).2.2.1 ∈ x_tbl) (d : decode cc pc = .ok (.getfield ix, 3)) : x_Snd cl K cc own nL nm MC MS pc (xi_getf ci k (pc + 3)) := xi_getf_ok (by
  intro p l e R s m args below meth c C1 H locs cells slots Q ls rest D tys ws a q0 fs v h1 h2 h3 h4 kk
  exact va_get C1.1.1 C1.1.2.1 C1.1.2.2.2.2 hin C1.1.2.2.2.1 h1 h2 q0 h3 hc k hk (C1.1.2.2.2.2 _ hw) (fun _ h => h) h4 d kk)
theorem xr_putf {ci k ix N fk : Nat} {C : String} {T : u_T} {ty0 : Nat → FieldType} {ty : FieldType} (hc : cl[ci]? = some (C, T, N)) (hin : ∀ w ∈ u_ws C T N, w ∈ x_tbl) (hty : ∀ k, k < N → parseFieldDescriptor (T k).2.2.1 = some (ty0 k)) (hnm : ∀ a, a < N → ∀ b, b < N → a ≠ b → (T a).2.1 ≠ (T b).2.1) (hk : k < N) (hw : Cond.fieldLink own ix (T k).1 (T k).2.1 (T k).2.2.1 ∈ x_tbl) (hfin : (T k).2.2.2 = false) (hd : ty0 k = ty) (hv : ∀ v, x_pk fk v → narrow ty v = v ∧ fits ty v = true) (d : decode cc pc = .ok (.putfield ix, 3)) : x_Snd cl K cc own nL nm MC MS pc (xi_putf ci k fk (pc + 3)) := xi_putf_ok (by
  intro p l e R s m args below meth c C1 H H0 locs cells slots Q ls rest D A tys ws a q0 fs v h1 h2 h3 h4 h5 h6 h7 kk
  exact va_put C1.1.1 C1.1.2.1 C1.1.2.2.2.2 hin ty0 hty hnm C1.1.2.2.2.1 h1 h2 h3 h4 q0 h5 hc k hk (C1.1.2.2.2.2 _ hw) (fun _ h => h) hfin (by rw [← hd]; exact hty k hk) (hv v h7).1 (hv v h7).2 h6 d kk)
theorem xr_putF {ci k ix N fk : Nat} {C : String} {T : u_T} {ty0 : Nat → FieldType} {ty : FieldType} (hc : cl[ci]? = some (C, T, N)) (hin : ∀ w ∈ u_ws C T N, w ∈ x_tbl) (hty : ∀ k, k < N → parseFieldDescriptor (T k).2.2.1 = some (ty0 k)) (hnm : ∀ a, a < N → ∀ b, b < N → a ≠ b → (T a).2.1 ≠ (T b).2.1) (hk : k < N) (hw : Cond.fieldLink own ix (T k).1 (T k).2.1 (T k).2.2.1 ∈ x_tbl) (hfin : (T k).2.2.2 = true) (hmn : nm = "<init>") (hdc : (T k).1 = own) (hd : ty0 k = ty) (hv : ∀ v, x_pk fk v → narrow ty v = v ∧ fits ty v = true) (d : decode cc pc = .ok (.putfield ix, 3)) : x_Snd cl K cc own nL nm MC MS pc (xi_putf ci k fk (pc + 3)) := xi_putf_ok (by
  intro p l e R s m args below meth c C1 H H0 locs cells slots Q ls rest D A tys ws a q0 fs v h1 h2 h3 h4 h5 h6 h7 kk
  exact va_putF C1.1.1 C1.1.2.1 C1.1.2.2.2.2 hin ty0 hty hnm C1.1.2.2.2.1 h1 h2 h3 h4 q0 h5 hc k hk (C1.1.2.2.2.2 _ hw) (fun _ h => h) hfin (C1.2.1.trans hmn) hdc (by rw [← hd]; exact hty k hk) (hv v h7).1 (hv v h7).2 h6 d kk)
theorem xr_new {ci ix N : Nat} {C : String} {T : u_T} {ty0 : Nat → FieldType} {ks : List Nat} (hc : cl[ci]? = some (C, T, N)) (hin : ∀ w ∈ u_ws C T N, w ∈ x_tbl) (hty : ∀ k, k < N → parseFieldDescriptor (T k).2.2.1 = some (ty0 k)) (hl : Cond.classLink own ix C ∈ x_tbl) (hi : Cond.instantiable C N ∈ x_tbl) (hn : Cond.initialized C ∈ x_tbl) (hks : ks.length = N) (hfs : ∀ j, j < N → defaultValue (ty0 j) = vp_V (ks.map x_fv) j) (d : decode cc pc = .ok (.new ix, 3)) : x_Snd cl K cc own nL nm MC MS pc (xi_new (x_nc ci ks) MC MS (pc + 3)) := xi_new_ok (nc := x_nc ci ks) (ci := ci) (N := N) (fs := ks.map x_fv) hks x_nc_ok (by
  intro p l e R s m args below meth c C1 H H0 locs cells slots Q ls rest D A tys ws hA h1 h2 h3 h4 h5 h6 kk
  exact va_new C1.1.1 C1.1.2.1 C1.1.2.2.2.2 hin ty0 hty C1.1.2.2.2.1 (C1.1.2.2.2.2 _ hl) (C1.1.2.2.2.2 _ hi) (C1.1.2.2.2.2 _ hn) h1 h2 h3 h4 hA hc hfs (by rw [C1.2.2.1]; exact h5) (by rw [C1.2.2.2.1]; exact h6) d kk)
theorem x_bytes (kd : Nat) : componentBytes (x_aty kd) ≤ 4 := by
  unfold x_aty
  split <;> decide
theorem x_dflt (kd : Nat) : defaultValue (x_aty kd) = .int 0 := by
  unfold x_aty
  split <;> rfl
theorem xr_newa {kd : Nat} {b : Bool} {ty : ArrayType} (hkd : x_akd b kd = true) (ht : newarray.typeOf ty = x_aty kd) (ha : Cond.arrayClass (newarray.typeOf ty) ∈ x_tbl) (d : decode cc pc = .ok (.newarray ty, 2)) : x_Snd cl K cc own nL nm MC MS pc (xi_newa kd 0 (0, 0, 0) MC MS (pc + 2)) := xi_newa_ok hkd (by
  intro p l e R s m args below meth c C1 H H0 locs cells slots Q ls rest D A tys ws n N hA h1 h2 h3 h4 h5 h6 h7 h8 h9 kk
  exact va_newa C1.1.1 C1.1.2.1 (C1.1.2.2.2.2 _ ha) ht h1 h2 h3 h4 hA (a0 := (N, .inl (fun _ => 0))) (fun cA => by rw [x_dflt]; rfl) h5 h6 (Nat.le_trans (Nat.mul_le_mul h7 (x_bytes kd)) (by decide)) (by rw [C1.2.2.1]; exact h8) (by rw [C1.2.2.2.1]; exact h9) d kk)
theorem xr_newq {ci ix : Nat} {r : vw_C} (hr : cl[ci]? = some r) (hl : Cond.classLink own ix r.1 ∈ x_tbl) (ho : ∀ U, x_Ex U → va_AO r.1 U) (d : decode cc pc = .ok (.anewarray ix, 3)) : x_Snd cl K cc own nL nm MC MS pc (xi_newa 5 ci (2, 0, 0) MC MS (pc + 3)) := xi_newq_ok hr (by
  intro p l e R s m args below meth c C1 H H0 locs cells slots Q ls rest D A tys ws n N hA h1 h2 h3 h4 h5 h6 h7 h8 h9 kk
  exact va_newq C1.1.1 C1.1.2.1 C1.1.2.2.2.1 (C1.1.2.2.2.2 _ hl) (ho _ C1.2.2.2.2.2.2) h1 h2 h3 h4 hA h5 h6 (by omega) (by rw [C1.2.2.1]; exact h8) (by rw [C1.2.2.2.1]; exact h9) d kk)
theorem xr_oi {ix : Nat} (hl : Cond.methodLink own ix objectInit ∈ x_tbl) (hi : Cond.instanceMethod objectInit ∈ x_tbl) (hc : Cond.code objectInit ⟨#[0xb1]⟩ 1 none ∈ x_tbl) (d : decode cc pc = .ok (.invokespecial ix, 3)) : x_Snd cl K cc own nL nm MC MS pc (xi_oi (pc + 3)) := by
  intro V sc p l e R s m args below meth c D A H0 Q C hA hK t ts hpc hf hg
  unfold xi_oi at hf
  split at hf
  · rename_i j jb r hst
    cases hb : Nat.ble (x_cats r) 8 with
    | false => rw [hb] at hf; cases hf
    | true =>
      rw [hb] at hf
      cases hf
      subst hpc
      intro ls stk H locs ⟨lv, ws, tys, h1, h2, h3, h4⟩
      rw [hst] at h3
      match stk, h3 with
      | v2 :: rest, h3 =>
        obtain ⟨a, -, rfl⟩ := h3.1
        refine W.objInit C.1.1 C.1.2.1 C.1.2.2.2.1 (C.1.2.2.2.2 _ hl) (C.1.2.2.2.2 _ hi) (C.1.2.2.2.2 _ hc) rfl (by rw [C.1.2.2.1]; exact h1.1) rfl d C.2.2.2.2.1 ?_ ?_
        · have h8 := Nat.le_of_ble_eq_true hb
          rw [← (x_cats_ok h3.2).1] at h8
          have := lv_room (m := m) (pc := t.1) (ls := ls) (rest := .ref a :: rest) (st := rest) h8
          have h32 := C.2.2.2.2.2.1
          omega
        · exact hg _ List.mem_cons_self ls rest H locs ⟨lv, ws, tys, h1, h2, h3.2, h4⟩
  · cases hf
theorem xr_callV {q' : xM} {ix n : Nat} (hcode : Cond.code (xm_y q') (xm_b q') (xm_l q') (xm_r q') ∈ x_tbl) (hgood : x_tbl.all goodWord = true) (hini : Cond.initialized (xm_y q').cls ∈ x_tbl) (hl : Cond.methodLink own ix (xm_y q') ∈ x_tbl) (hinst : Cond.instanceMethod (xm_y q') ∈ x_tbl) (hsel : Cond.selects (xm_y q').cls (xm_y q') (xm_y q') ∈ x_tbl) (ho : xm_o q' ≠ 999) (h19 : 19 + xm_l q' ≤ 64)
    (hd : (xm_y q').cls ≠ "java/lang/invoke/MethodHandle" ∧ (xm_y q').cls ≠ "java/lang/invoke/VarHandle" ∧ (parseMethodDescriptor (xm_y q').desc).map (fun d => d.parameters.length) = some n) (d : decode cc pc = .ok (.invokevirtual ix, 3)) : x_Cl cc own nL nm MC MS pc q' (n + 1) := by
  refine ⟨h19, ?_⟩
  intro p l e R s m args below meth c C1 H locs cells slots mc ms ls rest vargs Pc Qc free rm hM hbl hpre hrec hlen hrc hrs hfr hlo hsz hcat hf
  rcases hrec with h | ⟨b, As, rfl, cellB, k1, k2, k3⟩
  · exact absurd h ho
  · have hts := C1.1.2.2.2.2
    have cb : CallB R s args own ix (xm_y q') (xm_b q') (xm_l q') (xm_r q') (x_ws q') rm mc ms n := callB_of n hts (x_goodIn (q := q') hcode hgood) rfl hrc hrs (hts _ hini) (hts _ hl) hd ⟨hfr, hlo⟩
    exact va_runV C1.1 hM ⟨cb, hts _ hinst, hts _ hsel⟩ ⟨hbl, ⟨cellB, k1, k2, k3⟩, hpre⟩ rfl (by simpa using hlen) hsz (by simp) (lv_room hcat) d hf
theorem xr_callS {q' : xM} {ix n : Nat} (hcode : Cond.code (xm_y q') (xm_b q') (xm_l q') (xm_r q') ∈ x_tbl) (hgood : x_tbl.all goodWord = true) (hini : Cond.initialized (xm_y q').cls ∈ x_tbl) (hl : Cond.methodLink own ix (xm_y q') ∈ x_tbl) (hst : Cond.static (xm_y q') ∈ x_tbl) (h19 : 19 + xm_l q' ≤ 64)
    (hd : (xm_y q').cls ≠ "java/lang/invoke/MethodHandle" ∧ (xm_y q').cls ≠ "java/lang/invoke/VarHandle" ∧ (parseMethodDescriptor (xm_y q').desc).map (fun d => d.parameters.length) = some n) (d : decode cc pc = .ok (.invokestatic ix, 3)) : x_Cl cc own nL nm MC MS pc q' n := by
  refine ⟨h19, ?_⟩
  intro p l e R s m args below meth c C1 H locs cells slots mc ms ls rest vargs Pc Qc free rm hM hbl hpre hrec hlen hrc hrs hfr hlo hsz hcat hf
  have hts := C1.1.2.2.2.2
  have cb : CallB R s args own ix (xm_y q') (xm_b q') (xm_l q') (xm_r q') (x_ws q') rm mc ms n := callB_of n hts (x_goodIn (q := q') hcode hgood) rfl hrc hrs (hts _ hini) (hts _ hl) hd ⟨hfr, hlo⟩
  exact va_runS C1.1 hM ⟨cb, hts _ hst⟩ ⟨hbl, hpre⟩ rfl hlen hsz rfl (lv_room hcat) d hf
theorem xr_callI {q' : xM} {ix n : Nat} (hcode : Cond.code (xm_y q') (xm_b q') (xm_l q') (xm_r q') ∈ x_tbl) (hgood : x_tbl.all goodWord = true) (hini : Cond.initialized (xm_y q').cls ∈ x_tbl) (hl : Cond.methodLink own ix (xm_y q') ∈ x_tbl) (hinst : Cond.instanceMethod (xm_y q') ∈ x_tbl) (hnm : (xm_y q').name = "<init>") (hr : xm_r q' = none) (ho : xm_o q' ≠ 999) (h19 : 19 + xm_l q' ≤ 64)
    (hd : (xm_y q').cls ≠ "java/lang/invoke/MethodHandle" ∧ (xm_y q').cls ≠ "java/lang/invoke/VarHandle" ∧ (parseMethodDescriptor (xm_y q').desc).map (fun d => d.parameters.length) = some n) (d : decode cc pc = .ok (.invokespecial ix, 3)) : x_Cl cc own nL nm MC MS pc q' (n + 1) := by
  refine ⟨h19, ?_⟩
  intro p l e R s m args below meth c C1 H locs cells slots mc ms ls rest vargs Pc Qc free rm hM hbl hpre hrec hlen hrc hrs hfr hlo hsz hcat hf
  rcases hrec with h | ⟨b, As, rfl, cellB, k1, k2, k3⟩
  · exact absurd h ho
  · have hts := C1.1.2.2.2.2
    have cb : CallB R s args own ix (xm_y q') (xm_b q') (xm_l q') (xm_r q') (x_ws q') rm mc ms n := callB_of n hts (x_goodIn (q := q') hcode hgood) rfl hrc hrs (hts _ hini) (hts _ hl) hd ⟨hfr, hlo⟩
    rw [hr] at cb
    exact va_runI C1.1 hM ⟨cb, hnm, hts _ hinst⟩ ⟨hbl, hpre⟩ rfl (by simpa using hlen) hsz (by simp) (lv_room hcat) d hf
theorem x_cn {R : Room} {s : State} {args : Array Value} {q' : xM} {ix n mc ms : Nat} {own host : String} {rm : Room} (hts : ∀ w ∈ x_tbl, w.before args s = true) (hcode : Cond.code (xm_y q') (xm_b q') (xm_l q') (xm_r q') ∈ x_tbl) (hgood : x_tbl.all goodWord = true) (hini : Cond.initialized (xm_y q').cls ∈ x_tbl) (hl : va_Nw (.methodLinkNest own ix (xm_y q') host) s) (hrc : rm.cells = mc) (hrs : rm.slots = ms)
    (hd : (xm_y q').cls ≠ "java/lang/invoke/MethodHandle" ∧ (xm_y q').cls ≠ "java/lang/invoke/VarHandle" ∧ (parseMethodDescriptor (xm_y q').desc).map (fun d => d.parameters.length) = some n) (hR : rm.frames + 1 ≤ R.frames ∧ 8 + (xm_l q' + 11) + rm.locals ≤ R.locals) : va_CN R s args own ix (xm_y q') host (xm_b q') (xm_l q') (xm_r q') (x_ws q') rm mc ms n :=
  va_cnB n hts (x_goodIn (q := q') hcode hgood) rfl hrc hrs hl (hts _ hini) hd hR
theorem xr_callIN {q' : xM} {ix n : Nat} {host : String} (hcode : Cond.code (xm_y q') (xm_b q') (xm_l q') (xm_r q') ∈ x_tbl) (hgood : x_tbl.all goodWord = true) (hini : Cond.initialized (xm_y q').cls ∈ x_tbl) (hl : (own, ix, xm_y q', host) ∈ x_nest) (hinst : Cond.instanceMethod (xm_y q') ∈ x_tbl) (hnm : (xm_y q').name = "<init>") (hr : xm_r q' = none) (ho : xm_o q' ≠ 999) (h19 : 19 + xm_l q' ≤ 64)
    (hd : (xm_y q').cls ≠ "java/lang/invoke/MethodHandle" ∧ (xm_y q').cls ≠ "java/lang/invoke/VarHandle" ∧ (parseMethodDescriptor (xm_y q').desc).map (fun d => d.parameters.length) = some n) (d : decode cc pc = .ok (.invokespecial ix, 3)) : x_Cl cc own nL nm MC MS pc q' (n + 1) := by
  refine ⟨h19, ?_⟩
  intro p l e R s m args below meth c C1 H locs cells slots mc ms ls rest vargs Pc Qc free rm hM hbl hpre hrec hlen hrc hrs hfr hlo hsz hcat hf
  rcases hrec with h | ⟨b, As, rfl, cellB, k1, k2, k3⟩
  · exact absurd h ho
  · have hts := C1.1.2.2.2.2
    have cb := x_cn (R := R) hts hcode hgood hini (C1.2.2.2.2.2.2.2.2 _ hl) hrc hrs hd ⟨hfr, hlo⟩
    rw [hr] at cb
    exact va_runIN C1.1 hM ⟨cb, hnm, hts _ hinst⟩ ⟨hbl, hpre⟩ rfl (by simpa using hlen) hsz (by simp) (lv_room hcat) d hf
theorem xr_callVN {q' : xM} {ix n : Nat} {host : String} (hcode : Cond.code (xm_y q') (xm_b q') (xm_l q') (xm_r q') ∈ x_tbl) (hgood : x_tbl.all goodWord = true) (hini : Cond.initialized (xm_y q').cls ∈ x_tbl) (hl : (own, ix, xm_y q', host) ∈ x_nest) (hinst : Cond.instanceMethod (xm_y q') ∈ x_tbl) (hsel : Cond.selects (xm_y q').cls (xm_y q') (xm_y q') ∈ x_tbl) (ho : xm_o q' ≠ 999) (h19 : 19 + xm_l q' ≤ 64)
    (hd : (xm_y q').cls ≠ "java/lang/invoke/MethodHandle" ∧ (xm_y q').cls ≠ "java/lang/invoke/VarHandle" ∧ (parseMethodDescriptor (xm_y q').desc).map (fun d => d.parameters.length) = some n) (d : decode cc pc = .ok (.invokevirtual ix, 3)) : x_Cl cc own nL nm MC MS pc q' (n + 1) := by
  refine ⟨h19, ?_⟩
  intro p l e R s m args below meth c C1 H locs cells slots mc ms ls rest vargs Pc Qc free rm hM hbl hpre hrec hlen hrc hrs hfr hlo hsz hcat hf
  rcases hrec with h | ⟨b, As, rfl, cellB, k1, k2, k3⟩
  · exact absurd h ho
  · have hts := C1.1.2.2.2.2
    have cb := x_cn (R := R) hts hcode hgood hini (C1.2.2.2.2.2.2.2.2 _ hl) hrc hrs hd ⟨hfr, hlo⟩
    exact va_runVN C1.1 hM ⟨cb, hts _ hinst, hts _ hsel⟩ ⟨hbl, ⟨cellB, k1, k2, k3⟩, hpre⟩ rfl (by simpa using hlen) hsz (by simp) (lv_room hcat) d hf
theorem xr_callSN {q' : xM} {ix n : Nat} {host : String} (hcode : Cond.code (xm_y q') (xm_b q') (xm_l q') (xm_r q') ∈ x_tbl) (hgood : x_tbl.all goodWord = true) (hini : Cond.initialized (xm_y q').cls ∈ x_tbl) (hl : (own, ix, xm_y q', host) ∈ x_nest) (hst : Cond.static (xm_y q') ∈ x_tbl) (h19 : 19 + xm_l q' ≤ 64)
    (hd : (xm_y q').cls ≠ "java/lang/invoke/MethodHandle" ∧ (xm_y q').cls ≠ "java/lang/invoke/VarHandle" ∧ (parseMethodDescriptor (xm_y q').desc).map (fun d => d.parameters.length) = some n) (d : decode cc pc = .ok (.invokestatic ix, 3)) : x_Cl cc own nL nm MC MS pc q' n := by
  refine ⟨h19, ?_⟩
  intro p l e R s m args below meth c C1 H locs cells slots mc ms ls rest vargs Pc Qc free rm hM hbl hpre hrec hlen hrc hrs hfr hlo hsz hcat hf
  have hts := C1.1.2.2.2.2
  have cb := x_cn (R := R) hts hcode hgood hini (C1.2.2.2.2.2.2.2.2 _ hl) hrc hrs hd ⟨hfr, hlo⟩
  exact va_runSN C1.1 hM ⟨cb, hts _ hst, trivial⟩ ⟨hbl, hpre⟩ rfl hlen hsz rfl (lv_room hcat) d hf
/-- a tableswitch by its ranges -/
theorem xr_tsw {dflt lo hi : Int} {offs : Array Int} {len : Nat} {l : List (Int × Int × Nat)} (d : decode cc pc = .ok (.tableswitch dflt lo hi offs, len)) (hd : ∃ q ∈ l, q.1 = -2147483648 ∧ q.2.1 = lo - 1 ∧ (pc : Int) + dflt = (q.2.2 : Int)) (hd2 : ∃ q ∈ l, q.1 = hi + 1 ∧ q.2.1 = 2147483647 ∧ (pc : Int) + dflt = (q.2.2 : Int))
    (hm : ∀ j : Nat, (j : Int) < hi + 1 - lo → ∃ q ∈ l, q.1 = lo + j ∧ q.2.1 = lo + j ∧ ∃ off, offs[j]? = some off ∧ (pc : Int) + off = (q.2.2 : Int)) : x_Snd cl K cc own nL nm MC MS pc (xi_sw l) := xi_sw_ok (fun x => by
  have hr := x_rng x
  by_cases h1 : x.toInt < lo
  · obtain ⟨q, hq, e1, e2, e3⟩ := hd
    exact ⟨q, hq, by omega, by omega, (fun S => fun k => lv_tableOut S.1 S.2.1 d (Or.inl h1) e3 k)⟩
  · by_cases h2 : hi < x.toInt
    · obtain ⟨q, hq, e1, e2, e3⟩ := hd2
      exact ⟨q, hq, by omega, by omega, (fun S => fun k => lv_tableOut S.1 S.2.1 d (Or.inr h2) e3 k)⟩
    · obtain ⟨q, hq, e1, e2, off, e3, e4⟩ := hm (x.toInt - lo).toNat (by omega)
      exact ⟨q, hq, by omega, by omega, (fun S => fun k => lv_tableIn S.1 S.2.1 d h1 h2 e3 e4 k)⟩)
end X12
end
end
-- part 12a
section
/-! ===== BEGIN new T[n][m]: the outer array a place, the inner ones among the pooled ===== -/
/-- f, but v at every address of l -/
def vr_up {α : Type} (f : Nat → α) (l : List Nat) (v : α) : Nat → α := fun a => if a ∈ l then v else f a
theorem vr_up_in {α : Type} {f : Nat → α} {l : List Nat} {v : α} {a : Nat} (h : a ∈ l) : vr_up f l v a = v := if_pos h
theorem vr_up_ne {α : Type} {f : Nat → α} {l : List Nat} {v : α} {a : Nat} (h : a ∉ l) : vr_up f l v a = f a := if_neg h
theorem vr_rows {L l : List Nat} {f : Nat → va_E} {e : va_E} (h : ∀ a, a ∈ l → a ∉ L) : va_pl L f ++ l.map (fun a => (a, e)) = va_pl (L ++ l) (vr_up f l e) := by
  unfold va_pl
  rw [List.map_append]
  congr 1
  · apply List.map_congr_left
    intro a ha
    rw [vr_up_ne (fun q => h a q ha)]
  · apply List.map_congr_left
    intro a ha
    rw [vr_up_in ha]
theorem vr_lay {X rows : va_W} {x : Nat × va_E} {pl : va_W} {D : va_G} {cl : List vw_C} {H : Heap} (hP : va_P D cl (((X ++ pl) ++ [x]) ++ rows) H) : va_P D cl ((X ++ [x]) ++ (pl ++ rows)) H := by
  rw [List.append_assoc (X ++ pl)] at hP
  have h := va_P.swap hP
  rw [← List.append_assoc X] at h
  have h2 := va_P.swap h
  rw [List.append_assoc (X ++ [x])] at h2
  exact h2
theorem vr_layD {X rows : va_W} {x : Nat × va_E} {pl : va_W} {A : Nat → Prop} (hD : va_D A (((X ++ pl) ++ [x]) ++ rows)) : va_D A ((X ++ [x]) ++ (pl ++ rows)) := by
  rw [List.append_assoc (X ++ pl)] at hD
  have h := va_D.swap hD
  rw [← List.append_assoc X] at h
  have h2 := va_D.swap h
  rw [List.append_assoc (X ++ [x])] at h2
  exact h2
theorem vr_outer (c : ClassId) (N h0 : Nat) : ∀ i : Nat, Jvm.Free.Multi.outerC c N h0 i = arrV c N (fun j => va_rf (if j < i then some (h0 + 1 + j) else none))
  | 0 => by
    show ({ cls := c, slots := Array.replicate N .null, vm := .none } : Cell) = _
    rw [arrV_new]
    refine congrArg (arrV c N) (funext fun j => ?_)
    simp [va_rf]
  | i + 1 => by
    show (Jvm.Free.Multi.outerC c N h0 i).setSlot i (.ref (h0 + 1 + i)) = _
    rw [vr_outer c N h0 i, arrV_store]
    refine congrArg (arrV c N) (funext fun j => ?_)
    by_cases e : j = i
    · subst e
      simp [updV, va_rf]
    · by_cases h : j < i
      · simp [updV, e, h, Nat.lt_succ_of_lt h]
      · simp [updV, e, h, show ¬ j < i + 1 by omega]
section VGM
variable {p : Program} {l : Launch} {e : Env} {R : Room} {s : State} {m : MethodId} {args : Array Value} {below : List Frame} {meth : Method} {c : Code} {H : Heap} {locs : List Loc} {cells slots : Nat} {Q : State → Prop}
variable {cc : ByteArray} {pc : Nat} {ls : Array Slot} {rest : List Value} {D : va_G} {cl : List vw_C} {A : Nat → Prop} {a : Nat} {tys : List (ClassId × FieldType)} {ws : va_W} {H0 : Heap}
theorem va_mna {X : va_W} {L : List Nat} {f : Nat → va_E} {cc : ByteArray} (hexec : p.tables.exec = Jvm.exec) (hb : c.code = cc) {own : String} {index : Nat} {ty : FieldType} {cy : ClassId} (hown : s.vm.findClass own = some m.cls) (hclink : (Cond.classLink own index ("[" ++ (FieldType.array ty).toString)).before args s = true) (hover : va_AOA ty s) (harr : (Cond.arrayClass ty).before args s = true) (hcy : s.vm.findClass (FieldType.array ty).toString = some cy)
    (hK : va_K D cl tys s) (hP : va_P D cl (X ++ va_pl L f) H) (hD : va_D A (X ++ va_pl L f)) (hS : va_S A H0 H locs) (hA : ∀ q, H0.size ≤ q → A q) {n k : Int32} {N' K' : Nat} {z : vp_A} (hn : ¬ n < 0) (hk : ¬ k < 0) (hN : n.toNatClampNeg = N') (hM : k.toNatClampNeg = K')
    (hb1 : N' * 4 ≤ 536870912) (hb2 : K' * componentBytes ty ≤ 536870912) (hb3 : K' ≤ 536870912) (hdf : fits ty (defaultValue ty) = true) (hdd : (defaultValue ty).isDefault = true) (hcells : cells + (1 + N') ≤ R.cells) (hslots : slots + (N' + N' * K') ≤ R.slots) (hz : ∀ c : ClassId, Jvm.Free.Multi.innerC c K' (defaultValue ty) = vp_cell c z) (hdg : decode cc pc = .ok (.multianewarray index 2, 4))
    (kk : ∀ (q : Nat) (r : Nat → Nat) (cA : ClassId) (H1 : Heap), (∀ i j : Nat, i < N' → j < N' → r i = r j → i = j) → (∀ i : Nat, i < N' → r i ∉ L) → va_K D cl (tys ++ [(cA, .array ty)]) s →
      va_P D cl ((X ++ [(q, .inl (cA, N', .inr (.inr (.inr (.inr (fun i => if i < N' then some (r i) else none))))))]) ++ va_pl (L ++ (List.range N').map r) (vr_up f ((List.range N').map r) (.inl (cy, z)))) H1 → va_D A ((X ++ [(q, .inl (cA, N', .inr (.inr (.inr (.inr (fun i => if i < N' then some (r i) else none))))))]) ++ va_pl (L ++ (List.range N').map r) (vr_up f ((List.range N').map r) (.inl (cy, z)))) → va_S A H0 H1 locs →
      W p l e R s m args below meth c H1 locs (cells + 1 + N') (slots + N' + N' * K') Q (F0 m (pc + 4) ls (.ref q :: rest))) : W p l e R s m args below meth c H locs cells slots Q (F0 m pc ls (.int k :: .int n :: rest)) := by
  subst hN
  subst hM
  intro T hT Xs
  obtain ⟨vm₁, cA, comp, -, fA, fC, hO, -, X', step⟩ := Xs.multianewarray2F hexec hown hclink (va_AOA.use hover) harr (g := F0 m pc ls (.int k :: .int n :: rest)) rfl (by rw [hb]; exact hdg) rfl hn hk hb1 hb2 hb3 hdf hdd hcells hslots
  have ec : some cy = some comp := hcy.symm.trans fC
  cases ec
  generalize hF : Jvm.Free.Multi.fill (T.setVm vm₁) cA cy n.toNatClampNeg k.toNatClampNeg (defaultValue ty) n.toNatClampNeg = F at X' step
  have hTh : (T.setVm vm₁).heap = H := hT
  obtain ⟨f1, f2, -, -⟩ := Jvm.Free.Multi.fill_facts (T.setVm vm₁) cA cy n.toNatClampNeg k.toNatClampNeg (defaultValue ty) n.toNatClampNeg
  rw [hF, hTh] at f1 f2
  have hold : ∀ x : Nat, x < H.size → F.heap[x]? = H[x]? := fun x hx => by
    have := Jvm.Free.Multi.fill_old (T.setVm vm₁) cA cy n.toNatClampNeg k.toNatClampNeg (defaultValue ty) (a := x) (by rw [hTh]; exact hx) n.toNatClampNeg
    rw [hF, hTh] at this
    exact this
  have hrow : ∀ j : Nat, j < n.toNatClampNeg → F.heap[H.size + 1 + j]? = some (vp_cell cy z) := fun j hj => by
    have := Jvm.Free.Multi.fill_inner (T.setVm vm₁) cA cy n.toNatClampNeg k.toNatClampNeg (defaultValue ty) n.toNatClampNeg j hj
    rw [hF, hTh, hz] at this
    exact this
  have hout : Jvm.Free.Multi.outerC cA n.toNatClampNeg H.size n.toNatClampNeg = vp_cell cA (n.toNatClampNeg, .inr (.inr (.inr (.inr (fun i => if i < n.toNatClampNeg then some (H.size + 1 + i) else none))))) := by
    rw [vp_cell_q]
    exact vr_outer cA n.toNatClampNeg H.size n.toNatClampNeg
  rw [hout] at f2
  have hlt : ∀ a, a ∈ L → a < H.size := fun a ha => by
    obtain ⟨k9, hk9⟩ := va_pl_get (X := X) (f := f) ha
    exact (hP k9 _ hk9).lt
  have hnl : ∀ i : Nat, i < n.toNatClampNeg → H.size + 1 + i ∉ L := fun i _ h => by
    have := hlt _ h
    omega
  have hnm : ∀ a, a ∈ (List.range n.toNatClampNeg).map (fun i => H.size + 1 + i) → a ∉ L := fun a ha h => by
    obtain ⟨i, -, rfl⟩ := List.mem_map.mp ha
    have := hlt _ h
    omega
  have hP0 : va_P D cl (X ++ va_pl L f) F.heap := hP.kept (fun k9 x hx => hold x.1 ((hP k9 x hx).lt))
  have hP1 : va_P D cl ((X ++ va_pl L f) ++ [(H.size, .inl (cA, n.toNatClampNeg, .inr (.inr (.inr (.inr (fun i => if i < n.toNatClampNeg then some (H.size + 1 + i) else none))))))]) F.heap := hP0.app (fun k9 x hx => by
    have h0 : k9 < 1 := (List.getElem?_eq_some_iff.mp hx).1
    rw [show k9 = 0 by omega] at hx
    cases hx
    exact f2)
  have hP2 : va_P D cl (((X ++ va_pl L f) ++ [(H.size, .inl (cA, n.toNatClampNeg, .inr (.inr (.inr (.inr (fun i => if i < n.toNatClampNeg then some (H.size + 1 + i) else none))))))]) ++ ((List.range n.toNatClampNeg).map (fun i => H.size + 1 + i)).map (fun a => (a, .inl (cy, z)))) F.heap := hP1.app (fun k9 x hx => by
    obtain ⟨a, ha, rfl⟩ := List.mem_map.mp (List.mem_of_getElem? hx)
    obtain ⟨i, hi, rfl⟩ := List.mem_map.mp ha
    exact hrow i (List.mem_range.mp hi))
  have hD2 : va_D A (((X ++ va_pl L f) ++ [(H.size, .inl (cA, n.toNatClampNeg, .inr (.inr (.inr (.inr (fun i => if i < n.toNatClampNeg then some (H.size + 1 + i) else none))))))]) ++ ((List.range n.toNatClampNeg).map (fun i => H.size + 1 + i)).map (fun a => (a, .inl (cy, z)))) := by
    have hD1 := hD.push (e := .inl (cA, n.toNatClampNeg, .inr (.inr (.inr (.inr (fun i => if i < n.toNatClampNeg then some (H.size + 1 + i) else none)))))) hP rfl (hA _ hS.1)
    generalize hW1 : (X ++ va_pl L f) ++ [(H.size, .inl (cA, n.toNatClampNeg, .inr (.inr (.inr (.inr (fun i => if i < n.toNatClampNeg then some (H.size + 1 + i) else none))))))] = W1 at hD1 hP1 ⊢
    have hle : ∀ (k9 : Nat) (x : Nat × va_E), W1[k9]? = some x → x.1 ≤ H.size := fun k9 x hx => by
      rw [← hW1] at hx
      by_cases hl : k9 < (X ++ va_pl L f).length
      · rw [List.getElem?_append_left hl] at hx
        exact Nat.le_of_lt ((hP k9 x hx).lt)
      · rw [List.getElem?_append_right (by omega)] at hx
        have h0 : k9 - (X ++ va_pl L f).length < 1 := (List.getElem?_eq_some_iff.mp hx).1
        rw [show k9 - (X ++ va_pl L f).length = 0 by omega] at hx
        cases hx
        exact Nat.le_refl _
    have hr : ∀ (k9 : Nat) (x : Nat × va_E), (((List.range n.toNatClampNeg).map (fun i => H.size + 1 + i)).map (fun a => ((a, .inl (cy, z)) : Nat × va_E)))[k9]? = some x → x.1 = H.size + 1 + k9 := fun k9 x hx => by
      rw [List.getElem?_map, List.getElem?_map] at hx
      by_cases h9 : k9 < n.toNatClampNeg
      · rw [List.getElem?_range h9] at hx
        cases hx
        rfl
      · have hn0 : (List.range n.toNatClampNeg)[k9]? = none := List.getElem?_eq_none (by rw [List.length_range]; omega)
        rw [hn0] at hx
        cases hx
    refine ⟨fun i j x y hi hj hxy => ?_, fun k9 x hx => ?_⟩
    · by_cases h1 : i < W1.length <;> by_cases h2 : j < W1.length
      · rw [List.getElem?_append_left h1] at hi
        rw [List.getElem?_append_left h2] at hj
        exact hD1.1 i j x y hi hj hxy
      · rw [List.getElem?_append_left h1] at hi
        rw [List.getElem?_append_right (by omega)] at hj
        have := hle _ _ hi
        have := hr _ _ hj
        omega
      · rw [List.getElem?_append_right (by omega)] at hi
        rw [List.getElem?_append_left h2] at hj
        have := hle _ _ hj
        have := hr _ _ hi
        omega
      · rw [List.getElem?_append_right (by omega)] at hi hj
        have := hr _ _ hi
        have := hr _ _ hj
        omega
    · by_cases h1 : k9 < W1.length
      · rw [List.getElem?_append_left h1] at hx
        exact hD1.2 k9 x hx
      · rw [List.getElem?_append_right (by omega)] at hx
        have := hr _ _ hx
        exact hA _ (by have := hS.1; omega)
  have hAr : ArrOfT s cA (.array ty) := fun N9 z9 => by
    obtain ⟨-, k9, hk9, cm9, hkk9⟩ := (hO 0 0 0).1
    exact ⟨(fun q hq => by cases hq), k9, hk9, cm9, hkk9⟩
  have hK2 : va_K D cl (tys ++ [(cA, .array ty)]) s := ⟨hK.1, fun k9 x hx => by
    by_cases hl : k9 < tys.length
    · rw [List.getElem?_append_left hl] at hx
      exact hK.2 k9 x hx
    · rw [List.getElem?_append_right (by omega)] at hx
      have h0 : k9 - tys.length < 1 := (List.getElem?_eq_some_iff.mp hx).1
      rw [show k9 - tys.length = 0 by omega] at hx
      cases hx
      exact ⟨hAr, fA⟩⟩
  obtain ⟨t, a1, b1⟩ := kk H.size (fun i => H.size + 1 + i) cA F.heap (fun i j _ _ h => by have h9 : H.size + 1 + i = H.size + 1 + j := h; omega) hnl hK2 (by rw [← vr_rows hnm]; exact vr_lay hP2) (by rw [← vr_rows hnm]; exact vr_layD hD2) ⟨by rw [f1]; have := hS.1; omega, fun x h1 h2 => (hold x (Nat.lt_of_lt_of_le h1 hS.1)).trans (hS.2.1 x h1 h2), hS.2.2⟩ F rfl X'
  refine ⟨t, step t ?_, b1⟩
  have e : T.heap.size = H.size := by rw [hT]
  rw [e]
  exact a1
end VGM
/-! ===== END ===== -/
end
