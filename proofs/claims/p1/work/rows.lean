section
-- ===== PART A: goes FIRST, ahead of the names: the tables' words, and 'selects' of the private methods out of them =====
/-- a private method of a class that the tables say can be made, by its rows of tables_1 -/
def lw_okq (q : MethodName × Nat) : Prop := (q.1.cls ≠ "java/lang/invoke/MethodHandle" ∧ q.1.cls ≠ "java/lang/invoke/VarHandle") ∧ Cond.instantiable q.1.cls q.2 ∈ tables_1 ∧ Cond.privateMethod q.1 ∈ tables_1 ∧ Cond.instanceMethod q.1 ∈ tables_1
theorem lw_p0 : lw_okq (⟨"RobotCellHouse", "clear", "()V"⟩, 15) := ⟨⟨by decide +kernel, by decide +kernel⟩, List.mem_of_getElem? (i := 22) (by decide +kernel), List.mem_of_getElem? (i := 720) (by decide +kernel), List.mem_of_getElem? (i := 721) (by decide +kernel)⟩
theorem lw_p1 : lw_okq (⟨"RobotCellHouse$Points", "arrange", "()V"⟩, 8) := ⟨⟨by decide +kernel, by decide +kernel⟩, List.mem_of_getElem? (i := 131) (by decide +kernel), List.mem_of_getElem? (i := 766) (by decide +kernel), List.mem_of_getElem? (i := 767) (by decide +kernel)⟩
theorem lw_p2 : lw_okq (⟨"RobotCellHouse", "rewind", "()V"⟩, 15) := ⟨⟨by decide +kernel, by decide +kernel⟩, List.mem_of_getElem? (i := 22) (by decide +kernel), List.mem_of_getElem? (i := 775) (by decide +kernel), List.mem_of_getElem? (i := 776) (by decide +kernel)⟩
theorem lw_p3 : lw_okq (⟨"RobotCellHouse$Points", "settle", "()V"⟩, 8) := ⟨⟨by decide +kernel, by decide +kernel⟩, List.mem_of_getElem? (i := 131) (by decide +kernel), List.mem_of_getElem? (i := 784) (by decide +kernel), List.mem_of_getElem? (i := 785) (by decide +kernel)⟩
theorem lw_p4 : lw_okq (⟨"RobotCellHouse$Points", "reckon", "(I)I"⟩, 8) := ⟨⟨by decide +kernel, by decide +kernel⟩, List.mem_of_getElem? (i := 131) (by decide +kernel), List.mem_of_getElem? (i := 788) (by decide +kernel), List.mem_of_getElem? (i := 789) (by decide +kernel)⟩
theorem lw_p5 : lw_okq (⟨"RobotCellHouse$Floor", "putBack", "(I)V"⟩, 20) := ⟨⟨by decide +kernel, by decide +kernel⟩, List.mem_of_getElem? (i := 168) (by decide +kernel), List.mem_of_getElem? (i := 796) (by decide +kernel), List.mem_of_getElem? (i := 797) (by decide +kernel)⟩
theorem lw_p6 : lw_okq (⟨"RobotCellHouse$Floor", "comeTo", "(III)V"⟩, 20) := ⟨⟨by decide +kernel, by decide +kernel⟩, List.mem_of_getElem? (i := 168) (by decide +kernel), List.mem_of_getElem? (i := 800) (by decide +kernel), List.mem_of_getElem? (i := 801) (by decide +kernel)⟩
theorem lw_p7 : lw_okq (⟨"RobotCellHouse$Floor", "lieAt", "(III)V"⟩, 20) := ⟨⟨by decide +kernel, by decide +kernel⟩, List.mem_of_getElem? (i := 168) (by decide +kernel), List.mem_of_getElem? (i := 804) (by decide +kernel), List.mem_of_getElem? (i := 805) (by decide +kernel)⟩
theorem lw_p8 : lw_okq (⟨"RobotCellHouse", "isArm", "(I)Z"⟩, 15) := ⟨⟨by decide +kernel, by decide +kernel⟩, List.mem_of_getElem? (i := 22) (by decide +kernel), List.mem_of_getElem? (i := 902) (by decide +kernel), List.mem_of_getElem? (i := 903) (by decide +kernel)⟩
theorem lw_p9 : lw_okq (⟨"RobotCellHouse", "isJoint", "(II)Z"⟩, 15) := ⟨⟨by decide +kernel, by decide +kernel⟩, List.mem_of_getElem? (i := 22) (by decide +kernel), List.mem_of_getElem? (i := 919) (by decide +kernel), List.mem_of_getElem? (i := 920) (by decide +kernel)⟩
theorem lw_p10 : lw_okq (⟨"RobotCellHouse", "isBelt", "(I)Z"⟩, 15) := ⟨⟨by decide +kernel, by decide +kernel⟩, List.mem_of_getElem? (i := 22) (by decide +kernel), List.mem_of_getElem? (i := 973) (by decide +kernel), List.mem_of_getElem? (i := 974) (by decide +kernel)⟩
theorem lw_p11 : lw_okq (⟨"RobotCellHouse$Reader", "advance", "()V"⟩, 17) := ⟨⟨by decide +kernel, by decide +kernel⟩, List.mem_of_getElem? (i := 30) (by decide +kernel), List.mem_of_getElem? (i := 1038) (by decide +kernel), List.mem_of_getElem? (i := 1039) (by decide +kernel)⟩
theorem lw_p12 : lw_okq (⟨"RobotCellHouse$Reader", "skipBlanks", "()V"⟩, 17) := ⟨⟨by decide +kernel, by decide +kernel⟩, List.mem_of_getElem? (i := 30) (by decide +kernel), List.mem_of_getElem? (i := 1042) (by decide +kernel), List.mem_of_getElem? (i := 1043) (by decide +kernel)⟩
theorem lw_p13 : lw_okq (⟨"RobotCellHouse$Reader", "byteAt", "(I)I"⟩, 17) := ⟨⟨by decide +kernel, by decide +kernel⟩, List.mem_of_getElem? (i := 30) (by decide +kernel), List.mem_of_getElem? (i := 1046) (by decide +kernel), List.mem_of_getElem? (i := 1047) (by decide +kernel)⟩
theorem lw_p14 : lw_okq (⟨"RobotCellHouse$Reader", "readNumber", "()V"⟩, 17) := ⟨⟨by decide +kernel, by decide +kernel⟩, List.mem_of_getElem? (i := 30) (by decide +kernel), List.mem_of_getElem? (i := 1053) (by decide +kernel), List.mem_of_getElem? (i := 1054) (by decide +kernel)⟩
theorem lw_p15 : lw_okq (⟨"RobotCellHouse$Reader", "readWord", "()V"⟩, 17) := ⟨⟨by decide +kernel, by decide +kernel⟩, List.mem_of_getElem? (i := 30) (by decide +kernel), List.mem_of_getElem? (i := 1067) (by decide +kernel), List.mem_of_getElem? (i := 1068) (by decide +kernel)⟩
def lw_privs_1 : List (MethodName × Nat) := [(⟨"RobotCellHouse", "clear", "()V"⟩, 15), (⟨"RobotCellHouse$Points", "arrange", "()V"⟩, 8), (⟨"RobotCellHouse", "rewind", "()V"⟩, 15), (⟨"RobotCellHouse$Points", "settle", "()V"⟩, 8), (⟨"RobotCellHouse$Points", "reckon", "(I)I"⟩, 8), (⟨"RobotCellHouse$Floor", "putBack", "(I)V"⟩, 20), (⟨"RobotCellHouse$Floor", "comeTo", "(III)V"⟩, 20), (⟨"RobotCellHouse$Floor", "lieAt", "(III)V"⟩, 20), (⟨"RobotCellHouse", "isArm", "(I)Z"⟩, 15), (⟨"RobotCellHouse", "isJoint", "(II)Z"⟩, 15), (⟨"RobotCellHouse", "isBelt", "(I)Z"⟩, 15), (⟨"RobotCellHouse$Reader", "advance", "()V"⟩, 17), (⟨"RobotCellHouse$Reader", "skipBlanks", "()V"⟩, 17), (⟨"RobotCellHouse$Reader", "byteAt", "(I)I"⟩, 17), (⟨"RobotCellHouse$Reader", "readNumber", "()V"⟩, 17), (⟨"RobotCellHouse$Reader", "readWord", "()V"⟩, 17)]
theorem lw_r1 : ∀ q ∈ lw_privs_1, lw_okq q := List.forall_mem_cons.mpr ⟨lw_p0, List.forall_mem_cons.mpr ⟨lw_p1, List.forall_mem_cons.mpr ⟨lw_p2, List.forall_mem_cons.mpr ⟨lw_p3, List.forall_mem_cons.mpr ⟨lw_p4, List.forall_mem_cons.mpr ⟨lw_p5, List.forall_mem_cons.mpr ⟨lw_p6, List.forall_mem_cons.mpr ⟨lw_p7, List.forall_mem_cons.mpr ⟨lw_p8, List.forall_mem_cons.mpr ⟨lw_p9, List.forall_mem_cons.mpr ⟨lw_p10, List.forall_mem_cons.mpr ⟨lw_p11, List.forall_mem_cons.mpr ⟨lw_p12, List.forall_mem_cons.mpr ⟨lw_p13, List.forall_mem_cons.mpr ⟨lw_p14, List.forall_mem_cons.mpr ⟨lw_p15, fun _ h => absurd h List.not_mem_nil⟩⟩⟩⟩⟩⟩⟩⟩⟩⟩⟩⟩⟩⟩⟩⟩
theorem lw_p16 : lw_okq (⟨"RobotCellHouse$Reader", "wordKind", "()I"⟩, 17) := ⟨⟨by decide +kernel, by decide +kernel⟩, List.mem_of_getElem? (i := 30) (by decide +kernel), List.mem_of_getElem? (i := 1071) (by decide +kernel), List.mem_of_getElem? (i := 1072) (by decide +kernel)⟩
theorem lw_p17 : lw_okq (⟨"RobotCellHouse$Reader", "readSign", "(I)V"⟩, 17) := ⟨⟨by decide +kernel, by decide +kernel⟩, List.mem_of_getElem? (i := 30) (by decide +kernel), List.mem_of_getElem? (i := 1124) (by decide +kernel), List.mem_of_getElem? (i := 1125) (by decide +kernel)⟩
theorem lw_p18 : lw_okq (⟨"RobotCellHouse$Reader", "declarations", "()V"⟩, 17) := ⟨⟨by decide +kernel, by decide +kernel⟩, List.mem_of_getElem? (i := 30) (by decide +kernel), List.mem_of_getElem? (i := 1188) (by decide +kernel), List.mem_of_getElem? (i := 1189) (by decide +kernel)⟩
theorem lw_p19 : lw_okq (⟨"RobotCellHouse$Reader", "declareVariable", "()V"⟩, 17) := ⟨⟨by decide +kernel, by decide +kernel⟩, List.mem_of_getElem? (i := 30) (by decide +kernel), List.mem_of_getElem? (i := 1192) (by decide +kernel), List.mem_of_getElem? (i := 1193) (by decide +kernel)⟩
theorem lw_p20 : lw_okq (⟨"RobotCellHouse$Reader", "checkNewName", "()V"⟩, 17) := ⟨⟨by decide +kernel, by decide +kernel⟩, List.mem_of_getElem? (i := 30) (by decide +kernel), List.mem_of_getElem? (i := 1196) (by decide +kernel), List.mem_of_getElem? (i := 1197) (by decide +kernel)⟩
theorem lw_p21 : lw_okq (⟨"RobotCellHouse$Reader", "findVariable", "(I)I"⟩, 17) := ⟨⟨by decide +kernel, by decide +kernel⟩, List.mem_of_getElem? (i := 30) (by decide +kernel), List.mem_of_getElem? (i := 1200) (by decide +kernel), List.mem_of_getElem? (i := 1201) (by decide +kernel)⟩
theorem lw_p22 : lw_okq (⟨"RobotCellHouse$Reader", "isSameName", "(II)Z"⟩, 17) := ⟨⟨by decide +kernel, by decide +kernel⟩, List.mem_of_getElem? (i := 30) (by decide +kernel), List.mem_of_getElem? (i := 1204) (by decide +kernel), List.mem_of_getElem? (i := 1205) (by decide +kernel)⟩
theorem lw_p23 : lw_okq (⟨"RobotCellHouse$Reader", "findRoutine", "(I)I"⟩, 17) := ⟨⟨by decide +kernel, by decide +kernel⟩, List.mem_of_getElem? (i := 30) (by decide +kernel), List.mem_of_getElem? (i := 1208) (by decide +kernel), List.mem_of_getElem? (i := 1209) (by decide +kernel)⟩
theorem lw_p24 : lw_okq (⟨"RobotCellHouse$Reader", "complain", "(II)V"⟩, 17) := ⟨⟨by decide +kernel, by decide +kernel⟩, List.mem_of_getElem? (i := 30) (by decide +kernel), List.mem_of_getElem? (i := 1212) (by decide +kernel), List.mem_of_getElem? (i := 1213) (by decide +kernel)⟩
theorem lw_p25 : lw_okq (⟨"RobotCellHouse$Reader", "accept", "(I)V"⟩, 17) := ⟨⟨by decide +kernel, by decide +kernel⟩, List.mem_of_getElem? (i := 30) (by decide +kernel), List.mem_of_getElem? (i := 1216) (by decide +kernel), List.mem_of_getElem? (i := 1217) (by decide +kernel)⟩
theorem lw_p26 : lw_okq (⟨"RobotCellHouse$Reader", "refuse", "()V"⟩, 17) := ⟨⟨by decide +kernel, by decide +kernel⟩, List.mem_of_getElem? (i := 30) (by decide +kernel), List.mem_of_getElem? (i := 1220) (by decide +kernel), List.mem_of_getElem? (i := 1221) (by decide +kernel)⟩
theorem lw_p27 : lw_okq (⟨"RobotCellHouse$Reader", "stick", "(I)V"⟩, 17) := ⟨⟨by decide +kernel, by decide +kernel⟩, List.mem_of_getElem? (i := 30) (by decide +kernel), List.mem_of_getElem? (i := 1224) (by decide +kernel), List.mem_of_getElem? (i := 1225) (by decide +kernel)⟩
theorem lw_p28 : lw_okq (⟨"RobotCellHouse$Reader", "routine", "()V"⟩, 17) := ⟨⟨by decide +kernel, by decide +kernel⟩, List.mem_of_getElem? (i := 30) (by decide +kernel), List.mem_of_getElem? (i := 1228) (by decide +kernel), List.mem_of_getElem? (i := 1229) (by decide +kernel)⟩
theorem lw_p29 : lw_okq (⟨"RobotCellHouse$Reader", "block", "()V"⟩, 17) := ⟨⟨by decide +kernel, by decide +kernel⟩, List.mem_of_getElem? (i := 30) (by decide +kernel), List.mem_of_getElem? (i := 1232) (by decide +kernel), List.mem_of_getElem? (i := 1233) (by decide +kernel)⟩
theorem lw_p30 : lw_okq (⟨"RobotCellHouse$Reader", "isStatement", "()Z"⟩, 17) := ⟨⟨by decide +kernel, by decide +kernel⟩, List.mem_of_getElem? (i := 30) (by decide +kernel), List.mem_of_getElem? (i := 1236) (by decide +kernel), List.mem_of_getElem? (i := 1237) (by decide +kernel)⟩
theorem lw_p31 : lw_okq (⟨"RobotCellHouse$Reader", "statement", "()V"⟩, 17) := ⟨⟨by decide +kernel, by decide +kernel⟩, List.mem_of_getElem? (i := 30) (by decide +kernel), List.mem_of_getElem? (i := 1241) (by decide +kernel), List.mem_of_getElem? (i := 1242) (by decide +kernel)⟩
def lw_privs_2 : List (MethodName × Nat) := [(⟨"RobotCellHouse$Reader", "wordKind", "()I"⟩, 17), (⟨"RobotCellHouse$Reader", "readSign", "(I)V"⟩, 17), (⟨"RobotCellHouse$Reader", "declarations", "()V"⟩, 17), (⟨"RobotCellHouse$Reader", "declareVariable", "()V"⟩, 17), (⟨"RobotCellHouse$Reader", "checkNewName", "()V"⟩, 17), (⟨"RobotCellHouse$Reader", "findVariable", "(I)I"⟩, 17), (⟨"RobotCellHouse$Reader", "isSameName", "(II)Z"⟩, 17), (⟨"RobotCellHouse$Reader", "findRoutine", "(I)I"⟩, 17), (⟨"RobotCellHouse$Reader", "complain", "(II)V"⟩, 17), (⟨"RobotCellHouse$Reader", "accept", "(I)V"⟩, 17), (⟨"RobotCellHouse$Reader", "refuse", "()V"⟩, 17), (⟨"RobotCellHouse$Reader", "stick", "(I)V"⟩, 17), (⟨"RobotCellHouse$Reader", "routine", "()V"⟩, 17), (⟨"RobotCellHouse$Reader", "block", "()V"⟩, 17), (⟨"RobotCellHouse$Reader", "isStatement", "()Z"⟩, 17), (⟨"RobotCellHouse$Reader", "statement", "()V"⟩, 17)]
theorem lw_r2 : ∀ q ∈ lw_privs_2, lw_okq q := List.forall_mem_cons.mpr ⟨lw_p16, List.forall_mem_cons.mpr ⟨lw_p17, List.forall_mem_cons.mpr ⟨lw_p18, List.forall_mem_cons.mpr ⟨lw_p19, List.forall_mem_cons.mpr ⟨lw_p20, List.forall_mem_cons.mpr ⟨lw_p21, List.forall_mem_cons.mpr ⟨lw_p22, List.forall_mem_cons.mpr ⟨lw_p23, List.forall_mem_cons.mpr ⟨lw_p24, List.forall_mem_cons.mpr ⟨lw_p25, List.forall_mem_cons.mpr ⟨lw_p26, List.forall_mem_cons.mpr ⟨lw_p27, List.forall_mem_cons.mpr ⟨lw_p28, List.forall_mem_cons.mpr ⟨lw_p29, List.forall_mem_cons.mpr ⟨lw_p30, List.forall_mem_cons.mpr ⟨lw_p31, fun _ h => absurd h List.not_mem_nil⟩⟩⟩⟩⟩⟩⟩⟩⟩⟩⟩⟩⟩⟩⟩⟩
theorem lw_p32 : lw_okq (⟨"RobotCellHouse$Reader", "assignment", "()V"⟩, 17) := ⟨⟨by decide +kernel, by decide +kernel⟩, List.mem_of_getElem? (i := 30) (by decide +kernel), List.mem_of_getElem? (i := 1249) (by decide +kernel), List.mem_of_getElem? (i := 1250) (by decide +kernel)⟩
theorem lw_p33 : lw_okq (⟨"RobotCellHouse$Reader", "variableHere", "()I"⟩, 17) := ⟨⟨by decide +kernel, by decide +kernel⟩, List.mem_of_getElem? (i := 30) (by decide +kernel), List.mem_of_getElem? (i := 1253) (by decide +kernel), List.mem_of_getElem? (i := 1254) (by decide +kernel)⟩
theorem lw_p34 : lw_okq (⟨"RobotCellHouse$Reader", "exp", "()V"⟩, 17) := ⟨⟨by decide +kernel, by decide +kernel⟩, List.mem_of_getElem? (i := 30) (by decide +kernel), List.mem_of_getElem? (i := 1258) (by decide +kernel), List.mem_of_getElem? (i := 1259) (by decide +kernel)⟩
theorem lw_p35 : lw_okq (⟨"RobotCellHouse$Reader", "all", "()V"⟩, 17) := ⟨⟨by decide +kernel, by decide +kernel⟩, List.mem_of_getElem? (i := 30) (by decide +kernel), List.mem_of_getElem? (i := 1262) (by decide +kernel), List.mem_of_getElem? (i := 1263) (by decide +kernel)⟩
theorem lw_p36 : lw_okq (⟨"RobotCellHouse$Reader", "fact", "()V"⟩, 17) := ⟨⟨by decide +kernel, by decide +kernel⟩, List.mem_of_getElem? (i := 30) (by decide +kernel), List.mem_of_getElem? (i := 1266) (by decide +kernel), List.mem_of_getElem? (i := 1267) (by decide +kernel)⟩
theorem lw_p37 : lw_okq (⟨"RobotCellHouse$Reader", "opens", "()Z"⟩, 17) := ⟨⟨by decide +kernel, by decide +kernel⟩, List.mem_of_getElem? (i := 30) (by decide +kernel), List.mem_of_getElem? (i := 1270) (by decide +kernel), List.mem_of_getElem? (i := 1271) (by decide +kernel)⟩
theorem lw_p38 : lw_okq (⟨"RobotCellHouse$Reader", "sum", "()V"⟩, 17) := ⟨⟨by decide +kernel, by decide +kernel⟩, List.mem_of_getElem? (i := 30) (by decide +kernel), List.mem_of_getElem? (i := 1274) (by decide +kernel), List.mem_of_getElem? (i := 1275) (by decide +kernel)⟩
theorem lw_p39 : lw_okq (⟨"RobotCellHouse$Reader", "product", "()V"⟩, 17) := ⟨⟨by decide +kernel, by decide +kernel⟩, List.mem_of_getElem? (i := 30) (by decide +kernel), List.mem_of_getElem? (i := 1278) (by decide +kernel), List.mem_of_getElem? (i := 1279) (by decide +kernel)⟩
theorem lw_p40 : lw_okq (⟨"RobotCellHouse$Reader", "one", "()V"⟩, 17) := ⟨⟨by decide +kernel, by decide +kernel⟩, List.mem_of_getElem? (i := 30) (by decide +kernel), List.mem_of_getElem? (i := 1282) (by decide +kernel), List.mem_of_getElem? (i := 1283) (by decide +kernel)⟩
theorem lw_p41 : lw_okq (⟨"RobotCellHouse$Reader", "emitNumber", "()V"⟩, 17) := ⟨⟨by decide +kernel, by decide +kernel⟩, List.mem_of_getElem? (i := 30) (by decide +kernel), List.mem_of_getElem? (i := 1286) (by decide +kernel), List.mem_of_getElem? (i := 1287) (by decide +kernel)⟩
theorem lw_p42 : lw_okq (⟨"RobotCellHouse$Reader", "inParentheses", "()V"⟩, 17) := ⟨⟨by decide +kernel, by decide +kernel⟩, List.mem_of_getElem? (i := 30) (by decide +kernel), List.mem_of_getElem? (i := 1291) (by decide +kernel), List.mem_of_getElem? (i := 1292) (by decide +kernel)⟩
theorem lw_p43 : lw_okq (⟨"RobotCellHouse$Reader", "comparison", "()I"⟩, 17) := ⟨⟨by decide +kernel, by decide +kernel⟩, List.mem_of_getElem? (i := 30) (by decide +kernel), List.mem_of_getElem? (i := 1295) (by decide +kernel), List.mem_of_getElem? (i := 1296) (by decide +kernel)⟩
theorem lw_p44 : lw_okq (⟨"RobotCellHouse$Reader", "movement", "()V"⟩, 17) := ⟨⟨by decide +kernel, by decide +kernel⟩, List.mem_of_getElem? (i := 30) (by decide +kernel), List.mem_of_getElem? (i := 1303) (by decide +kernel), List.mem_of_getElem? (i := 1304) (by decide +kernel)⟩
theorem lw_p45 : lw_okq (⟨"RobotCellHouse$Reader", "withNumber", "(I)V"⟩, 17) := ⟨⟨by decide +kernel, by decide +kernel⟩, List.mem_of_getElem? (i := 30) (by decide +kernel), List.mem_of_getElem? (i := 1307) (by decide +kernel), List.mem_of_getElem? (i := 1308) (by decide +kernel)⟩
theorem lw_p46 : lw_okq (⟨"RobotCellHouse$Reader", "setting", "()V"⟩, 17) := ⟨⟨by decide +kernel, by decide +kernel⟩, List.mem_of_getElem? (i := 30) (by decide +kernel), List.mem_of_getElem? (i := 1311) (by decide +kernel), List.mem_of_getElem? (i := 1312) (by decide +kernel)⟩
theorem lw_p47 : lw_okq (⟨"RobotCellHouse$Reader", "withRoutine", "(I)V"⟩, 17) := ⟨⟨by decide +kernel, by decide +kernel⟩, List.mem_of_getElem? (i := 30) (by decide +kernel), List.mem_of_getElem? (i := 1315) (by decide +kernel), List.mem_of_getElem? (i := 1316) (by decide +kernel)⟩
def lw_privs_3 : List (MethodName × Nat) := [(⟨"RobotCellHouse$Reader", "assignment", "()V"⟩, 17), (⟨"RobotCellHouse$Reader", "variableHere", "()I"⟩, 17), (⟨"RobotCellHouse$Reader", "exp", "()V"⟩, 17), (⟨"RobotCellHouse$Reader", "all", "()V"⟩, 17), (⟨"RobotCellHouse$Reader", "fact", "()V"⟩, 17), (⟨"RobotCellHouse$Reader", "opens", "()Z"⟩, 17), (⟨"RobotCellHouse$Reader", "sum", "()V"⟩, 17), (⟨"RobotCellHouse$Reader", "product", "()V"⟩, 17), (⟨"RobotCellHouse$Reader", "one", "()V"⟩, 17), (⟨"RobotCellHouse$Reader", "emitNumber", "()V"⟩, 17), (⟨"RobotCellHouse$Reader", "inParentheses", "()V"⟩, 17), (⟨"RobotCellHouse$Reader", "comparison", "()I"⟩, 17), (⟨"RobotCellHouse$Reader", "movement", "()V"⟩, 17), (⟨"RobotCellHouse$Reader", "withNumber", "(I)V"⟩, 17), (⟨"RobotCellHouse$Reader", "setting", "()V"⟩, 17), (⟨"RobotCellHouse$Reader", "withRoutine", "(I)V"⟩, 17)]
theorem lw_r3 : ∀ q ∈ lw_privs_3, lw_okq q := List.forall_mem_cons.mpr ⟨lw_p32, List.forall_mem_cons.mpr ⟨lw_p33, List.forall_mem_cons.mpr ⟨lw_p34, List.forall_mem_cons.mpr ⟨lw_p35, List.forall_mem_cons.mpr ⟨lw_p36, List.forall_mem_cons.mpr ⟨lw_p37, List.forall_mem_cons.mpr ⟨lw_p38, List.forall_mem_cons.mpr ⟨lw_p39, List.forall_mem_cons.mpr ⟨lw_p40, List.forall_mem_cons.mpr ⟨lw_p41, List.forall_mem_cons.mpr ⟨lw_p42, List.forall_mem_cons.mpr ⟨lw_p43, List.forall_mem_cons.mpr ⟨lw_p44, List.forall_mem_cons.mpr ⟨lw_p45, List.forall_mem_cons.mpr ⟨lw_p46, List.forall_mem_cons.mpr ⟨lw_p47, fun _ h => absurd h List.not_mem_nil⟩⟩⟩⟩⟩⟩⟩⟩⟩⟩⟩⟩⟩⟩⟩⟩
theorem lw_p48 : lw_okq (⟨"RobotCellHouse$Reader", "bare", "(I)V"⟩, 17) := ⟨⟨by decide +kernel, by decide +kernel⟩, List.mem_of_getElem? (i := 30) (by decide +kernel), List.mem_of_getElem? (i := 1319) (by decide +kernel), List.mem_of_getElem? (i := 1320) (by decide +kernel)⟩
theorem lw_p49 : lw_okq (⟨"RobotCellHouse$Reader", "watching", "()V"⟩, 17) := ⟨⟨by decide +kernel, by decide +kernel⟩, List.mem_of_getElem? (i := 30) (by decide +kernel), List.mem_of_getElem? (i := 1323) (by decide +kernel), List.mem_of_getElem? (i := 1324) (by decide +kernel)⟩
theorem lw_p50 : lw_okq (⟨"RobotCellHouse$Reader", "breaking", "()V"⟩, 17) := ⟨⟨by decide +kernel, by decide +kernel⟩, List.mem_of_getElem? (i := 30) (by decide +kernel), List.mem_of_getElem? (i := 1327) (by decide +kernel), List.mem_of_getElem? (i := 1328) (by decide +kernel)⟩
theorem lw_p51 : lw_okq (⟨"RobotCellHouse$Reader", "choice", "()V"⟩, 17) := ⟨⟨by decide +kernel, by decide +kernel⟩, List.mem_of_getElem? (i := 30) (by decide +kernel), List.mem_of_getElem? (i := 1331) (by decide +kernel), List.mem_of_getElem? (i := 1332) (by decide +kernel)⟩
theorem lw_p52 : lw_okq (⟨"RobotCellHouse$Reader", "repetition", "()V"⟩, 17) := ⟨⟨by decide +kernel, by decide +kernel⟩, List.mem_of_getElem? (i := 30) (by decide +kernel), List.mem_of_getElem? (i := 1335) (by decide +kernel), List.mem_of_getElem? (i := 1336) (by decide +kernel)⟩
theorem lw_p53 : lw_okq (⟨"RobotCellHouse$Reader", "attempt", "()V"⟩, 17) := ⟨⟨by decide +kernel, by decide +kernel⟩, List.mem_of_getElem? (i := 30) (by decide +kernel), List.mem_of_getElem? (i := 1339) (by decide +kernel), List.mem_of_getElem? (i := 1340) (by decide +kernel)⟩
theorem lw_p54 : lw_okq (⟨"RobotCellHouse$Reader", "laterPart", "(I)V"⟩, 17) := ⟨⟨by decide +kernel, by decide +kernel⟩, List.mem_of_getElem? (i := 30) (by decide +kernel), List.mem_of_getElem? (i := 1343) (by decide +kernel), List.mem_of_getElem? (i := 1344) (by decide +kernel)⟩
theorem lw_p55 : lw_okq (⟨"RobotCellHouse$Reader", "findRoutines", "()V"⟩, 17) := ⟨⟨by decide +kernel, by decide +kernel⟩, List.mem_of_getElem? (i := 30) (by decide +kernel), List.mem_of_getElem? (i := 1347) (by decide +kernel), List.mem_of_getElem? (i := 1348) (by decide +kernel)⟩
theorem lw_p56 : lw_okq (⟨"RobotCellHouse", "enter", "(IIII)I"⟩, 15) := ⟨⟨by decide +kernel, by decide +kernel⟩, List.mem_of_getElem? (i := 22) (by decide +kernel), List.mem_of_getElem? (i := 1380) (by decide +kernel), List.mem_of_getElem? (i := 1381) (by decide +kernel)⟩
theorem lw_p57 : lw_okq (⟨"RobotCellHouse", "isBookOpen", "()Z"⟩, 15) := ⟨⟨by decide +kernel, by decide +kernel⟩, List.mem_of_getElem? (i := 22) (by decide +kernel), List.mem_of_getElem? (i := 1384) (by decide +kernel), List.mem_of_getElem? (i := 1385) (by decide +kernel)⟩
theorem lw_p58 : lw_okq (⟨"RobotCellHouse", "write", "(IIII)V"⟩, 15) := ⟨⟨by decide +kernel, by decide +kernel⟩, List.mem_of_getElem? (i := 22) (by decide +kernel), List.mem_of_getElem? (i := 1388) (by decide +kernel), List.mem_of_getElem? (i := 1389) (by decide +kernel)⟩
theorem lw_p59 : lw_okq (⟨"RobotCellHouse", "carryOut", "(IIII)I"⟩, 15) := ⟨⟨by decide +kernel, by decide +kernel⟩, List.mem_of_getElem? (i := 22) (by decide +kernel), List.mem_of_getElem? (i := 1392) (by decide +kernel), List.mem_of_getElem? (i := 1393) (by decide +kernel)⟩
theorem lw_p60 : lw_okq (⟨"RobotCellHouse", "halt", "(I)I"⟩, 15) := ⟨⟨by decide +kernel, by decide +kernel⟩, List.mem_of_getElem? (i := 22) (by decide +kernel), List.mem_of_getElem? (i := 1422) (by decide +kernel), List.mem_of_getElem? (i := 1423) (by decide +kernel)⟩
theorem lw_p61 : lw_okq (⟨"RobotCellHouse", "trip", "(II)V"⟩, 15) := ⟨⟨by decide +kernel, by decide +kernel⟩, List.mem_of_getElem? (i := 22) (by decide +kernel), List.mem_of_getElem? (i := 1426) (by decide +kernel), List.mem_of_getElem? (i := 1427) (by decide +kernel)⟩
theorem lw_p62 : lw_okq (⟨"RobotCellHouse", "lead", "(III)I"⟩, 15) := ⟨⟨by decide +kernel, by decide +kernel⟩, List.mem_of_getElem? (i := 22) (by decide +kernel), List.mem_of_getElem? (i := 1449) (by decide +kernel), List.mem_of_getElem? (i := 1450) (by decide +kernel)⟩
theorem lw_p63 : lw_okq (⟨"RobotCellHouse", "tick", "()V"⟩, 15) := ⟨⟨by decide +kernel, by decide +kernel⟩, List.mem_of_getElem? (i := 22) (by decide +kernel), List.mem_of_getElem? (i := 1488) (by decide +kernel), List.mem_of_getElem? (i := 1489) (by decide +kernel)⟩
def lw_privs_4 : List (MethodName × Nat) := [(⟨"RobotCellHouse$Reader", "bare", "(I)V"⟩, 17), (⟨"RobotCellHouse$Reader", "watching", "()V"⟩, 17), (⟨"RobotCellHouse$Reader", "breaking", "()V"⟩, 17), (⟨"RobotCellHouse$Reader", "choice", "()V"⟩, 17), (⟨"RobotCellHouse$Reader", "repetition", "()V"⟩, 17), (⟨"RobotCellHouse$Reader", "attempt", "()V"⟩, 17), (⟨"RobotCellHouse$Reader", "laterPart", "(I)V"⟩, 17), (⟨"RobotCellHouse$Reader", "findRoutines", "()V"⟩, 17), (⟨"RobotCellHouse", "enter", "(IIII)I"⟩, 15), (⟨"RobotCellHouse", "isBookOpen", "()Z"⟩, 15), (⟨"RobotCellHouse", "write", "(IIII)V"⟩, 15), (⟨"RobotCellHouse", "carryOut", "(IIII)I"⟩, 15), (⟨"RobotCellHouse", "halt", "(I)I"⟩, 15), (⟨"RobotCellHouse", "trip", "(II)V"⟩, 15), (⟨"RobotCellHouse", "lead", "(III)I"⟩, 15), (⟨"RobotCellHouse", "tick", "()V"⟩, 15)]
theorem lw_r4 : ∀ q ∈ lw_privs_4, lw_okq q := List.forall_mem_cons.mpr ⟨lw_p48, List.forall_mem_cons.mpr ⟨lw_p49, List.forall_mem_cons.mpr ⟨lw_p50, List.forall_mem_cons.mpr ⟨lw_p51, List.forall_mem_cons.mpr ⟨lw_p52, List.forall_mem_cons.mpr ⟨lw_p53, List.forall_mem_cons.mpr ⟨lw_p54, List.forall_mem_cons.mpr ⟨lw_p55, List.forall_mem_cons.mpr ⟨lw_p56, List.forall_mem_cons.mpr ⟨lw_p57, List.forall_mem_cons.mpr ⟨lw_p58, List.forall_mem_cons.mpr ⟨lw_p59, List.forall_mem_cons.mpr ⟨lw_p60, List.forall_mem_cons.mpr ⟨lw_p61, List.forall_mem_cons.mpr ⟨lw_p62, List.forall_mem_cons.mpr ⟨lw_p63, fun _ h => absurd h List.not_mem_nil⟩⟩⟩⟩⟩⟩⟩⟩⟩⟩⟩⟩⟩⟩⟩⟩
theorem lw_p64 : lw_okq (⟨"RobotCellHouse$Core", "isWell", "(I)Z"⟩, 15) := ⟨⟨by decide +kernel, by decide +kernel⟩, List.mem_of_getElem? (i := 247) (by decide +kernel), List.mem_of_getElem? (i := 1496) (by decide +kernel), List.mem_of_getElem? (i := 1497) (by decide +kernel)⟩
theorem lw_p65 : lw_okq (⟨"RobotCellHouse$Doer", "goOn", "(LRobotCellHouse$Task;)V"⟩, 12) := ⟨⟨by decide +kernel, by decide +kernel⟩, List.mem_of_getElem? (i := 123) (by decide +kernel), List.mem_of_getElem? (i := 1509) (by decide +kernel), List.mem_of_getElem? (i := 1510) (by decide +kernel)⟩
theorem lw_p66 : lw_okq (⟨"RobotCellHouse$Doer", "raise", "(I)V"⟩, 12) := ⟨⟨by decide +kernel, by decide +kernel⟩, List.mem_of_getElem? (i := 123) (by decide +kernel), List.mem_of_getElem? (i := 1513) (by decide +kernel), List.mem_of_getElem? (i := 1514) (by decide +kernel)⟩
theorem lw_p67 : lw_okq (⟨"RobotCellHouse$Doer", "leaveByError", "(LRobotCellHouse$Task;LRobotCellHouse$Code;)V"⟩, 12) := ⟨⟨by decide +kernel, by decide +kernel⟩, List.mem_of_getElem? (i := 123) (by decide +kernel), List.mem_of_getElem? (i := 1520) (by decide +kernel), List.mem_of_getElem? (i := 1521) (by decide +kernel)⟩
theorem lw_p68 : lw_okq (⟨"RobotCellHouse$Task", "goToPart", "(II)V"⟩, 21) := ⟨⟨by decide +kernel, by decide +kernel⟩, List.mem_of_getElem? (i := 484) (by decide +kernel), List.mem_of_getElem? (i := 1529) (by decide +kernel), List.mem_of_getElem? (i := 1530) (by decide +kernel)⟩
theorem lw_p69 : lw_okq (⟨"RobotCellHouse$Doer", "failBy", "(LRobotCellHouse$Task;I)V"⟩, 12) := ⟨⟨by decide +kernel, by decide +kernel⟩, List.mem_of_getElem? (i := 123) (by decide +kernel), List.mem_of_getElem? (i := 1537) (by decide +kernel), List.mem_of_getElem? (i := 1538) (by decide +kernel)⟩
theorem lw_p70 : lw_okq (⟨"RobotCellHouse$Doer", "releaseAll", "(LRobotCellHouse$Task;)V"⟩, 12) := ⟨⟨by decide +kernel, by decide +kernel⟩, List.mem_of_getElem? (i := 123) (by decide +kernel), List.mem_of_getElem? (i := 1545) (by decide +kernel), List.mem_of_getElem? (i := 1546) (by decide +kernel)⟩
theorem lw_p71 : lw_okq (⟨"RobotCellHouse$Doer", "release", "(I)V"⟩, 12) := ⟨⟨by decide +kernel, by decide +kernel⟩, List.mem_of_getElem? (i := 123) (by decide +kernel), List.mem_of_getElem? (i := 1549) (by decide +kernel), List.mem_of_getElem? (i := 1550) (by decide +kernel)⟩
theorem lw_p72 : lw_okq (⟨"RobotCellHouse$Doer", "watchCalls", "(LRobotCellHouse$Task;LRobotCellHouse$Code;)Z"⟩, 12) := ⟨⟨by decide +kernel, by decide +kernel⟩, List.mem_of_getElem? (i := 123) (by decide +kernel), List.mem_of_getElem? (i := 1554) (by decide +kernel), List.mem_of_getElem? (i := 1555) (by decide +kernel)⟩
theorem lw_p73 : lw_okq (⟨"RobotCellHouse$Doer", "look", "(LRobotCellHouse$Task;II)V"⟩, 12) := ⟨⟨by decide +kernel, by decide +kernel⟩, List.mem_of_getElem? (i := 123) (by decide +kernel), List.mem_of_getElem? (i := 1559) (by decide +kernel), List.mem_of_getElem? (i := 1560) (by decide +kernel)⟩
theorem lw_p74 : lw_okq (⟨"RobotCellHouse$Doer", "push", "(I)V"⟩, 12) := ⟨⟨by decide +kernel, by decide +kernel⟩, List.mem_of_getElem? (i := 123) (by decide +kernel), List.mem_of_getElem? (i := 1563) (by decide +kernel), List.mem_of_getElem? (i := 1564) (by decide +kernel)⟩
theorem lw_p75 : lw_okq (⟨"RobotCellHouse$Doer", "pop", "()I"⟩, 12) := ⟨⟨by decide +kernel, by decide +kernel⟩, List.mem_of_getElem? (i := 123) (by decide +kernel), List.mem_of_getElem? (i := 1567) (by decide +kernel), List.mem_of_getElem? (i := 1568) (by decide +kernel)⟩
theorem lw_p76 : lw_okq (⟨"RobotCellHouse$Doer", "pushSignal", "(I)V"⟩, 12) := ⟨⟨by decide +kernel, by decide +kernel⟩, List.mem_of_getElem? (i := 123) (by decide +kernel), List.mem_of_getElem? (i := 1571) (by decide +kernel), List.mem_of_getElem? (i := 1572) (by decide +kernel)⟩
theorem lw_p77 : lw_okq (⟨"RobotCellHouse$Doer", "pushJoint", "(LRobotCellHouse$Arm;I)V"⟩, 12) := ⟨⟨by decide +kernel, by decide +kernel⟩, List.mem_of_getElem? (i := 123) (by decide +kernel), List.mem_of_getElem? (i := 1576) (by decide +kernel), List.mem_of_getElem? (i := 1577) (by decide +kernel)⟩
theorem lw_p78 : lw_okq (⟨"RobotCellHouse$Doer", "changeTop", "(LRobotCellHouse$Task;II)V"⟩, 12) := ⟨⟨by decide +kernel, by decide +kernel⟩, List.mem_of_getElem? (i := 123) (by decide +kernel), List.mem_of_getElem? (i := 1580) (by decide +kernel), List.mem_of_getElem? (i := 1581) (by decide +kernel)⟩
theorem lw_p79 : lw_okq (⟨"RobotCellHouse$Doer", "combine", "(III)V"⟩, 12) := ⟨⟨by decide +kernel, by decide +kernel⟩, List.mem_of_getElem? (i := 123) (by decide +kernel), List.mem_of_getElem? (i := 1584) (by decide +kernel), List.mem_of_getElem? (i := 1585) (by decide +kernel)⟩
def lw_privs_5 : List (MethodName × Nat) := [(⟨"RobotCellHouse$Core", "isWell", "(I)Z"⟩, 15), (⟨"RobotCellHouse$Doer", "goOn", "(LRobotCellHouse$Task;)V"⟩, 12), (⟨"RobotCellHouse$Doer", "raise", "(I)V"⟩, 12), (⟨"RobotCellHouse$Doer", "leaveByError", "(LRobotCellHouse$Task;LRobotCellHouse$Code;)V"⟩, 12), (⟨"RobotCellHouse$Task", "goToPart", "(II)V"⟩, 21), (⟨"RobotCellHouse$Doer", "failBy", "(LRobotCellHouse$Task;I)V"⟩, 12), (⟨"RobotCellHouse$Doer", "releaseAll", "(LRobotCellHouse$Task;)V"⟩, 12), (⟨"RobotCellHouse$Doer", "release", "(I)V"⟩, 12), (⟨"RobotCellHouse$Doer", "watchCalls", "(LRobotCellHouse$Task;LRobotCellHouse$Code;)Z"⟩, 12), (⟨"RobotCellHouse$Doer", "look", "(LRobotCellHouse$Task;II)V"⟩, 12), (⟨"RobotCellHouse$Doer", "push", "(I)V"⟩, 12), (⟨"RobotCellHouse$Doer", "pop", "()I"⟩, 12), (⟨"RobotCellHouse$Doer", "pushSignal", "(I)V"⟩, 12), (⟨"RobotCellHouse$Doer", "pushJoint", "(LRobotCellHouse$Arm;I)V"⟩, 12), (⟨"RobotCellHouse$Doer", "changeTop", "(LRobotCellHouse$Task;II)V"⟩, 12), (⟨"RobotCellHouse$Doer", "combine", "(III)V"⟩, 12)]
theorem lw_r5 : ∀ q ∈ lw_privs_5, lw_okq q := List.forall_mem_cons.mpr ⟨lw_p64, List.forall_mem_cons.mpr ⟨lw_p65, List.forall_mem_cons.mpr ⟨lw_p66, List.forall_mem_cons.mpr ⟨lw_p67, List.forall_mem_cons.mpr ⟨lw_p68, List.forall_mem_cons.mpr ⟨lw_p69, List.forall_mem_cons.mpr ⟨lw_p70, List.forall_mem_cons.mpr ⟨lw_p71, List.forall_mem_cons.mpr ⟨lw_p72, List.forall_mem_cons.mpr ⟨lw_p73, List.forall_mem_cons.mpr ⟨lw_p74, List.forall_mem_cons.mpr ⟨lw_p75, List.forall_mem_cons.mpr ⟨lw_p76, List.forall_mem_cons.mpr ⟨lw_p77, List.forall_mem_cons.mpr ⟨lw_p78, List.forall_mem_cons.mpr ⟨lw_p79, fun _ h => absurd h List.not_mem_nil⟩⟩⟩⟩⟩⟩⟩⟩⟩⟩⟩⟩⟩⟩⟩⟩
theorem lw_p80 : lw_okq (⟨"RobotCellHouse$Doer", "act", "(LRobotCellHouse$Task;LRobotCellHouse$Code;II)V"⟩, 12) := ⟨⟨by decide +kernel, by decide +kernel⟩, List.mem_of_getElem? (i := 123) (by decide +kernel), List.mem_of_getElem? (i := 1588) (by decide +kernel), List.mem_of_getElem? (i := 1589) (by decide +kernel)⟩
theorem lw_p81 : lw_okq (⟨"RobotCellHouse$Doer", "collect", "(II)V"⟩, 12) := ⟨⟨by decide +kernel, by decide +kernel⟩, List.mem_of_getElem? (i := 123) (by decide +kernel), List.mem_of_getElem? (i := 1592) (by decide +kernel), List.mem_of_getElem? (i := 1593) (by decide +kernel)⟩
theorem lw_p82 : lw_okq (⟨"RobotCellHouse$Doer", "moveBy", "(LRobotCellHouse$Task;I)V"⟩, 12) := ⟨⟨by decide +kernel, by decide +kernel⟩, List.mem_of_getElem? (i := 123) (by decide +kernel), List.mem_of_getElem? (i := 1596) (by decide +kernel), List.mem_of_getElem? (i := 1597) (by decide +kernel)⟩
theorem lw_p83 : lw_okq (⟨"RobotCellHouse$Doer", "reachesGoals", "(LRobotCellHouse$Arm;)Z"⟩, 12) := ⟨⟨by decide +kernel, by decide +kernel⟩, List.mem_of_getElem? (i := 123) (by decide +kernel), List.mem_of_getElem? (i := 1600) (by decide +kernel), List.mem_of_getElem? (i := 1601) (by decide +kernel)⟩
theorem lw_p84 : lw_okq (⟨"RobotCellHouse$Doer", "waitFor", "(LRobotCellHouse$Task;I)V"⟩, 12) := ⟨⟨by decide +kernel, by decide +kernel⟩, List.mem_of_getElem? (i := 123) (by decide +kernel), List.mem_of_getElem? (i := 1610) (by decide +kernel), List.mem_of_getElem? (i := 1611) (by decide +kernel)⟩
theorem lw_p85 : lw_okq (⟨"RobotCellHouse$Doer", "waitUntil", "(LRobotCellHouse$Task;II)V"⟩, 12) := ⟨⟨by decide +kernel, by decide +kernel⟩, List.mem_of_getElem? (i := 123) (by decide +kernel), List.mem_of_getElem? (i := 1614) (by decide +kernel), List.mem_of_getElem? (i := 1615) (by decide +kernel)⟩
theorem lw_p86 : lw_okq (⟨"RobotCellHouse$Doer", "setPoint", "(II)V"⟩, 12) := ⟨⟨by decide +kernel, by decide +kernel⟩, List.mem_of_getElem? (i := 123) (by decide +kernel), List.mem_of_getElem? (i := 1618) (by decide +kernel), List.mem_of_getElem? (i := 1619) (by decide +kernel)⟩
theorem lw_p87 : lw_okq (⟨"RobotCellHouse$Doer", "takeLock", "(LRobotCellHouse$Task;I)V"⟩, 12) := ⟨⟨by decide +kernel, by decide +kernel⟩, List.mem_of_getElem? (i := 123) (by decide +kernel), List.mem_of_getElem? (i := 1623) (by decide +kernel), List.mem_of_getElem? (i := 1624) (by decide +kernel)⟩
theorem lw_p88 : lw_okq (⟨"RobotCellHouse$Doer", "freeLock", "(LRobotCellHouse$Task;I)V"⟩, 12) := ⟨⟨by decide +kernel, by decide +kernel⟩, List.mem_of_getElem? (i := 123) (by decide +kernel), List.mem_of_getElem? (i := 1627) (by decide +kernel), List.mem_of_getElem? (i := 1628) (by decide +kernel)⟩
theorem lw_p89 : lw_okq (⟨"RobotCellHouse$Doer", "grip", "(I)V"⟩, 12) := ⟨⟨by decide +kernel, by decide +kernel⟩, List.mem_of_getElem? (i := 123) (by decide +kernel), List.mem_of_getElem? (i := 1632) (by decide +kernel), List.mem_of_getElem? (i := 1633) (by decide +kernel)⟩
theorem lw_p90 : lw_okq (⟨"RobotCellHouse$Doer", "drop", "(I)V"⟩, 12) := ⟨⟨by decide +kernel, by decide +kernel⟩, List.mem_of_getElem? (i := 123) (by decide +kernel), List.mem_of_getElem? (i := 1656) (by decide +kernel), List.mem_of_getElem? (i := 1657) (by decide +kernel)⟩
theorem lw_p91 : lw_okq (⟨"RobotCellHouse$Doer", "watch", "(LRobotCellHouse$Task;II)V"⟩, 12) := ⟨⟨by decide +kernel, by decide +kernel⟩, List.mem_of_getElem? (i := 123) (by decide +kernel), List.mem_of_getElem? (i := 1668) (by decide +kernel), List.mem_of_getElem? (i := 1669) (by decide +kernel)⟩
theorem lw_p92 : lw_okq (⟨"RobotCellHouse$Doer", "lead", "(LRobotCellHouse$Task;LRobotCellHouse$Code;II)V"⟩, 12) := ⟨⟨by decide +kernel, by decide +kernel⟩, List.mem_of_getElem? (i := 123) (by decide +kernel), List.mem_of_getElem? (i := 1672) (by decide +kernel), List.mem_of_getElem? (i := 1673) (by decide +kernel)⟩
theorem lw_p93 : lw_okq (⟨"RobotCellHouse$Doer", "leaveFurther", "(LRobotCellHouse$Task;LRobotCellHouse$Code;I)V"⟩, 12) := ⟨⟨by decide +kernel, by decide +kernel⟩, List.mem_of_getElem? (i := 123) (by decide +kernel), List.mem_of_getElem? (i := 1689) (by decide +kernel), List.mem_of_getElem? (i := 1690) (by decide +kernel)⟩
theorem lw_p94 : lw_okq (⟨"RobotCellHouse$Doer", "endIfLeft", "(LRobotCellHouse$Task;)V"⟩, 12) := ⟨⟨by decide +kernel, by decide +kernel⟩, List.mem_of_getElem? (i := 123) (by decide +kernel), List.mem_of_getElem? (i := 1697) (by decide +kernel), List.mem_of_getElem? (i := 1698) (by decide +kernel)⟩
theorem lw_p95 : lw_okq (⟨"RobotCellHouse", "goOn", "(I)V"⟩, 15) := ⟨⟨by decide +kernel, by decide +kernel⟩, List.mem_of_getElem? (i := 22) (by decide +kernel), List.mem_of_getElem? (i := 1701) (by decide +kernel), List.mem_of_getElem? (i := 1702) (by decide +kernel)⟩
def lw_privs_6 : List (MethodName × Nat) := [(⟨"RobotCellHouse$Doer", "act", "(LRobotCellHouse$Task;LRobotCellHouse$Code;II)V"⟩, 12), (⟨"RobotCellHouse$Doer", "collect", "(II)V"⟩, 12), (⟨"RobotCellHouse$Doer", "moveBy", "(LRobotCellHouse$Task;I)V"⟩, 12), (⟨"RobotCellHouse$Doer", "reachesGoals", "(LRobotCellHouse$Arm;)Z"⟩, 12), (⟨"RobotCellHouse$Doer", "waitFor", "(LRobotCellHouse$Task;I)V"⟩, 12), (⟨"RobotCellHouse$Doer", "waitUntil", "(LRobotCellHouse$Task;II)V"⟩, 12), (⟨"RobotCellHouse$Doer", "setPoint", "(II)V"⟩, 12), (⟨"RobotCellHouse$Doer", "takeLock", "(LRobotCellHouse$Task;I)V"⟩, 12), (⟨"RobotCellHouse$Doer", "freeLock", "(LRobotCellHouse$Task;I)V"⟩, 12), (⟨"RobotCellHouse$Doer", "grip", "(I)V"⟩, 12), (⟨"RobotCellHouse$Doer", "drop", "(I)V"⟩, 12), (⟨"RobotCellHouse$Doer", "watch", "(LRobotCellHouse$Task;II)V"⟩, 12), (⟨"RobotCellHouse$Doer", "lead", "(LRobotCellHouse$Task;LRobotCellHouse$Code;II)V"⟩, 12), (⟨"RobotCellHouse$Doer", "leaveFurther", "(LRobotCellHouse$Task;LRobotCellHouse$Code;I)V"⟩, 12), (⟨"RobotCellHouse$Doer", "endIfLeft", "(LRobotCellHouse$Task;)V"⟩, 12), (⟨"RobotCellHouse", "goOn", "(I)V"⟩, 15)]
theorem lw_r6 : ∀ q ∈ lw_privs_6, lw_okq q := List.forall_mem_cons.mpr ⟨lw_p80, List.forall_mem_cons.mpr ⟨lw_p81, List.forall_mem_cons.mpr ⟨lw_p82, List.forall_mem_cons.mpr ⟨lw_p83, List.forall_mem_cons.mpr ⟨lw_p84, List.forall_mem_cons.mpr ⟨lw_p85, List.forall_mem_cons.mpr ⟨lw_p86, List.forall_mem_cons.mpr ⟨lw_p87, List.forall_mem_cons.mpr ⟨lw_p88, List.forall_mem_cons.mpr ⟨lw_p89, List.forall_mem_cons.mpr ⟨lw_p90, List.forall_mem_cons.mpr ⟨lw_p91, List.forall_mem_cons.mpr ⟨lw_p92, List.forall_mem_cons.mpr ⟨lw_p93, List.forall_mem_cons.mpr ⟨lw_p94, List.forall_mem_cons.mpr ⟨lw_p95, fun _ h => absurd h List.not_mem_nil⟩⟩⟩⟩⟩⟩⟩⟩⟩⟩⟩⟩⟩⟩⟩⟩
theorem lw_p96 : lw_okq (⟨"RobotCellHouse$Joint", "wayToRest", "(I)I"⟩, 12) := ⟨⟨by decide +kernel, by decide +kernel⟩, List.mem_of_getElem? (i := 323) (by decide +kernel), List.mem_of_getElem? (i := 1723) (by decide +kernel), List.mem_of_getElem? (i := 1724) (by decide +kernel)⟩
theorem lw_p97 : lw_okq (⟨"RobotCellHouse", "endMove", "(I)V"⟩, 15) := ⟨⟨by decide +kernel, by decide +kernel⟩, List.mem_of_getElem? (i := 22) (by decide +kernel), List.mem_of_getElem? (i := 1736) (by decide +kernel), List.mem_of_getElem? (i := 1737) (by decide +kernel)⟩
theorem lw_p98 : lw_okq (⟨"RobotCellHouse", "guard", "()V"⟩, 15) := ⟨⟨by decide +kernel, by decide +kernel⟩, List.mem_of_getElem? (i := 22) (by decide +kernel), List.mem_of_getElem? (i := 1761) (by decide +kernel), List.mem_of_getElem? (i := 1762) (by decide +kernel)⟩
theorem lw_p99 : lw_okq (⟨"RobotCellHouse", "firstTouching", "()I"⟩, 15) := ⟨⟨by decide +kernel, by decide +kernel⟩, List.mem_of_getElem? (i := 22) (by decide +kernel), List.mem_of_getElem? (i := 1765) (by decide +kernel), List.mem_of_getElem? (i := 1766) (by decide +kernel)⟩
theorem lw_p100 : lw_okq (⟨"RobotCellHouse$Shapes", "nearBodies", "(LRobotCellHouse$Arm;II)Z"⟩, 17) := ⟨⟨by decide +kernel, by decide +kernel⟩, List.mem_of_getElem? (i := 612) (by decide +kernel), List.mem_of_getElem? (i := 1781) (by decide +kernel), List.mem_of_getElem? (i := 1782) (by decide +kernel)⟩
theorem lw_p101 : lw_okq (⟨"RobotCellHouse$Shapes", "nearLine", "(IIIII)Z"⟩, 17) := ⟨⟨by decide +kernel, by decide +kernel⟩, List.mem_of_getElem? (i := 612) (by decide +kernel), List.mem_of_getElem? (i := 1785) (by decide +kernel), List.mem_of_getElem? (i := 1786) (by decide +kernel)⟩
theorem lw_p102 : lw_okq (⟨"RobotCellHouse$Shapes", "isBeyond", "(IIIII)Z"⟩, 17) := ⟨⟨by decide +kernel, by decide +kernel⟩, List.mem_of_getElem? (i := 612) (by decide +kernel), List.mem_of_getElem? (i := 1789) (by decide +kernel), List.mem_of_getElem? (i := 1790) (by decide +kernel)⟩
theorem lw_p103 : lw_okq (⟨"RobotCellHouse$Shapes", "nearSolid", "(II)Z"⟩, 17) := ⟨⟨by decide +kernel, by decide +kernel⟩, List.mem_of_getElem? (i := 612) (by decide +kernel), List.mem_of_getElem? (i := 1803) (by decide +kernel), List.mem_of_getElem? (i := 1804) (by decide +kernel)⟩
theorem lw_p104 : lw_okq (⟨"RobotCellHouse", "countTravellers", "()V"⟩, 15) := ⟨⟨by decide +kernel, by decide +kernel⟩, List.mem_of_getElem? (i := 22) (by decide +kernel), List.mem_of_getElem? (i := 1808) (by decide +kernel), List.mem_of_getElem? (i := 1809) (by decide +kernel)⟩
theorem lw_p105 : lw_okq (⟨"RobotCellHouse$Shapes", "breaksZone", "(ILRobotCellHouse$Arm;I)Z"⟩, 17) := ⟨⟨by decide +kernel, by decide +kernel⟩, List.mem_of_getElem? (i := 612) (by decide +kernel), List.mem_of_getElem? (i := 1816) (by decide +kernel), List.mem_of_getElem? (i := 1817) (by decide +kernel)⟩
theorem lw_p106 : lw_okq (⟨"RobotCellHouse$Planner", "takeValues", "(LRobotCellHouse$Arm;I)V"⟩, 13) := ⟨⟨by decide +kernel, by decide +kernel⟩, List.mem_of_getElem? (i := 673) (by decide +kernel), List.mem_of_getElem? (i := 1892) (by decide +kernel), List.mem_of_getElem? (i := 1893) (by decide +kernel)⟩
theorem lw_p107 : lw_okq (⟨"RobotCellHouse$Planner", "digit", "(II)I"⟩, 13) := ⟨⟨by decide +kernel, by decide +kernel⟩, List.mem_of_getElem? (i := 673) (by decide +kernel), List.mem_of_getElem? (i := 1896) (by decide +kernel), List.mem_of_getElem? (i := 1897) (by decide +kernel)⟩
theorem lw_p108 : lw_okq (⟨"RobotCellHouse$Planner", "neighbour", "(II)I"⟩, 13) := ⟨⟨by decide +kernel, by decide +kernel⟩, List.mem_of_getElem? (i := 673) (by decide +kernel), List.mem_of_getElem? (i := 1900) (by decide +kernel), List.mem_of_getElem? (i := 1901) (by decide +kernel)⟩
theorem lw_p109 : lw_okq (⟨"RobotCellHouse$Planner", "passes", "([LRobotCellHouse$Arm;ILRobotCellHouse$Shapes;III)Z"⟩, 13) := ⟨⟨by decide +kernel, by decide +kernel⟩, List.mem_of_getElem? (i := 673) (by decide +kernel), List.mem_of_getElem? (i := 1904) (by decide +kernel), List.mem_of_getElem? (i := 1905) (by decide +kernel)⟩
theorem lw_p110 : lw_okq (⟨"RobotCellHouse$Planner", "before", "(I)I"⟩, 13) := ⟨⟨by decide +kernel, by decide +kernel⟩, List.mem_of_getElem? (i := 673) (by decide +kernel), List.mem_of_getElem? (i := 1913) (by decide +kernel), List.mem_of_getElem? (i := 1914) (by decide +kernel)⟩
theorem lw_p111 : lw_okq (⟨"RobotCellHouseModel", "makeSines", "()V"⟩, 119) := ⟨⟨by decide +kernel, by decide +kernel⟩, List.mem_of_getElem? (i := 2001) (by decide +kernel), List.mem_of_getElem? (i := 2011) (by decide +kernel), List.mem_of_getElem? (i := 2012) (by decide +kernel)⟩
def lw_privs_7 : List (MethodName × Nat) := [(⟨"RobotCellHouse$Joint", "wayToRest", "(I)I"⟩, 12), (⟨"RobotCellHouse", "endMove", "(I)V"⟩, 15), (⟨"RobotCellHouse", "guard", "()V"⟩, 15), (⟨"RobotCellHouse", "firstTouching", "()I"⟩, 15), (⟨"RobotCellHouse$Shapes", "nearBodies", "(LRobotCellHouse$Arm;II)Z"⟩, 17), (⟨"RobotCellHouse$Shapes", "nearLine", "(IIIII)Z"⟩, 17), (⟨"RobotCellHouse$Shapes", "isBeyond", "(IIIII)Z"⟩, 17), (⟨"RobotCellHouse$Shapes", "nearSolid", "(II)Z"⟩, 17), (⟨"RobotCellHouse", "countTravellers", "()V"⟩, 15), (⟨"RobotCellHouse$Shapes", "breaksZone", "(ILRobotCellHouse$Arm;I)Z"⟩, 17), (⟨"RobotCellHouse$Planner", "takeValues", "(LRobotCellHouse$Arm;I)V"⟩, 13), (⟨"RobotCellHouse$Planner", "digit", "(II)I"⟩, 13), (⟨"RobotCellHouse$Planner", "neighbour", "(II)I"⟩, 13), (⟨"RobotCellHouse$Planner", "passes", "([LRobotCellHouse$Arm;ILRobotCellHouse$Shapes;III)Z"⟩, 13), (⟨"RobotCellHouse$Planner", "before", "(I)I"⟩, 13), (⟨"RobotCellHouseModel", "makeSines", "()V"⟩, 119)]
theorem lw_r7 : ∀ q ∈ lw_privs_7, lw_okq q := List.forall_mem_cons.mpr ⟨lw_p96, List.forall_mem_cons.mpr ⟨lw_p97, List.forall_mem_cons.mpr ⟨lw_p98, List.forall_mem_cons.mpr ⟨lw_p99, List.forall_mem_cons.mpr ⟨lw_p100, List.forall_mem_cons.mpr ⟨lw_p101, List.forall_mem_cons.mpr ⟨lw_p102, List.forall_mem_cons.mpr ⟨lw_p103, List.forall_mem_cons.mpr ⟨lw_p104, List.forall_mem_cons.mpr ⟨lw_p105, List.forall_mem_cons.mpr ⟨lw_p106, List.forall_mem_cons.mpr ⟨lw_p107, List.forall_mem_cons.mpr ⟨lw_p108, List.forall_mem_cons.mpr ⟨lw_p109, List.forall_mem_cons.mpr ⟨lw_p110, List.forall_mem_cons.mpr ⟨lw_p111, fun _ h => absurd h List.not_mem_nil⟩⟩⟩⟩⟩⟩⟩⟩⟩⟩⟩⟩⟩⟩⟩⟩
theorem lw_p112 : lw_okq (⟨"RobotCellHouseModel", "renew", "()V"⟩, 119) := ⟨⟨by decide +kernel, by decide +kernel⟩, List.mem_of_getElem? (i := 2001) (by decide +kernel), List.mem_of_getElem? (i := 2026) (by decide +kernel), List.mem_of_getElem? (i := 2027) (by decide +kernel)⟩
theorem lw_p113 : lw_okq (⟨"RobotCellHouseModel", "word", "(I)V"⟩, 119) := ⟨⟨by decide +kernel, by decide +kernel⟩, List.mem_of_getElem? (i := 2001) (by decide +kernel), List.mem_of_getElem? (i := 2398) (by decide +kernel), List.mem_of_getElem? (i := 2399) (by decide +kernel)⟩
theorem lw_p114 : lw_okq (⟨"RobotCellHouseModel", "isArm", "(I)Z"⟩, 119) := ⟨⟨by decide +kernel, by decide +kernel⟩, List.mem_of_getElem? (i := 2001) (by decide +kernel), List.mem_of_getElem? (i := 2425) (by decide +kernel), List.mem_of_getElem? (i := 2426) (by decide +kernel)⟩
theorem lw_p115 : lw_okq (⟨"RobotCellHouseModel", "isJoint", "(II)Z"⟩, 119) := ⟨⟨by decide +kernel, by decide +kernel⟩, List.mem_of_getElem? (i := 2001) (by decide +kernel), List.mem_of_getElem? (i := 2434) (by decide +kernel), List.mem_of_getElem? (i := 2435) (by decide +kernel)⟩
theorem lw_p116 : lw_okq (⟨"RobotCellHouseModel", "solid", "(ZIIII)I"⟩, 119) := ⟨⟨by decide +kernel, by decide +kernel⟩, List.mem_of_getElem? (i := 2001) (by decide +kernel), List.mem_of_getElem? (i := 2452) (by decide +kernel), List.mem_of_getElem? (i := 2453) (by decide +kernel)⟩
theorem lw_p117 : lw_okq (⟨"RobotCellHouseModel", "comes", "(III)V"⟩, 119) := ⟨⟨by decide +kernel, by decide +kernel⟩, List.mem_of_getElem? (i := 2001) (by decide +kernel), List.mem_of_getElem? (i := 2487) (by decide +kernel), List.mem_of_getElem? (i := 2488) (by decide +kernel)⟩
theorem lw_p118 : lw_okq (⟨"RobotCellHouseModel", "lies", "(III)V"⟩, 119) := ⟨⟨by decide +kernel, by decide +kernel⟩, List.mem_of_getElem? (i := 2001) (by decide +kernel), List.mem_of_getElem? (i := 2498) (by decide +kernel), List.mem_of_getElem? (i := 2499) (by decide +kernel)⟩
theorem lw_p119 : lw_okq (⟨"RobotCellHouseModel", "keepPoints", "()V"⟩, 119) := ⟨⟨by decide +kernel, by decide +kernel⟩, List.mem_of_getElem? (i := 2001) (by decide +kernel), List.mem_of_getElem? (i := 2530) (by decide +kernel), List.mem_of_getElem? (i := 2531) (by decide +kernel)⟩
theorem lw_p120 : lw_okq (⟨"RobotCellHouseModel", "allPoints", "()V"⟩, 119) := ⟨⟨by decide +kernel, by decide +kernel⟩, List.mem_of_getElem? (i := 2001) (by decide +kernel), List.mem_of_getElem? (i := 2534) (by decide +kernel), List.mem_of_getElem? (i := 2535) (by decide +kernel)⟩
theorem lw_p121 : lw_okq (⟨"RobotCellHouseModel", "points", "(IZ)V"⟩, 119) := ⟨⟨by decide +kernel, by decide +kernel⟩, List.mem_of_getElem? (i := 2001) (by decide +kernel), List.mem_of_getElem? (i := 2538) (by decide +kernel), List.mem_of_getElem? (i := 2539) (by decide +kernel)⟩
theorem lw_p122 : lw_okq (⟨"RobotCellHouseModel", "sine", "(I)I"⟩, 119) := ⟨⟨by decide +kernel, by decide +kernel⟩, List.mem_of_getElem? (i := 2001) (by decide +kernel), List.mem_of_getElem? (i := 2543) (by decide +kernel), List.mem_of_getElem? (i := 2544) (by decide +kernel)⟩
theorem lw_p123 : lw_okq (⟨"RobotCellHouseModel", "any", "(III)Z"⟩, 119) := ⟨⟨by decide +kernel, by decide +kernel⟩, List.mem_of_getElem? (i := 2001) (by decide +kernel), List.mem_of_getElem? (i := 2552) (by decide +kernel), List.mem_of_getElem? (i := 2553) (by decide +kernel)⟩
theorem lw_p124 : lw_okq (⟨"RobotCellHouseModel", "alone", "(III)Z"⟩, 119) := ⟨⟨by decide +kernel, by decide +kernel⟩, List.mem_of_getElem? (i := 2001) (by decide +kernel), List.mem_of_getElem? (i := 2556) (by decide +kernel), List.mem_of_getElem? (i := 2557) (by decide +kernel)⟩
theorem lw_p125 : lw_okq (⟨"RobotCellHouseModel", "bodies", "(I)I"⟩, 119) := ⟨⟨by decide +kernel, by decide +kernel⟩, List.mem_of_getElem? (i := 2001) (by decide +kernel), List.mem_of_getElem? (i := 2560) (by decide +kernel), List.mem_of_getElem? (i := 2561) (by decide +kernel)⟩
theorem lw_p126 : lw_okq (⟨"RobotCellHouseModel", "touchBodies", "(IIIIIII)Z"⟩, 119) := ⟨⟨by decide +kernel, by decide +kernel⟩, List.mem_of_getElem? (i := 2001) (by decide +kernel), List.mem_of_getElem? (i := 2564) (by decide +kernel), List.mem_of_getElem? (i := 2565) (by decide +kernel)⟩
theorem lw_p127 : lw_okq (⟨"RobotCellHouseModel", "body", "(III)V"⟩, 119) := ⟨⟨by decide +kernel, by decide +kernel⟩, List.mem_of_getElem? (i := 2001) (by decide +kernel), List.mem_of_getElem? (i := 2568) (by decide +kernel), List.mem_of_getElem? (i := 2569) (by decide +kernel)⟩
def lw_privs_8 : List (MethodName × Nat) := [(⟨"RobotCellHouseModel", "renew", "()V"⟩, 119), (⟨"RobotCellHouseModel", "word", "(I)V"⟩, 119), (⟨"RobotCellHouseModel", "isArm", "(I)Z"⟩, 119), (⟨"RobotCellHouseModel", "isJoint", "(II)Z"⟩, 119), (⟨"RobotCellHouseModel", "solid", "(ZIIII)I"⟩, 119), (⟨"RobotCellHouseModel", "comes", "(III)V"⟩, 119), (⟨"RobotCellHouseModel", "lies", "(III)V"⟩, 119), (⟨"RobotCellHouseModel", "keepPoints", "()V"⟩, 119), (⟨"RobotCellHouseModel", "allPoints", "()V"⟩, 119), (⟨"RobotCellHouseModel", "points", "(IZ)V"⟩, 119), (⟨"RobotCellHouseModel", "sine", "(I)I"⟩, 119), (⟨"RobotCellHouseModel", "any", "(III)Z"⟩, 119), (⟨"RobotCellHouseModel", "alone", "(III)Z"⟩, 119), (⟨"RobotCellHouseModel", "bodies", "(I)I"⟩, 119), (⟨"RobotCellHouseModel", "touchBodies", "(IIIIIII)Z"⟩, 119), (⟨"RobotCellHouseModel", "body", "(III)V"⟩, 119)]
theorem lw_r8 : ∀ q ∈ lw_privs_8, lw_okq q := List.forall_mem_cons.mpr ⟨lw_p112, List.forall_mem_cons.mpr ⟨lw_p113, List.forall_mem_cons.mpr ⟨lw_p114, List.forall_mem_cons.mpr ⟨lw_p115, List.forall_mem_cons.mpr ⟨lw_p116, List.forall_mem_cons.mpr ⟨lw_p117, List.forall_mem_cons.mpr ⟨lw_p118, List.forall_mem_cons.mpr ⟨lw_p119, List.forall_mem_cons.mpr ⟨lw_p120, List.forall_mem_cons.mpr ⟨lw_p121, List.forall_mem_cons.mpr ⟨lw_p122, List.forall_mem_cons.mpr ⟨lw_p123, List.forall_mem_cons.mpr ⟨lw_p124, List.forall_mem_cons.mpr ⟨lw_p125, List.forall_mem_cons.mpr ⟨lw_p126, List.forall_mem_cons.mpr ⟨lw_p127, fun _ h => absurd h List.not_mem_nil⟩⟩⟩⟩⟩⟩⟩⟩⟩⟩⟩⟩⟩⟩⟩⟩
theorem lw_p128 : lw_okq (⟨"RobotCellHouseModel", "bodyLine", "([I)V"⟩, 119) := ⟨⟨by decide +kernel, by decide +kernel⟩, List.mem_of_getElem? (i := 2001) (by decide +kernel), List.mem_of_getElem? (i := 2572) (by decide +kernel), List.mem_of_getElem? (i := 2573) (by decide +kernel)⟩
theorem lw_p129 : lw_okq (⟨"RobotCellHouseModel", "line", "([IIIII)V"⟩, 119) := ⟨⟨by decide +kernel, by decide +kernel⟩, List.mem_of_getElem? (i := 2001) (by decide +kernel), List.mem_of_getElem? (i := 2576) (by decide +kernel), List.mem_of_getElem? (i := 2577) (by decide +kernel)⟩
theorem lw_p130 : lw_okq (⟨"RobotCellHouseModel", "touchSolid", "(IIIII)Z"⟩, 119) := ⟨⟨by decide +kernel, by decide +kernel⟩, List.mem_of_getElem? (i := 2001) (by decide +kernel), List.mem_of_getElem? (i := 2595) (by decide +kernel), List.mem_of_getElem? (i := 2596) (by decide +kernel)⟩
theorem lw_p131 : lw_okq (⟨"RobotCellHouseModel", "both", "(IIII)Z"⟩, 119) := ⟨⟨by decide +kernel, by decide +kernel⟩, List.mem_of_getElem? (i := 2001) (by decide +kernel), List.mem_of_getElem? (i := 2599) (by decide +kernel), List.mem_of_getElem? (i := 2600) (by decide +kernel)⟩
theorem lw_p132 : lw_okq (⟨"RobotCellHouseModel", "nextToken", "()V"⟩, 119) := ⟨⟨by decide +kernel, by decide +kernel⟩, List.mem_of_getElem? (i := 2001) (by decide +kernel), List.mem_of_getElem? (i := 2607) (by decide +kernel), List.mem_of_getElem? (i := 2608) (by decide +kernel)⟩
theorem lw_p133 : lw_okq (⟨"RobotCellHouseModel", "byteAt", "(I)I"⟩, 119) := ⟨⟨by decide +kernel, by decide +kernel⟩, List.mem_of_getElem? (i := 2001) (by decide +kernel), List.mem_of_getElem? (i := 2611) (by decide +kernel), List.mem_of_getElem? (i := 2612) (by decide +kernel)⟩
theorem lw_p134 : lw_okq (⟨"RobotCellHouseModel", "readWord", "()V"⟩, 119) := ⟨⟨by decide +kernel, by decide +kernel⟩, List.mem_of_getElem? (i := 2001) (by decide +kernel), List.mem_of_getElem? (i := 2622) (by decide +kernel), List.mem_of_getElem? (i := 2623) (by decide +kernel)⟩
theorem lw_p135 : lw_okq (⟨"RobotCellHouseModel", "readNumber", "()V"⟩, 119) := ⟨⟨by decide +kernel, by decide +kernel⟩, List.mem_of_getElem? (i := 2001) (by decide +kernel), List.mem_of_getElem? (i := 2634) (by decide +kernel), List.mem_of_getElem? (i := 2635) (by decide +kernel)⟩
theorem lw_p136 : lw_okq (⟨"RobotCellHouseModel", "readSign", "(I)V"⟩, 119) := ⟨⟨by decide +kernel, by decide +kernel⟩, List.mem_of_getElem? (i := 2001) (by decide +kernel), List.mem_of_getElem? (i := 2640) (by decide +kernel), List.mem_of_getElem? (i := 2641) (by decide +kernel)⟩
theorem lw_p137 : lw_okq (⟨"RobotCellHouseModel", "text", "()V"⟩, 119) := ⟨⟨by decide +kernel, by decide +kernel⟩, List.mem_of_getElem? (i := 2001) (by decide +kernel), List.mem_of_getElem? (i := 2644) (by decide +kernel), List.mem_of_getElem? (i := 2645) (by decide +kernel)⟩
theorem lw_p138 : lw_okq (⟨"RobotCellHouseModel", "isKey", "(I)Z"⟩, 119) := ⟨⟨by decide +kernel, by decide +kernel⟩, List.mem_of_getElem? (i := 2001) (by decide +kernel), List.mem_of_getElem? (i := 2648) (by decide +kernel), List.mem_of_getElem? (i := 2649) (by decide +kernel)⟩
theorem lw_p139 : lw_okq (⟨"RobotCellHouseModel", "name", "(II)V"⟩, 119) := ⟨⟨by decide +kernel, by decide +kernel⟩, List.mem_of_getElem? (i := 2001) (by decide +kernel), List.mem_of_getElem? (i := 2652) (by decide +kernel), List.mem_of_getElem? (i := 2653) (by decide +kernel)⟩
theorem lw_p140 : lw_okq (⟨"RobotCellHouseModel", "must", "(Z)V"⟩, 119) := ⟨⟨by decide +kernel, by decide +kernel⟩, List.mem_of_getElem? (i := 2001) (by decide +kernel), List.mem_of_getElem? (i := 2656) (by decide +kernel), List.mem_of_getElem? (i := 2657) (by decide +kernel)⟩
theorem lw_p141 : lw_okq (⟨"RobotCellHouseModel", "refuse", "(I)V"⟩, 119) := ⟨⟨by decide +kernel, by decide +kernel⟩, List.mem_of_getElem? (i := 2001) (by decide +kernel), List.mem_of_getElem? (i := 2660) (by decide +kernel), List.mem_of_getElem? (i := 2661) (by decide +kernel)⟩
theorem lw_p142 : lw_okq (⟨"RobotCellHouseModel", "isSign", "(I)Z"⟩, 119) := ⟨⟨by decide +kernel, by decide +kernel⟩, List.mem_of_getElem? (i := 2001) (by decide +kernel), List.mem_of_getElem? (i := 2664) (by decide +kernel), List.mem_of_getElem? (i := 2665) (by decide +kernel)⟩
theorem lw_p143 : lw_okq (⟨"RobotCellHouseModel", "stats", "()V"⟩, 119) := ⟨⟨by decide +kernel, by decide +kernel⟩, List.mem_of_getElem? (i := 2001) (by decide +kernel), List.mem_of_getElem? (i := 2668) (by decide +kernel), List.mem_of_getElem? (i := 2669) (by decide +kernel)⟩
def lw_privs_9 : List (MethodName × Nat) := [(⟨"RobotCellHouseModel", "bodyLine", "([I)V"⟩, 119), (⟨"RobotCellHouseModel", "line", "([IIIII)V"⟩, 119), (⟨"RobotCellHouseModel", "touchSolid", "(IIIII)Z"⟩, 119), (⟨"RobotCellHouseModel", "both", "(IIII)Z"⟩, 119), (⟨"RobotCellHouseModel", "nextToken", "()V"⟩, 119), (⟨"RobotCellHouseModel", "byteAt", "(I)I"⟩, 119), (⟨"RobotCellHouseModel", "readWord", "()V"⟩, 119), (⟨"RobotCellHouseModel", "readNumber", "()V"⟩, 119), (⟨"RobotCellHouseModel", "readSign", "(I)V"⟩, 119), (⟨"RobotCellHouseModel", "text", "()V"⟩, 119), (⟨"RobotCellHouseModel", "isKey", "(I)Z"⟩, 119), (⟨"RobotCellHouseModel", "name", "(II)V"⟩, 119), (⟨"RobotCellHouseModel", "must", "(Z)V"⟩, 119), (⟨"RobotCellHouseModel", "refuse", "(I)V"⟩, 119), (⟨"RobotCellHouseModel", "isSign", "(I)Z"⟩, 119), (⟨"RobotCellHouseModel", "stats", "()V"⟩, 119)]
theorem lw_r9 : ∀ q ∈ lw_privs_9, lw_okq q := List.forall_mem_cons.mpr ⟨lw_p128, List.forall_mem_cons.mpr ⟨lw_p129, List.forall_mem_cons.mpr ⟨lw_p130, List.forall_mem_cons.mpr ⟨lw_p131, List.forall_mem_cons.mpr ⟨lw_p132, List.forall_mem_cons.mpr ⟨lw_p133, List.forall_mem_cons.mpr ⟨lw_p134, List.forall_mem_cons.mpr ⟨lw_p135, List.forall_mem_cons.mpr ⟨lw_p136, List.forall_mem_cons.mpr ⟨lw_p137, List.forall_mem_cons.mpr ⟨lw_p138, List.forall_mem_cons.mpr ⟨lw_p139, List.forall_mem_cons.mpr ⟨lw_p140, List.forall_mem_cons.mpr ⟨lw_p141, List.forall_mem_cons.mpr ⟨lw_p142, List.forall_mem_cons.mpr ⟨lw_p143, fun _ h => absurd h List.not_mem_nil⟩⟩⟩⟩⟩⟩⟩⟩⟩⟩⟩⟩⟩⟩⟩⟩
theorem lw_p144 : lw_okq (⟨"RobotCellHouseModel", "begins", "()Z"⟩, 119) := ⟨⟨by decide +kernel, by decide +kernel⟩, List.mem_of_getElem? (i := 2001) (by decide +kernel), List.mem_of_getElem? (i := 2672) (by decide +kernel), List.mem_of_getElem? (i := 2673) (by decide +kernel)⟩
theorem lw_p145 : lw_okq (⟨"RobotCellHouseModel", "emit", "(II)I"⟩, 119) := ⟨⟨by decide +kernel, by decide +kernel⟩, List.mem_of_getElem? (i := 2001) (by decide +kernel), List.mem_of_getElem? (i := 2677) (by decide +kernel), List.mem_of_getElem? (i := 2678) (by decide +kernel)⟩
theorem lw_p146 : lw_okq (⟨"RobotCellHouseModel", "exp", "()V"⟩, 119) := ⟨⟨by decide +kernel, by decide +kernel⟩, List.mem_of_getElem? (i := 2001) (by decide +kernel), List.mem_of_getElem? (i := 2682) (by decide +kernel), List.mem_of_getElem? (i := 2683) (by decide +kernel)⟩
theorem lw_p147 : lw_okq (⟨"RobotCellHouseModel", "all", "()V"⟩, 119) := ⟨⟨by decide +kernel, by decide +kernel⟩, List.mem_of_getElem? (i := 2001) (by decide +kernel), List.mem_of_getElem? (i := 2686) (by decide +kernel), List.mem_of_getElem? (i := 2687) (by decide +kernel)⟩
theorem lw_p148 : lw_okq (⟨"RobotCellHouseModel", "fact", "()V"⟩, 119) := ⟨⟨by decide +kernel, by decide +kernel⟩, List.mem_of_getElem? (i := 2001) (by decide +kernel), List.mem_of_getElem? (i := 2690) (by decide +kernel), List.mem_of_getElem? (i := 2691) (by decide +kernel)⟩
theorem lw_p149 : lw_okq (⟨"RobotCellHouseModel", "opened", "()V"⟩, 119) := ⟨⟨by decide +kernel, by decide +kernel⟩, List.mem_of_getElem? (i := 2001) (by decide +kernel), List.mem_of_getElem? (i := 2694) (by decide +kernel), List.mem_of_getElem? (i := 2695) (by decide +kernel)⟩
theorem lw_p150 : lw_okq (⟨"RobotCellHouseModel", "sum", "()V"⟩, 119) := ⟨⟨by decide +kernel, by decide +kernel⟩, List.mem_of_getElem? (i := 2001) (by decide +kernel), List.mem_of_getElem? (i := 2698) (by decide +kernel), List.mem_of_getElem? (i := 2699) (by decide +kernel)⟩
theorem lw_p151 : lw_okq (⟨"RobotCellHouseModel", "product", "()V"⟩, 119) := ⟨⟨by decide +kernel, by decide +kernel⟩, List.mem_of_getElem? (i := 2001) (by decide +kernel), List.mem_of_getElem? (i := 2702) (by decide +kernel), List.mem_of_getElem? (i := 2703) (by decide +kernel)⟩
theorem lw_p152 : lw_okq (⟨"RobotCellHouseModel", "single", "()V"⟩, 119) := ⟨⟨by decide +kernel, by decide +kernel⟩, List.mem_of_getElem? (i := 2001) (by decide +kernel), List.mem_of_getElem? (i := 2706) (by decide +kernel), List.mem_of_getElem? (i := 2707) (by decide +kernel)⟩
theorem lw_p153 : lw_okq (⟨"RobotCellHouseModel", "bracket", "()V"⟩, 119) := ⟨⟨by decide +kernel, by decide +kernel⟩, List.mem_of_getElem? (i := 2001) (by decide +kernel), List.mem_of_getElem? (i := 2710) (by decide +kernel), List.mem_of_getElem? (i := 2711) (by decide +kernel)⟩
theorem lw_p154 : lw_okq (⟨"RobotCellHouseModel", "closeChain", "(I)V"⟩, 119) := ⟨⟨by decide +kernel, by decide +kernel⟩, List.mem_of_getElem? (i := 2001) (by decide +kernel), List.mem_of_getElem? (i := 2714) (by decide +kernel), List.mem_of_getElem? (i := 2715) (by decide +kernel)⟩
theorem lw_p155 : lw_okq (⟨"RobotCellHouseModel", "patch", "(I)V"⟩, 119) := ⟨⟨by decide +kernel, by decide +kernel⟩, List.mem_of_getElem? (i := 2001) (by decide +kernel), List.mem_of_getElem? (i := 2718) (by decide +kernel), List.mem_of_getElem? (i := 2719) (by decide +kernel)⟩
theorem lw_p156 : lw_okq (⟨"RobotCellHouseModel", "branch", "()V"⟩, 119) := ⟨⟨by decide +kernel, by decide +kernel⟩, List.mem_of_getElem? (i := 2001) (by decide +kernel), List.mem_of_getElem? (i := 2722) (by decide +kernel), List.mem_of_getElem? (i := 2723) (by decide +kernel)⟩
theorem lw_p157 : lw_okq (⟨"RobotCellHouseModel", "again", "()V"⟩, 119) := ⟨⟨by decide +kernel, by decide +kernel⟩, List.mem_of_getElem? (i := 2001) (by decide +kernel), List.mem_of_getElem? (i := 2726) (by decide +kernel), List.mem_of_getElem? (i := 2727) (by decide +kernel)⟩
theorem lw_p158 : lw_okq (⟨"RobotCellHouseModel", "attempt", "()V"⟩, 119) := ⟨⟨by decide +kernel, by decide +kernel⟩, List.mem_of_getElem? (i := 2001) (by decide +kernel), List.mem_of_getElem? (i := 2730) (by decide +kernel), List.mem_of_getElem? (i := 2731) (by decide +kernel)⟩
theorem lw_p159 : lw_okq (⟨"RobotCellHouseModel", "plain", "(I)V"⟩, 119) := ⟨⟨by decide +kernel, by decide +kernel⟩, List.mem_of_getElem? (i := 2001) (by decide +kernel), List.mem_of_getElem? (i := 2734) (by decide +kernel), List.mem_of_getElem? (i := 2735) (by decide +kernel)⟩
def lw_privs_10 : List (MethodName × Nat) := [(⟨"RobotCellHouseModel", "begins", "()Z"⟩, 119), (⟨"RobotCellHouseModel", "emit", "(II)I"⟩, 119), (⟨"RobotCellHouseModel", "exp", "()V"⟩, 119), (⟨"RobotCellHouseModel", "all", "()V"⟩, 119), (⟨"RobotCellHouseModel", "fact", "()V"⟩, 119), (⟨"RobotCellHouseModel", "opened", "()V"⟩, 119), (⟨"RobotCellHouseModel", "sum", "()V"⟩, 119), (⟨"RobotCellHouseModel", "product", "()V"⟩, 119), (⟨"RobotCellHouseModel", "single", "()V"⟩, 119), (⟨"RobotCellHouseModel", "bracket", "()V"⟩, 119), (⟨"RobotCellHouseModel", "closeChain", "(I)V"⟩, 119), (⟨"RobotCellHouseModel", "patch", "(I)V"⟩, 119), (⟨"RobotCellHouseModel", "branch", "()V"⟩, 119), (⟨"RobotCellHouseModel", "again", "()V"⟩, 119), (⟨"RobotCellHouseModel", "attempt", "()V"⟩, 119), (⟨"RobotCellHouseModel", "plain", "(I)V"⟩, 119)]
theorem lw_r10 : ∀ q ∈ lw_privs_10, lw_okq q := List.forall_mem_cons.mpr ⟨lw_p144, List.forall_mem_cons.mpr ⟨lw_p145, List.forall_mem_cons.mpr ⟨lw_p146, List.forall_mem_cons.mpr ⟨lw_p147, List.forall_mem_cons.mpr ⟨lw_p148, List.forall_mem_cons.mpr ⟨lw_p149, List.forall_mem_cons.mpr ⟨lw_p150, List.forall_mem_cons.mpr ⟨lw_p151, List.forall_mem_cons.mpr ⟨lw_p152, List.forall_mem_cons.mpr ⟨lw_p153, List.forall_mem_cons.mpr ⟨lw_p154, List.forall_mem_cons.mpr ⟨lw_p155, List.forall_mem_cons.mpr ⟨lw_p156, List.forall_mem_cons.mpr ⟨lw_p157, List.forall_mem_cons.mpr ⟨lw_p158, List.forall_mem_cons.mpr ⟨lw_p159, fun _ h => absurd h List.not_mem_nil⟩⟩⟩⟩⟩⟩⟩⟩⟩⟩⟩⟩⟩⟩⟩⟩
theorem lw_p160 : lw_okq (⟨"RobotCellHouseModel", "resolve", "()V"⟩, 119) := ⟨⟨by decide +kernel, by decide +kernel⟩, List.mem_of_getElem? (i := 2001) (by decide +kernel), List.mem_of_getElem? (i := 2738) (by decide +kernel), List.mem_of_getElem? (i := 2739) (by decide +kernel)⟩
theorem lw_p161 : lw_okq (⟨"RobotCellHouseModel", "told", "(III)I"⟩, 119) := ⟨⟨by decide +kernel, by decide +kernel⟩, List.mem_of_getElem? (i := 2001) (by decide +kernel), List.mem_of_getElem? (i := 2742) (by decide +kernel), List.mem_of_getElem? (i := 2743) (by decide +kernel)⟩
theorem lw_p162 : lw_okq (⟨"RobotCellHouseModel", "isSameName", "(II)Z"⟩, 119) := ⟨⟨by decide +kernel, by decide +kernel⟩, List.mem_of_getElem? (i := 2001) (by decide +kernel), List.mem_of_getElem? (i := 2746) (by decide +kernel), List.mem_of_getElem? (i := 2747) (by decide +kernel)⟩
theorem lw_p163 : lw_okq (⟨"RobotCellHouseModel", "nodeCount", "(II)I"⟩, 119) := ⟨⟨by decide +kernel, by decide +kernel⟩, List.mem_of_getElem? (i := 2001) (by decide +kernel), List.mem_of_getElem? (i := 2759) (by decide +kernel), List.mem_of_getElem? (i := 2760) (by decide +kernel)⟩
theorem lw_p164 : lw_okq (⟨"RobotCellHouseModel", "weight", "(I)I"⟩, 119) := ⟨⟨by decide +kernel, by decide +kernel⟩, List.mem_of_getElem? (i := 2001) (by decide +kernel), List.mem_of_getElem? (i := 2763) (by decide +kernel), List.mem_of_getElem? (i := 2764) (by decide +kernel)⟩
theorem lw_p165 : lw_okq (⟨"RobotCellHouseModel", "keptWay", "(I)I"⟩, 119) := ⟨⟨by decide +kernel, by decide +kernel⟩, List.mem_of_getElem? (i := 2001) (by decide +kernel), List.mem_of_getElem? (i := 2767) (by decide +kernel), List.mem_of_getElem? (i := 2768) (by decide +kernel)⟩
theorem lw_p166 : lw_okq (⟨"RobotCellHouseModel", "search", "(III)I"⟩, 119) := ⟨⟨by decide +kernel, by decide +kernel⟩, List.mem_of_getElem? (i := 2001) (by decide +kernel), List.mem_of_getElem? (i := 2771) (by decide +kernel), List.mem_of_getElem? (i := 2772) (by decide +kernel)⟩
theorem lw_p167 : lw_okq (⟨"RobotCellHouseModel", "freeNode", "(I)Z"⟩, 119) := ⟨⟨by decide +kernel, by decide +kernel⟩, List.mem_of_getElem? (i := 2001) (by decide +kernel), List.mem_of_getElem? (i := 2775) (by decide +kernel), List.mem_of_getElem? (i := 2776) (by decide +kernel)⟩
theorem lw_p168 : lw_okq (⟨"RobotCellHouseModel", "tryNode", "(I)V"⟩, 119) := ⟨⟨by decide +kernel, by decide +kernel⟩, List.mem_of_getElem? (i := 2001) (by decide +kernel), List.mem_of_getElem? (i := 2779) (by decide +kernel), List.mem_of_getElem? (i := 2780) (by decide +kernel)⟩
theorem lw_p169 : lw_okq (⟨"RobotCellHouseModel", "digit", "(II)I"⟩, 119) := ⟨⟨by decide +kernel, by decide +kernel⟩, List.mem_of_getElem? (i := 2001) (by decide +kernel), List.mem_of_getElem? (i := 2783) (by decide +kernel), List.mem_of_getElem? (i := 2784) (by decide +kernel)⟩
theorem lw_p170 : lw_okq (⟨"RobotCellHouseModel", "isClear", "()Z"⟩, 119) := ⟨⟨by decide +kernel, by decide +kernel⟩, List.mem_of_getElem? (i := 2001) (by decide +kernel), List.mem_of_getElem? (i := 2787) (by decide +kernel), List.mem_of_getElem? (i := 2788) (by decide +kernel)⟩
theorem lw_p171 : lw_okq (⟨"RobotCellHouseModel", "beside", "(II)I"⟩, 119) := ⟨⟨by decide +kernel, by decide +kernel⟩, List.mem_of_getElem? (i := 2001) (by decide +kernel), List.mem_of_getElem? (i := 2791) (by decide +kernel), List.mem_of_getElem? (i := 2792) (by decide +kernel)⟩
theorem lw_p172 : lw_okq (⟨"RobotCellHouseModel", "freeEdge", "(II)Z"⟩, 119) := ⟨⟨by decide +kernel, by decide +kernel⟩, List.mem_of_getElem? (i := 2001) (by decide +kernel), List.mem_of_getElem? (i := 2795) (by decide +kernel), List.mem_of_getElem? (i := 2796) (by decide +kernel)⟩
theorem lw_p173 : lw_okq (⟨"RobotCellHouseModel", "isBookFull", "()Z"⟩, 119) := ⟨⟨by decide +kernel, by decide +kernel⟩, List.mem_of_getElem? (i := 2001) (by decide +kernel), List.mem_of_getElem? (i := 2799) (by decide +kernel), List.mem_of_getElem? (i := 2800) (by decide +kernel)⟩
theorem lw_p174 : lw_okq (⟨"RobotCellHouseModel", "write", "(IIII)V"⟩, 119) := ⟨⟨by decide +kernel, by decide +kernel⟩, List.mem_of_getElem? (i := 2001) (by decide +kernel), List.mem_of_getElem? (i := 2803) (by decide +kernel), List.mem_of_getElem? (i := 2804) (by decide +kernel)⟩
theorem lw_p175 : lw_okq (⟨"RobotCellHouseModel", "keepWay", "(IZ)V"⟩, 119) := ⟨⟨by decide +kernel, by decide +kernel⟩, List.mem_of_getElem? (i := 2001) (by decide +kernel), List.mem_of_getElem? (i := 2807) (by decide +kernel), List.mem_of_getElem? (i := 2808) (by decide +kernel)⟩
def lw_privs_11 : List (MethodName × Nat) := [(⟨"RobotCellHouseModel", "resolve", "()V"⟩, 119), (⟨"RobotCellHouseModel", "told", "(III)I"⟩, 119), (⟨"RobotCellHouseModel", "isSameName", "(II)Z"⟩, 119), (⟨"RobotCellHouseModel", "nodeCount", "(II)I"⟩, 119), (⟨"RobotCellHouseModel", "weight", "(I)I"⟩, 119), (⟨"RobotCellHouseModel", "keptWay", "(I)I"⟩, 119), (⟨"RobotCellHouseModel", "search", "(III)I"⟩, 119), (⟨"RobotCellHouseModel", "freeNode", "(I)Z"⟩, 119), (⟨"RobotCellHouseModel", "tryNode", "(I)V"⟩, 119), (⟨"RobotCellHouseModel", "digit", "(II)I"⟩, 119), (⟨"RobotCellHouseModel", "isClear", "()Z"⟩, 119), (⟨"RobotCellHouseModel", "beside", "(II)I"⟩, 119), (⟨"RobotCellHouseModel", "freeEdge", "(II)Z"⟩, 119), (⟨"RobotCellHouseModel", "isBookFull", "()Z"⟩, 119), (⟨"RobotCellHouseModel", "write", "(IIII)V"⟩, 119), (⟨"RobotCellHouseModel", "keepWay", "(IZ)V"⟩, 119)]
theorem lw_r11 : ∀ q ∈ lw_privs_11, lw_okq q := List.forall_mem_cons.mpr ⟨lw_p160, List.forall_mem_cons.mpr ⟨lw_p161, List.forall_mem_cons.mpr ⟨lw_p162, List.forall_mem_cons.mpr ⟨lw_p163, List.forall_mem_cons.mpr ⟨lw_p164, List.forall_mem_cons.mpr ⟨lw_p165, List.forall_mem_cons.mpr ⟨lw_p166, List.forall_mem_cons.mpr ⟨lw_p167, List.forall_mem_cons.mpr ⟨lw_p168, List.forall_mem_cons.mpr ⟨lw_p169, List.forall_mem_cons.mpr ⟨lw_p170, List.forall_mem_cons.mpr ⟨lw_p171, List.forall_mem_cons.mpr ⟨lw_p172, List.forall_mem_cons.mpr ⟨lw_p173, List.forall_mem_cons.mpr ⟨lw_p174, List.forall_mem_cons.mpr ⟨lw_p175, fun _ h => absurd h List.not_mem_nil⟩⟩⟩⟩⟩⟩⟩⟩⟩⟩⟩⟩⟩⟩⟩⟩
theorem lw_p176 : lw_okq (⟨"RobotCellHouseModel", "nextOfWay", "(I)V"⟩, 119) := ⟨⟨by decide +kernel, by decide +kernel⟩, List.mem_of_getElem? (i := 2001) (by decide +kernel), List.mem_of_getElem? (i := 2815) (by decide +kernel), List.mem_of_getElem? (i := 2816) (by decide +kernel)⟩
theorem lw_p177 : lw_okq (⟨"RobotCellHouseModel", "beginMove", "(I)V"⟩, 119) := ⟨⟨by decide +kernel, by decide +kernel⟩, List.mem_of_getElem? (i := 2001) (by decide +kernel), List.mem_of_getElem? (i := 2819) (by decide +kernel), List.mem_of_getElem? (i := 2820) (by decide +kernel)⟩
theorem lw_p178 : lw_okq (⟨"RobotCellHouseModel", "newTask", "(II)I"⟩, 119) := ⟨⟨by decide +kernel, by decide +kernel⟩, List.mem_of_getElem? (i := 2001) (by decide +kernel), List.mem_of_getElem? (i := 2831) (by decide +kernel), List.mem_of_getElem? (i := 2832) (by decide +kernel)⟩
theorem lw_p179 : lw_okq (⟨"RobotCellHouseModel", "tick", "()V"⟩, 119) := ⟨⟨by decide +kernel, by decide +kernel⟩, List.mem_of_getElem? (i := 2001) (by decide +kernel), List.mem_of_getElem? (i := 2839) (by decide +kernel), List.mem_of_getElem? (i := 2840) (by decide +kernel)⟩
theorem lw_p180 : lw_okq (⟨"RobotCellHouseModel", "lookAtInputs", "()V"⟩, 119) := ⟨⟨by decide +kernel, by decide +kernel⟩, List.mem_of_getElem? (i := 2001) (by decide +kernel), List.mem_of_getElem? (i := 2843) (by decide +kernel), List.mem_of_getElem? (i := 2844) (by decide +kernel)⟩
theorem lw_p181 : lw_okq (⟨"RobotCellHouseModel", "firstNotWell", "()I"⟩, 119) := ⟨⟨by decide +kernel, by decide +kernel⟩, List.mem_of_getElem? (i := 2001) (by decide +kernel), List.mem_of_getElem? (i := 2847) (by decide +kernel), List.mem_of_getElem? (i := 2848) (by decide +kernel)⟩
theorem lw_p182 : lw_okq (⟨"RobotCellHouseModel", "isWell", "(I)Z"⟩, 119) := ⟨⟨by decide +kernel, by decide +kernel⟩, List.mem_of_getElem? (i := 2001) (by decide +kernel), List.mem_of_getElem? (i := 2851) (by decide +kernel), List.mem_of_getElem? (i := 2852) (by decide +kernel)⟩
theorem lw_p183 : lw_okq (⟨"RobotCellHouseModel", "trip", "(II)V"⟩, 119) := ⟨⟨by decide +kernel, by decide +kernel⟩, List.mem_of_getElem? (i := 2001) (by decide +kernel), List.mem_of_getElem? (i := 2855) (by decide +kernel), List.mem_of_getElem? (i := 2856) (by decide +kernel)⟩
theorem lw_p184 : lw_okq (⟨"RobotCellHouseModel", "note", "(III)V"⟩, 119) := ⟨⟨by decide +kernel, by decide +kernel⟩, List.mem_of_getElem? (i := 2001) (by decide +kernel), List.mem_of_getElem? (i := 2859) (by decide +kernel), List.mem_of_getElem? (i := 2860) (by decide +kernel)⟩
theorem lw_p185 : lw_okq (⟨"RobotCellHouseModel", "breakMove", "(I)V"⟩, 119) := ⟨⟨by decide +kernel, by decide +kernel⟩, List.mem_of_getElem? (i := 2001) (by decide +kernel), List.mem_of_getElem? (i := 2863) (by decide +kernel), List.mem_of_getElem? (i := 2864) (by decide +kernel)⟩
theorem lw_p186 : lw_okq (⟨"RobotCellHouseModel", "turnOf", "(I)V"⟩, 119) := ⟨⟨by decide +kernel, by decide +kernel⟩, List.mem_of_getElem? (i := 2001) (by decide +kernel), List.mem_of_getElem? (i := 2867) (by decide +kernel), List.mem_of_getElem? (i := 2868) (by decide +kernel)⟩
theorem lw_p187 : lw_okq (⟨"RobotCellHouseModel", "fails", "(I)V"⟩, 119) := ⟨⟨by decide +kernel, by decide +kernel⟩, List.mem_of_getElem? (i := 2001) (by decide +kernel), List.mem_of_getElem? (i := 2871) (by decide +kernel), List.mem_of_getElem? (i := 2872) (by decide +kernel)⟩
theorem lw_p188 : lw_okq (⟨"RobotCellHouseModel", "where", "()I"⟩, 119) := ⟨⟨by decide +kernel, by decide +kernel⟩, List.mem_of_getElem? (i := 2001) (by decide +kernel), List.mem_of_getElem? (i := 2875) (by decide +kernel), List.mem_of_getElem? (i := 2876) (by decide +kernel)⟩
theorem lw_p189 : lw_okq (⟨"RobotCellHouseModel", "leave", "(III)V"⟩, 119) := ⟨⟨by decide +kernel, by decide +kernel⟩, List.mem_of_getElem? (i := 2001) (by decide +kernel), List.mem_of_getElem? (i := 2879) (by decide +kernel), List.mem_of_getElem? (i := 2880) (by decide +kernel)⟩
theorem lw_p190 : lw_okq (⟨"RobotCellHouseModel", "go", "(I)V"⟩, 119) := ⟨⟨by decide +kernel, by decide +kernel⟩, List.mem_of_getElem? (i := 2001) (by decide +kernel), List.mem_of_getElem? (i := 2883) (by decide +kernel), List.mem_of_getElem? (i := 2884) (by decide +kernel)⟩
theorem lw_p191 : lw_okq (⟨"RobotCellHouseModel", "out", "(II)I"⟩, 119) := ⟨⟨by decide +kernel, by decide +kernel⟩, List.mem_of_getElem? (i := 2001) (by decide +kernel), List.mem_of_getElem? (i := 2887) (by decide +kernel), List.mem_of_getElem? (i := 2888) (by decide +kernel)⟩
def lw_privs_12 : List (MethodName × Nat) := [(⟨"RobotCellHouseModel", "nextOfWay", "(I)V"⟩, 119), (⟨"RobotCellHouseModel", "beginMove", "(I)V"⟩, 119), (⟨"RobotCellHouseModel", "newTask", "(II)I"⟩, 119), (⟨"RobotCellHouseModel", "tick", "()V"⟩, 119), (⟨"RobotCellHouseModel", "lookAtInputs", "()V"⟩, 119), (⟨"RobotCellHouseModel", "firstNotWell", "()I"⟩, 119), (⟨"RobotCellHouseModel", "isWell", "(I)Z"⟩, 119), (⟨"RobotCellHouseModel", "trip", "(II)V"⟩, 119), (⟨"RobotCellHouseModel", "note", "(III)V"⟩, 119), (⟨"RobotCellHouseModel", "breakMove", "(I)V"⟩, 119), (⟨"RobotCellHouseModel", "turnOf", "(I)V"⟩, 119), (⟨"RobotCellHouseModel", "fails", "(I)V"⟩, 119), (⟨"RobotCellHouseModel", "where", "()I"⟩, 119), (⟨"RobotCellHouseModel", "leave", "(III)V"⟩, 119), (⟨"RobotCellHouseModel", "go", "(I)V"⟩, 119), (⟨"RobotCellHouseModel", "out", "(II)I"⟩, 119)]
theorem lw_r12 : ∀ q ∈ lw_privs_12, lw_okq q := List.forall_mem_cons.mpr ⟨lw_p176, List.forall_mem_cons.mpr ⟨lw_p177, List.forall_mem_cons.mpr ⟨lw_p178, List.forall_mem_cons.mpr ⟨lw_p179, List.forall_mem_cons.mpr ⟨lw_p180, List.forall_mem_cons.mpr ⟨lw_p181, List.forall_mem_cons.mpr ⟨lw_p182, List.forall_mem_cons.mpr ⟨lw_p183, List.forall_mem_cons.mpr ⟨lw_p184, List.forall_mem_cons.mpr ⟨lw_p185, List.forall_mem_cons.mpr ⟨lw_p186, List.forall_mem_cons.mpr ⟨lw_p187, List.forall_mem_cons.mpr ⟨lw_p188, List.forall_mem_cons.mpr ⟨lw_p189, List.forall_mem_cons.mpr ⟨lw_p190, List.forall_mem_cons.mpr ⟨lw_p191, fun _ h => absurd h List.not_mem_nil⟩⟩⟩⟩⟩⟩⟩⟩⟩⟩⟩⟩⟩⟩⟩⟩
theorem lw_p192 : lw_okq (⟨"RobotCellHouseModel", "freeAll", "(I)V"⟩, 119) := ⟨⟨by decide +kernel, by decide +kernel⟩, List.mem_of_getElem? (i := 2001) (by decide +kernel), List.mem_of_getElem? (i := 2891) (by decide +kernel), List.mem_of_getElem? (i := 2892) (by decide +kernel)⟩
theorem lw_p193 : lw_okq (⟨"RobotCellHouseModel", "freeLock", "(I)V"⟩, 119) := ⟨⟨by decide +kernel, by decide +kernel⟩, List.mem_of_getElem? (i := 2001) (by decide +kernel), List.mem_of_getElem? (i := 2895) (by decide +kernel), List.mem_of_getElem? (i := 2896) (by decide +kernel)⟩
theorem lw_p194 : lw_okq (⟨"RobotCellHouseModel", "brake", "(I)V"⟩, 119) := ⟨⟨by decide +kernel, by decide +kernel⟩, List.mem_of_getElem? (i := 2001) (by decide +kernel), List.mem_of_getElem? (i := 2899) (by decide +kernel), List.mem_of_getElem? (i := 2900) (by decide +kernel)⟩
theorem lw_p195 : lw_okq (⟨"RobotCellHouseModel", "await", "(II)V"⟩, 119) := ⟨⟨by decide +kernel, by decide +kernel⟩, List.mem_of_getElem? (i := 2001) (by decide +kernel), List.mem_of_getElem? (i := 2903) (by decide +kernel), List.mem_of_getElem? (i := 2904) (by decide +kernel)⟩
theorem lw_p196 : lw_okq (⟨"RobotCellHouseModel", "doAct", "()V"⟩, 119) := ⟨⟨by decide +kernel, by decide +kernel⟩, List.mem_of_getElem? (i := 2001) (by decide +kernel), List.mem_of_getElem? (i := 2907) (by decide +kernel), List.mem_of_getElem? (i := 2908) (by decide +kernel)⟩
theorem lw_p197 : lw_okq (⟨"RobotCellHouseModel", "doBegin", "()V"⟩, 119) := ⟨⟨by decide +kernel, by decide +kernel⟩, List.mem_of_getElem? (i := 2001) (by decide +kernel), List.mem_of_getElem? (i := 2911) (by decide +kernel), List.mem_of_getElem? (i := 2912) (by decide +kernel)⟩
theorem lw_p198 : lw_okq (⟨"RobotCellHouseModel", "enter", "(II)V"⟩, 119) := ⟨⟨by decide +kernel, by decide +kernel⟩, List.mem_of_getElem? (i := 2001) (by decide +kernel), List.mem_of_getElem? (i := 2915) (by decide +kernel), List.mem_of_getElem? (i := 2916) (by decide +kernel)⟩
theorem lw_p199 : lw_okq (⟨"RobotCellHouseModel", "reckon", "(III)V"⟩, 119) := ⟨⟨by decide +kernel, by decide +kernel⟩, List.mem_of_getElem? (i := 2001) (by decide +kernel), List.mem_of_getElem? (i := 2919) (by decide +kernel), List.mem_of_getElem? (i := 2920) (by decide +kernel)⟩
theorem lw_p200 : lw_okq (⟨"RobotCellHouseModel", "push", "(I)V"⟩, 119) := ⟨⟨by decide +kernel, by decide +kernel⟩, List.mem_of_getElem? (i := 2001) (by decide +kernel), List.mem_of_getElem? (i := 2923) (by decide +kernel), List.mem_of_getElem? (i := 2924) (by decide +kernel)⟩
theorem lw_p201 : lw_okq (⟨"RobotCellHouseModel", "pop", "()I"⟩, 119) := ⟨⟨by decide +kernel, by decide +kernel⟩, List.mem_of_getElem? (i := 2001) (by decide +kernel), List.mem_of_getElem? (i := 2927) (by decide +kernel), List.mem_of_getElem? (i := 2928) (by decide +kernel)⟩
theorem lw_p202 : lw_okq (⟨"RobotCellHouseModel", "valueOf", "(I)I"⟩, 119) := ⟨⟨by decide +kernel, by decide +kernel⟩, List.mem_of_getElem? (i := 2001) (by decide +kernel), List.mem_of_getElem? (i := 2931) (by decide +kernel), List.mem_of_getElem? (i := 2932) (by decide +kernel)⟩
theorem lw_p203 : lw_okq (⟨"RobotCellHouseModel", "doStatement", "(III)V"⟩, 119) := ⟨⟨by decide +kernel, by decide +kernel⟩, List.mem_of_getElem? (i := 2001) (by decide +kernel), List.mem_of_getElem? (i := 2938) (by decide +kernel), List.mem_of_getElem? (i := 2939) (by decide +kernel)⟩
theorem lw_p204 : lw_okq (⟨"RobotCellHouseModel", "doMove", "(II)V"⟩, 119) := ⟨⟨by decide +kernel, by decide +kernel⟩, List.mem_of_getElem? (i := 2001) (by decide +kernel), List.mem_of_getElem? (i := 2942) (by decide +kernel), List.mem_of_getElem? (i := 2943) (by decide +kernel)⟩
theorem lw_p205 : lw_okq (⟨"RobotCellHouseModel", "doFinallyOver", "(I)V"⟩, 119) := ⟨⟨by decide +kernel, by decide +kernel⟩, List.mem_of_getElem? (i := 2001) (by decide +kernel), List.mem_of_getElem? (i := 2946) (by decide +kernel), List.mem_of_getElem? (i := 2947) (by decide +kernel)⟩
theorem lw_p206 : lw_okq (⟨"RobotCellHouseModel", "doOther", "(II)I"⟩, 119) := ⟨⟨by decide +kernel, by decide +kernel⟩, List.mem_of_getElem? (i := 2001) (by decide +kernel), List.mem_of_getElem? (i := 2950) (by decide +kernel), List.mem_of_getElem? (i := 2951) (by decide +kernel)⟩
theorem lw_p207 : lw_okq (⟨"RobotCellHouseModel", "setOwn", "(II)V"⟩, 119) := ⟨⟨by decide +kernel, by decide +kernel⟩, List.mem_of_getElem? (i := 2001) (by decide +kernel), List.mem_of_getElem? (i := 2954) (by decide +kernel), List.mem_of_getElem? (i := 2955) (by decide +kernel)⟩
def lw_privs_13 : List (MethodName × Nat) := [(⟨"RobotCellHouseModel", "freeAll", "(I)V"⟩, 119), (⟨"RobotCellHouseModel", "freeLock", "(I)V"⟩, 119), (⟨"RobotCellHouseModel", "brake", "(I)V"⟩, 119), (⟨"RobotCellHouseModel", "await", "(II)V"⟩, 119), (⟨"RobotCellHouseModel", "doAct", "()V"⟩, 119), (⟨"RobotCellHouseModel", "doBegin", "()V"⟩, 119), (⟨"RobotCellHouseModel", "enter", "(II)V"⟩, 119), (⟨"RobotCellHouseModel", "reckon", "(III)V"⟩, 119), (⟨"RobotCellHouseModel", "push", "(I)V"⟩, 119), (⟨"RobotCellHouseModel", "pop", "()I"⟩, 119), (⟨"RobotCellHouseModel", "valueOf", "(I)I"⟩, 119), (⟨"RobotCellHouseModel", "doStatement", "(III)V"⟩, 119), (⟨"RobotCellHouseModel", "doMove", "(II)V"⟩, 119), (⟨"RobotCellHouseModel", "doFinallyOver", "(I)V"⟩, 119), (⟨"RobotCellHouseModel", "doOther", "(II)I"⟩, 119), (⟨"RobotCellHouseModel", "setOwn", "(II)V"⟩, 119)]
theorem lw_r13 : ∀ q ∈ lw_privs_13, lw_okq q := List.forall_mem_cons.mpr ⟨lw_p192, List.forall_mem_cons.mpr ⟨lw_p193, List.forall_mem_cons.mpr ⟨lw_p194, List.forall_mem_cons.mpr ⟨lw_p195, List.forall_mem_cons.mpr ⟨lw_p196, List.forall_mem_cons.mpr ⟨lw_p197, List.forall_mem_cons.mpr ⟨lw_p198, List.forall_mem_cons.mpr ⟨lw_p199, List.forall_mem_cons.mpr ⟨lw_p200, List.forall_mem_cons.mpr ⟨lw_p201, List.forall_mem_cons.mpr ⟨lw_p202, List.forall_mem_cons.mpr ⟨lw_p203, List.forall_mem_cons.mpr ⟨lw_p204, List.forall_mem_cons.mpr ⟨lw_p205, List.forall_mem_cons.mpr ⟨lw_p206, List.forall_mem_cons.mpr ⟨lw_p207, fun _ h => absurd h List.not_mem_nil⟩⟩⟩⟩⟩⟩⟩⟩⟩⟩⟩⟩⟩⟩⟩⟩
theorem lw_p208 : lw_okq (⟨"RobotCellHouseModel", "beforeChange", "()V"⟩, 119) := ⟨⟨by decide +kernel, by decide +kernel⟩, List.mem_of_getElem? (i := 2001) (by decide +kernel), List.mem_of_getElem? (i := 2958) (by decide +kernel), List.mem_of_getElem? (i := 2959) (by decide +kernel)⟩
theorem lw_p209 : lw_okq (⟨"RobotCellHouseModel", "behindChange", "()V"⟩, 119) := ⟨⟨by decide +kernel, by decide +kernel⟩, List.mem_of_getElem? (i := 2001) (by decide +kernel), List.mem_of_getElem? (i := 2962) (by decide +kernel), List.mem_of_getElem? (i := 2963) (by decide +kernel)⟩
theorem lw_p210 : lw_okq (⟨"RobotCellHouseModel", "doTake", "(I)I"⟩, 119) := ⟨⟨by decide +kernel, by decide +kernel⟩, List.mem_of_getElem? (i := 2001) (by decide +kernel), List.mem_of_getElem? (i := 2966) (by decide +kernel), List.mem_of_getElem? (i := 2967) (by decide +kernel)⟩
theorem lw_p211 : lw_okq (⟨"RobotCellHouseModel", "doGrip", "(I)Z"⟩, 119) := ⟨⟨by decide +kernel, by decide +kernel⟩, List.mem_of_getElem? (i := 2001) (by decide +kernel), List.mem_of_getElem? (i := 2970) (by decide +kernel), List.mem_of_getElem? (i := 2971) (by decide +kernel)⟩
theorem lw_p212 : lw_okq (⟨"RobotCellHouseModel", "middle", "(II)I"⟩, 119) := ⟨⟨by decide +kernel, by decide +kernel⟩, List.mem_of_getElem? (i := 2001) (by decide +kernel), List.mem_of_getElem? (i := 2974) (by decide +kernel), List.mem_of_getElem? (i := 2975) (by decide +kernel)⟩
theorem lw_p213 : lw_okq (⟨"RobotCellHouseModel", "stale", "(I)V"⟩, 119) := ⟨⟨by decide +kernel, by decide +kernel⟩, List.mem_of_getElem? (i := 2001) (by decide +kernel), List.mem_of_getElem? (i := 2978) (by decide +kernel), List.mem_of_getElem? (i := 2979) (by decide +kernel)⟩
theorem lw_p214 : lw_okq (⟨"RobotCellHouseModel", "doDrop", "(I)Z"⟩, 119) := ⟨⟨by decide +kernel, by decide +kernel⟩, List.mem_of_getElem? (i := 2001) (by decide +kernel), List.mem_of_getElem? (i := 2982) (by decide +kernel), List.mem_of_getElem? (i := 2983) (by decide +kernel)⟩
theorem lw_p215 : lw_okq (⟨"RobotCellHouseModel", "armsGoOn", "()V"⟩, 119) := ⟨⟨by decide +kernel, by decide +kernel⟩, List.mem_of_getElem? (i := 2001) (by decide +kernel), List.mem_of_getElem? (i := 2986) (by decide +kernel), List.mem_of_getElem? (i := 2987) (by decide +kernel)⟩
theorem lw_p216 : lw_okq (⟨"RobotCellHouseModel", "goOn", "(I)V"⟩, 119) := ⟨⟨by decide +kernel, by decide +kernel⟩, List.mem_of_getElem? (i := 2001) (by decide +kernel), List.mem_of_getElem? (i := 2990) (by decide +kernel), List.mem_of_getElem? (i := 2991) (by decide +kernel)⟩
theorem lw_p217 : lw_okq (⟨"RobotCellHouseModel", "tally", "(IZ)V"⟩, 119) := ⟨⟨by decide +kernel, by decide +kernel⟩, List.mem_of_getElem? (i := 2001) (by decide +kernel), List.mem_of_getElem? (i := 3000) (by decide +kernel), List.mem_of_getElem? (i := 3001) (by decide +kernel)⟩
theorem lw_p218 : lw_okq (⟨"RobotCellHouseModel", "countJoints", "(Z)V"⟩, 119) := ⟨⟨by decide +kernel, by decide +kernel⟩, List.mem_of_getElem? (i := 2001) (by decide +kernel), List.mem_of_getElem? (i := 3004) (by decide +kernel), List.mem_of_getElem? (i := 3005) (by decide +kernel)⟩
theorem lw_p219 : lw_okq (⟨"RobotCellHouseModel", "look", "()V"⟩, 119) := ⟨⟨by decide +kernel, by decide +kernel⟩, List.mem_of_getElem? (i := 2001) (by decide +kernel), List.mem_of_getElem? (i := 3008) (by decide +kernel), List.mem_of_getElem? (i := 3009) (by decide +kernel)⟩
theorem lw_p220 : lw_okq (⟨"RobotCellHouseModel", "firstTouching", "()I"⟩, 119) := ⟨⟨by decide +kernel, by decide +kernel⟩, List.mem_of_getElem? (i := 2001) (by decide +kernel), List.mem_of_getElem? (i := 3012) (by decide +kernel), List.mem_of_getElem? (i := 3013) (by decide +kernel)⟩
theorem lw_p221 : lw_okq (⟨"RobotCellHouseModel", "firstBroken", "()I"⟩, 119) := ⟨⟨by decide +kernel, by decide +kernel⟩, List.mem_of_getElem? (i := 2001) (by decide +kernel), List.mem_of_getElem? (i := 3016) (by decide +kernel), List.mem_of_getElem? (i := 3017) (by decide +kernel)⟩
theorem lw_p222 : lw_okq (⟨"RobotCellHouseModel", "driveBelt", "(I)V"⟩, 119) := ⟨⟨by decide +kernel, by decide +kernel⟩, List.mem_of_getElem? (i := 2001) (by decide +kernel), List.mem_of_getElem? (i := 3020) (by decide +kernel), List.mem_of_getElem? (i := 3021) (by decide +kernel)⟩
theorem lw_p223 : lw_okq (⟨"RobotCellHouseModel", "countParts", "()V"⟩, 119) := ⟨⟨by decide +kernel, by decide +kernel⟩, List.mem_of_getElem? (i := 2001) (by decide +kernel), List.mem_of_getElem? (i := 3024) (by decide +kernel), List.mem_of_getElem? (i := 3025) (by decide +kernel)⟩
def lw_privs_14 : List (MethodName × Nat) := [(⟨"RobotCellHouseModel", "beforeChange", "()V"⟩, 119), (⟨"RobotCellHouseModel", "behindChange", "()V"⟩, 119), (⟨"RobotCellHouseModel", "doTake", "(I)I"⟩, 119), (⟨"RobotCellHouseModel", "doGrip", "(I)Z"⟩, 119), (⟨"RobotCellHouseModel", "middle", "(II)I"⟩, 119), (⟨"RobotCellHouseModel", "stale", "(I)V"⟩, 119), (⟨"RobotCellHouseModel", "doDrop", "(I)Z"⟩, 119), (⟨"RobotCellHouseModel", "armsGoOn", "()V"⟩, 119), (⟨"RobotCellHouseModel", "goOn", "(I)V"⟩, 119), (⟨"RobotCellHouseModel", "tally", "(IZ)V"⟩, 119), (⟨"RobotCellHouseModel", "countJoints", "(Z)V"⟩, 119), (⟨"RobotCellHouseModel", "look", "()V"⟩, 119), (⟨"RobotCellHouseModel", "firstTouching", "()I"⟩, 119), (⟨"RobotCellHouseModel", "firstBroken", "()I"⟩, 119), (⟨"RobotCellHouseModel", "driveBelt", "(I)V"⟩, 119), (⟨"RobotCellHouseModel", "countParts", "()V"⟩, 119)]
theorem lw_r14 : ∀ q ∈ lw_privs_14, lw_okq q := List.forall_mem_cons.mpr ⟨lw_p208, List.forall_mem_cons.mpr ⟨lw_p209, List.forall_mem_cons.mpr ⟨lw_p210, List.forall_mem_cons.mpr ⟨lw_p211, List.forall_mem_cons.mpr ⟨lw_p212, List.forall_mem_cons.mpr ⟨lw_p213, List.forall_mem_cons.mpr ⟨lw_p214, List.forall_mem_cons.mpr ⟨lw_p215, List.forall_mem_cons.mpr ⟨lw_p216, List.forall_mem_cons.mpr ⟨lw_p217, List.forall_mem_cons.mpr ⟨lw_p218, List.forall_mem_cons.mpr ⟨lw_p219, List.forall_mem_cons.mpr ⟨lw_p220, List.forall_mem_cons.mpr ⟨lw_p221, List.forall_mem_cons.mpr ⟨lw_p222, List.forall_mem_cons.mpr ⟨lw_p223, fun _ h => absurd h List.not_mem_nil⟩⟩⟩⟩⟩⟩⟩⟩⟩⟩⟩⟩⟩⟩⟩⟩
theorem lw_p224 : lw_okq (⟨"RobotCellHouseModel", "isPoint", "(I)Z"⟩, 119) := ⟨⟨by decide +kernel, by decide +kernel⟩, List.mem_of_getElem? (i := 2001) (by decide +kernel), List.mem_of_getElem? (i := 3032) (by decide +kernel), List.mem_of_getElem? (i := 3033) (by decide +kernel)⟩
theorem lw_p225 : lw_okq (⟨"RobotCellHouseModel", "done", "(IIII)I"⟩, 119) := ⟨⟨by decide +kernel, by decide +kernel⟩, List.mem_of_getElem? (i := 2001) (by decide +kernel), List.mem_of_getElem? (i := 3069) (by decide +kernel), List.mem_of_getElem? (i := 3070) (by decide +kernel)⟩
def lw_privs_15 : List (MethodName × Nat) := [(⟨"RobotCellHouseModel", "isPoint", "(I)Z"⟩, 119), (⟨"RobotCellHouseModel", "done", "(IIII)I"⟩, 119)]
theorem lw_r15 : ∀ q ∈ lw_privs_15, lw_okq q := List.forall_mem_cons.mpr ⟨lw_p224, List.forall_mem_cons.mpr ⟨lw_p225, fun _ h => absurd h List.not_mem_nil⟩⟩
def lw_privs : List (MethodName × Nat) := lw_privs_1 ++ (lw_privs_2 ++ (lw_privs_3 ++ (lw_privs_4 ++ (lw_privs_5 ++ (lw_privs_6 ++ (lw_privs_7 ++ (lw_privs_8 ++ (lw_privs_9 ++ (lw_privs_10 ++ (lw_privs_11 ++ (lw_privs_12 ++ (lw_privs_13 ++ (lw_privs_14 ++ (lw_privs_15))))))))))))))
def lw_tbl : List Cond := k2_sels lw_privs ++ tables_1
theorem lw_privs_ok : ∀ q ∈ lw_privs, lw_okq q := by
  show ∀ q ∈ lw_privs_1 ++ (lw_privs_2 ++ (lw_privs_3 ++ (lw_privs_4 ++ (lw_privs_5 ++ (lw_privs_6 ++ (lw_privs_7 ++ (lw_privs_8 ++ (lw_privs_9 ++ (lw_privs_10 ++ (lw_privs_11 ++ (lw_privs_12 ++ (lw_privs_13 ++ (lw_privs_14 ++ (lw_privs_15)))))))))))))), lw_okq q
  exact List.forall_mem_append.mpr ⟨lw_r1, List.forall_mem_append.mpr ⟨lw_r2, List.forall_mem_append.mpr ⟨lw_r3, List.forall_mem_append.mpr ⟨lw_r4, List.forall_mem_append.mpr ⟨lw_r5, List.forall_mem_append.mpr ⟨lw_r6, List.forall_mem_append.mpr ⟨lw_r7, List.forall_mem_append.mpr ⟨lw_r8, List.forall_mem_append.mpr ⟨lw_r9, List.forall_mem_append.mpr ⟨lw_r10, List.forall_mem_append.mpr ⟨lw_r11, List.forall_mem_append.mpr ⟨lw_r12, List.forall_mem_append.mpr ⟨lw_r13, List.forall_mem_append.mpr ⟨lw_r14, lw_r15⟩⟩⟩⟩⟩⟩⟩⟩⟩⟩⟩⟩⟩⟩
end
section
/-! An interpreter over pictures of the machine: values by bounds, cells by their contents; and why it may be trusted. -/
/-- the tables' words that stay good over a call -/
def x_tbl : List Cond := lw_tbl.filter goodWord
theorem good_w : x_tbl.all goodWord = true := List.all_eq_true.mpr (fun w h => (List.mem_filter.mp h).2)
theorem x_tb {w : Cond} (h : w ∈ lw_tbl) (hg : goodWord w = true) : w ∈ x_tbl := List.mem_filter.mpr ⟨h, hg⟩
/-- words that a call must be given anew: which arrays' classes there are, which nest mates' methods are linked -/
def va_AOA (ty : FieldType) (U : State) : Prop := (Cond.arrayOver (.array ty)).before #[] U = true
theorem va_AOA.of {ty : FieldType} {A : Array Value} {U : State} (h : (Cond.arrayOver (.array ty)).before A U = true) : va_AOA ty U := h
theorem va_AOA.use {ty : FieldType} {A : Array Value} {U : State} (h : va_AOA ty U) : (Cond.arrayOver (.array ty)).before A U = true := h
theorem x_AO_spec {u : State} {ty : FieldType} (h : va_AOA ty u) : ∃ (comp c : Nat) (k : Class), u.vm.findClass (FieldType.array ty).toString = some comp ∧ (u.vm.classes.findIdx? fun (x : Class) => match x.kind with | .array component _ => component == comp | _ => false) = some c ∧ u.vm.classes[c]? = some k ∧ k.kind = .array comp (.array ty) ∧ u.vm.findClass ("[" ++ (FieldType.array ty).toString) = some c := by
  unfold va_AOA at h
  simp only [Cond.before, Cond.holds, Cond.value, beq_iff_eq] at h
  cases hc : u.vm.findClass (FieldType.array ty).toString with
  | none => simp [hc] at h
  | some comp =>
    simp only [hc, Option.bind_some, Option.bind_eq_some_iff, Option.map_eq_some_iff] at h
    obtain ⟨c, hi, k, hk, hb⟩ := h
    obtain ⟨hlt, hp, -⟩ := Array.findIdx?_eq_some_iff_getElem.mp hi
    have hkk : u.vm.classes[c] = k := (Array.getElem?_eq_some_iff.mp hk).2
    rw [hkk] at hp
    cases hkind : k.kind with
    | array component ty' =>
      rw [hkind] at hb hp
      simp at hb hp
      exact ⟨comp, c, k, rfl, hi, hk, by rw [hkind, hp, hb.1], hb.2⟩
    | _ => rw [hkind] at hb; simp at hb
theorem va_AOA.moved {ty : FieldType} {u U : State} (hvm : u.vm.Alike U.vm) (h : va_AOA ty u) : va_AOA ty U := by
  obtain ⟨comp, c, k, h1, h2, h3, h4, h5⟩ := x_AO_spec h
  obtain ⟨k', hk', he⟩ := hvm.2.2 _ _ h3
  have hi : (U.vm.classes.findIdx? fun (x : Class) => match x.kind with | .array component _ => component == comp | _ => false) = some c := by
    have e1 := va_idx_bare U.vm comp
    have e2 := (va_idx_bare u.vm comp).trans h2
    first | rw [hvm.bare_eq] at e2 | rw [← hvm.bare_eq] at e2
    exact e1.symm.trans e2
  have hkind : k'.kind = .array comp (.array ty) := by rw [he]; exact h4
  have f1 : U.vm.findClass (FieldType.array ty).toString = some comp := by rw [hvm.findClass]; exact h1
  have f2 : U.vm.findClass ("[" ++ (FieldType.array ty).toString) = some c := by rw [hvm.findClass]; exact h5
  unfold va_AOA Cond.before Cond.holds
  simp only [Cond.value]
  rw [f1, Option.bind_some]
  refine (congrArg (fun o : Option Nat => (o.bind (fun c => (U.vm.classes[c]?).map fun (k : Class) => match k.kind with | .array _ ty' => decide (ty' = FieldType.array ty) && decide (U.vm.findClass ("[" ++ (FieldType.array ty).toString) = some c) | _ => false) == some true)) hi).trans ?_
  simp [hk', hkind, f2]
def x_nest : List (String × Nat × MethodName × String) := [("RobotCellHouse", 9, ⟨"RobotCellHouse$Reader", "<init>", "()V"⟩, "RobotCellHouse"), ("RobotCellHouse$Reader", 20, ⟨"RobotCellHouse$Code", "<init>", "()V"⟩, "RobotCellHouse"), ("RobotCellHouse$Doer", 19, ⟨"RobotCellHouse$Points", "<init>", "()V"⟩, "RobotCellHouse"), ("RobotCellHouse$Doer", 26, ⟨"RobotCellHouse$Floor", "<init>", "()V"⟩, "RobotCellHouse"), ("RobotCellHouse$Doer", 33, ⟨"RobotCellHouse$Core", "<init>", "()V"⟩, "RobotCellHouse"), ("RobotCellHouse$Arm", 38, ⟨"RobotCellHouse$Code", "<init>", "()V"⟩, "RobotCellHouse"), ("RobotCellHouse$Arm", 43, ⟨"RobotCellHouse$Joint", "<init>", "()V"⟩, "RobotCellHouse"), ("RobotCellHouse", 45, ⟨"RobotCellHouse$Shapes", "<init>", "()V"⟩, "RobotCellHouse"), ("RobotCellHouse", 52, ⟨"RobotCellHouse$Planner", "<init>", "()V"⟩, "RobotCellHouse"), ("RobotCellHouse$Arm", 117, ⟨"RobotCellHouse", "cosine", "(I)I"⟩, "RobotCellHouse"), ("RobotCellHouse$Arm", 121, ⟨"RobotCellHouse", "sine", "(I)I"⟩, "RobotCellHouse"), ("RobotCellHouse$Reader", 201, ⟨"RobotCellHouse", "within", "(III)Z"⟩, "RobotCellHouse"), ("RobotCellHouse$Planner", 41, ⟨"RobotCellHouse", "within", "(III)Z"⟩, "RobotCellHouse"), ("RobotCellHouse$Doer", 120, ⟨"RobotCellHouse", "within", "(III)Z"⟩, "RobotCellHouse"), ("RobotCellHouse$Doer", 261, ⟨"RobotCellHouse", "isPoint", "(I)Z"⟩, "RobotCellHouse"), ("RobotCellHouse$Joint", 18, ⟨"RobotCellHouse", "within", "(III)Z"⟩, "RobotCellHouse"), ("RobotCellHouse$Floor", 110, ⟨"RobotCellHouse", "within", "(III)Z"⟩, "RobotCellHouse"), ("RobotCellHouse$Shapes", 62, ⟨"RobotCellHouse", "within", "(III)Z"⟩, "RobotCellHouse")]
def x_Ex (U : State) : Prop := (va_AO "RobotCellHouse$Joint" U ∧ va_AO "RobotCellHouse$Arm" U ∧ va_AO "RobotCellHouse$Task" U) ∧ va_AOA .int U ∧ ∀ q ∈ x_nest, va_Nw (.methodLinkNest q.1 q.2.1 q.2.2.1 q.2.2.2) U
theorem x_Ex.warm {s U : State} (hW : s.WarmedH U.vm) (h : x_Ex s) : x_Ex U := ⟨⟨h.1.1.moved hW.alike, h.1.2.1.moved hW.alike, h.1.2.2.moved hW.alike⟩, h.2.1.moved hW.alike, fun q hq => (h.2.2 q hq).warmM hW⟩
theorem x_Ex.same {u U : State} (e : u.vm = U.vm) (h : x_Ex u) : x_Ex U :=
  have ha : u.vm.Alike U.vm := by rw [e]; exact Vm.Alike.refl _
  ⟨⟨h.1.1.moved ha, h.1.2.1.moved ha, h.1.2.2.moved ha⟩, h.2.1.moved ha, fun q hq => (h.2.2 q hq).same rfl e⟩
abbrev xV : Type := Nat × Int × Int
abbrev xA : Type := List (Nat × xV)
abbrev xC : Type := Nat × Nat × Nat × xV × xA
abbrev xT : Type := List (Int × Int)
abbrev xL : Type := List (Nat × xV)
/-- pc, locals, stack, cells, bounds of the tokens, cells made, slots made -/
abbrev xS : Type := Nat × xL × List xV × List xC × xT × Nat × Nat
abbrev xK : Type := List xV × List xC × xT
abbrev xE : Type := Nat × (xS → Option (List xS)) × Nat × Nat
def x_get (d : xV) : xA → Nat → xV
  | [], _ => d
  | q :: r, k => bif Nat.beq q.1 k then q.2 else x_get d r k
def x_eqv (x y : xV) : Bool := Nat.beq x.1 y.1 && (decide (x.2.1 = y.2.1) && decide (x.2.2 = y.2.2))
theorem x_eqv_ok {x y : xV} (h : x_eqv x y = true) : x = y := by
  obtain ⟨a, b, c⟩ := x
  obtain ⟨a', b', c'⟩ := y
  unfold x_eqv at h
  simp only [Bool.and_eq_true, decide_eq_true_eq] at h
  obtain ⟨h1, h2, h3⟩ := h
  rw [Nat.eq_of_beq_eq_true h1, h2, h3]
/-- the value v at the place k, over the default d -/
def x_put (d : xV) : xA → Nat → xV → xA
  | [], k, v => bif x_eqv v d then [] else [(k, v)]
  | q :: r, k, v => bif Nat.beq q.1 k then (k, v) :: r else q :: x_put d r k v
theorem x_nb {a b : Nat} (h : a ≠ b) : Nat.beq a b = false := by
  cases e : Nat.beq a b with
  | false => rfl
  | true => exact absurd (Nat.eq_of_beq_eq_true e) h
theorem x_get_put (d : xV) (l : xA) (k : Nat) (v : xV) (j : Nat) : x_get d (x_put d l k v) j = if j = k then v else x_get d l j := by
  induction l with
  | nil =>
    simp only [x_put]
    cases hb : x_eqv v d with
    | true =>
      have e := x_eqv_ok hb
      subst e
      simp [x_get]
    | false =>
      simp only [cond_false, x_get]
      by_cases h : j = k
      · subst h; simp
      · rw [if_neg h, x_nb (Ne.symm h)]; rfl
  | cons q r ih =>
    by_cases h : q.1 = k
    · have hb : Nat.beq q.1 k = true := Nat.beq_eq.mpr h
      simp only [x_put, hb, cond_true, x_get]
      by_cases hj : j = k
      · subst hj; simp
      · rw [if_neg hj, x_nb (Ne.symm hj), h, x_nb (Ne.symm hj)]; rfl
    · have hb : Nat.beq q.1 k = false := x_nb h
      simp only [x_put, hb, cond_false, x_get, ih]
      by_cases hq : q.1 = j
      · have h9 : Nat.beq q.1 j = true := Nat.beq_eq.mpr hq
        have h8 : ¬ j = k := fun e => h (hq.trans e)
        simp [h9, h8]
      · rw [x_nb hq]; rfl
/-- what a value of the picture says of a value of the machine -/
def x_rel (ad : List Nat) (V : List Int) (sc : Nat × Nat × List Nat) (x : xV) (v : Value) : Prop := match x.1 with
  | 0 => ∃ n : Int32, v = .int n ∧ x.2.1 ≤ n.toInt ∧ n.toInt ≤ x.2.2
  | 1 => ∃ a, ad[x.2.1.toNat]? = some a ∧ v = .ref a
  | 2 => v = .null
  | 3 => ∃ n : Int32, v = .int n ∧ V[x.2.1.toNat]? = some n.toInt
  | 4 => ∃ n : Int64, v = .long n ∧ x.2.1 ≤ n.toInt ∧ n.toInt ≤ x.2.2
  | 6 => ∃ n : Int64, v = .long n ∧ V[x.2.1.toNat]? = some n.toInt
  | 10 => v = .ref sc.1 ∧ x.2.1 = (sc.2.1 : Int)
  | _ => False
def x_all2 {α β : Type} (R : α → β → Prop) : List α → List β → Prop
  | [], [] => True
  | a :: as, b :: bs => R a b ∧ x_all2 R as bs
  | _, _ => False
def x_bi (tk : xT) (x : xV) : Option (Int × Int) := match x.1 with
  | 0 => some x.2
  | 3 => tk[x.2.1.toNat]?
  | _ => none
def x_bl (tk : xT) (x : xV) : Option (Int × Int) := match x.1 with
  | 4 => some x.2
  | 6 => tk[x.2.1.toNat]?
  | _ => none
def x_tk (tk : xT) (V : List Int) : Prop := ∀ (j : Nat) (q : Int × Int), tk[j]? = some q → ∃ n, V[j]? = some n ∧ q.1 ≤ n ∧ n ≤ q.2
theorem x_bi_ok {ad : List Nat} {V : List Int} {sc : Nat × Nat × List Nat} {tk : xT} {x : xV} {q : Int × Int} {v : Value} (h : x_tk tk V) (hb : x_bi tk x = some q) (hr : x_rel ad V sc x v) : ∃ n : Int32, v = .int n ∧ q.1 ≤ n.toInt ∧ n.toInt ≤ q.2 := by
  obtain ⟨t, a, b⟩ := x
  unfold x_bi at hb
  unfold x_rel at hr
  split at hb
  · rename_i h0
    simp only at h0
    subst h0
    cases hb
    exact hr
  · rename_i h0
    simp only at h0
    subst h0
    obtain ⟨n, hv, hn⟩ := hr
    obtain ⟨n', h1, h2, h3⟩ := h _ _ hb
    simp only at hn h1
    rw [hn] at h1
    cases h1
    exact ⟨n, hv, h2, h3⟩
  · cases hb
theorem x_bl_ok {ad : List Nat} {V : List Int} {sc : Nat × Nat × List Nat} {tk : xT} {x : xV} {q : Int × Int} {v : Value} (h : x_tk tk V) (hb : x_bl tk x = some q) (hr : x_rel ad V sc x v) : ∃ n : Int64, v = .long n ∧ q.1 ≤ n.toInt ∧ n.toInt ≤ q.2 := by
  obtain ⟨t, a, b⟩ := x
  unfold x_bl at hb
  unfold x_rel at hr
  split at hb
  · rename_i h0
    simp only at h0
    subst h0
    cases hb
    exact hr
  · rename_i h0
    simp only at h0
    subst h0
    obtain ⟨n, hv, hn⟩ := hr
    obtain ⟨n', h1, h2, h3⟩ := h _ _ hb
    simp only at hn h1
    rw [hn] at h1
    cases h1
    exact ⟨n, hv, h2, h3⟩
  · cases hb
/-- a cell of the picture and a cell of the world -/
def x_cell (cl : List vw_C) (ad : List Nat) (V : List Int) (sc : Nat × Nat × List Nat) (tys : List (ClassId × FieldType)) (x : xC) (e : va_E) : Prop := match x.1 with
  | 0 => ∃ fs : List Value, e = .inr (x.2.1, fs) ∧ fs.length = x.2.2.1 ∧ ∀ k, k < x.2.2.1 → ∃ v, fs[k]? = some v ∧ x_rel ad V sc (x_get x.2.2.2.1 x.2.2.2.2 k) v
  | 1 => ∃ (t0 : Nat) (cA : ClassId) (f : Nat → Int32), tys[t0]? = some (cA, .int) ∧ e = .inl (cA, x.2.2.1, .inl f) ∧ x.2.2.1 < 2147483648 ∧ ∀ k, k < x.2.2.1 → x_rel ad V sc (x_get x.2.2.2.1 x.2.2.2.2 k) (.int (f k))
  | 2 => ∃ (t0 : Nat) (cA : ClassId) (f : Nat → Int32), tys[t0]? = some (cA, .byte) ∧ e = .inl (cA, x.2.2.1, .inl f) ∧ x.2.2.1 < 2147483648 ∧ ∀ k, k < x.2.2.1 → x_rel ad V sc (x_get x.2.2.2.1 x.2.2.2.2 k) (.int (f k))
  | 3 => ∃ (t0 : Nat) (cA : ClassId) (f : Nat → Int32), tys[t0]? = some (cA, .boolean) ∧ e = .inl (cA, x.2.2.1, .inl f) ∧ x.2.2.1 < 2147483648 ∧ ∀ k, k < x.2.2.1 → x_rel ad V sc (x_get x.2.2.2.1 x.2.2.2.2 k) (.int (f k))
  | 5 => ∃ (t0 : Nat) (cA : ClassId) (r : vw_C) (f : Nat → Option Nat), cl[x.2.1]? = some r ∧ tys[t0]? = some (cA, .object r.1) ∧ e = .inl (cA, x.2.2.1, .inr (.inr (.inr (.inr f)))) ∧ x.2.2.1 < 2147483648 ∧ ∀ k, k < x.2.2.1 → x_rel ad V sc (x_get x.2.2.2.1 x.2.2.2.2 k) (va_rf (f k))
  | 6 => ∃ (t0 : Nat) (cA : ClassId) (f : Nat → Option Nat), tys[t0]? = some (cA, .array .int) ∧ e = .inl (cA, x.2.2.1, .inr (.inr (.inr (.inr f)))) ∧ x.2.2.1 < 2147483648 ∧ ∀ k, k < x.2.2.1 → x_rel ad V sc (x_get x.2.2.2.1 x.2.2.2.2 k) (va_rf (f k))
  | _ => False
def x_world (cl : List vw_C) (V : List Int) (sc : Nat × Nat × List Nat) (tys : List (ClassId × FieldType)) (w : List xC) (ws : va_W) : Prop := w.length = ws.length ∧ (∃ l, ws.map Prod.fst = sc.2.2 ++ l) ∧ ∀ (k : Nat) (x : xC) (q : Nat × va_E), w[k]? = some x → ws[k]? = some q → x_cell cl (ws.map Prod.fst) V sc tys x q.2
/-- the picture holds of the machine -/
def x_In (cl : List vw_C) (V : List Int) (sc : Nat × Nat × List Nat) (nL : Nat) (s : State) (D : va_G) (A : Nat → Prop) (H0 : Heap) (t : xS) (ls : Array Slot) (stk : List Value) (H : Heap) (locs : List Loc) : Prop :=
  ∃ (lv : List (Nat × Value)) (ws : va_W) (tys : List (ClassId × FieldType)), lv_has ls nL lv ∧ x_all2 (fun a q => a.1 = q.1 ∧ x_rel (ws.map Prod.fst) V sc a.2 q.2) t.2.1 lv ∧ x_all2 (x_rel (ws.map Prod.fst) V sc) t.2.2.1 stk ∧
    x_world cl V sc tys t.2.2.2.1 ws ∧ va_K D cl tys s ∧ va_P D cl ws H ∧ va_D A ws ∧ va_S A H0 H locs ∧ x_tk t.2.2.2.2.1 V
def x_Good (cl : List vw_C) (V : List Int) (sc : Nat × Nat × List Nat) (nL : Nat) (p : Program) (l : Launch) (e : Env) (R : Room) (s : State) (m : MethodId) (args : Array Value) (below : List Frame) (meth : Method) (c : Code) (D : va_G) (A : Nat → Prop) (H0 : Heap) (Q : State → Prop) (t : xS) : Prop :=
  ∀ (ls : Array Slot) (stk : List Value) (H : Heap) (locs : List Loc), x_In cl V sc nL s D A H0 t ls stk H locs → W p l e R s m args below meth c H locs t.2.2.2.2.2.1 t.2.2.2.2.2.2 Q (F0 m t.1 ls stk)
end
section
/-! plain instructions: what the interpreter does, and that the machine does so -/
theorem x_all2_filter {α β : Type} {R : α → β → Prop} {f : α → Bool} {g : β → Bool} : ∀ {as : List α} {bs : List β}, x_all2 R as bs → (∀ a b, R a b → f a = g b) → x_all2 R (as.filter f) (bs.filter g)
  | [], [], _, _ => trivial
  | a :: as, b :: bs, h, hf => by
    have e := hf a b h.1
    have ih := x_all2_filter h.2 hf
    simp only [List.filter_cons, e]
    split
    · exact ⟨h.1, ih⟩
    · exact ih
  | [], _ :: _, h, _ => h.elim
  | _ :: _, [], h, _ => h.elim
theorem x_all2_imp {α β : Type} {R R' : α → β → Prop} (hi : ∀ a b, R a b → R' a b) : ∀ {as : List α} {bs : List β}, x_all2 R as bs → x_all2 R' as bs
  | [], [], _ => trivial
  | _ :: _, _ :: _, h => ⟨hi _ _ h.1, x_all2_imp hi h.2⟩
  | [], _ :: _, h => h.elim
  | _ :: _, [], h => h.elim
theorem x_all2_app {α β : Type} {R : α → β → Prop} : ∀ {as as' : List α} {bs bs' : List β}, x_all2 R as bs → x_all2 R as' bs' → x_all2 R (as ++ as') (bs ++ bs')
  | [], _, [], _, _, h => h
  | _ :: _, _, _ :: _, _, h, h' => ⟨h.1, x_all2_app h.2 h'⟩
  | [], _, _ :: _, _, h, _ => h.elim
  | _ :: _, _, [], _, h, _ => h.elim
theorem x_all2_len {α β : Type} {R : α → β → Prop} : ∀ {as : List α} {bs : List β}, x_all2 R as bs → as.length = bs.length
  | [], [], _ => rfl
  | _ :: _, _ :: _, h => congrArg (· + 1) (x_all2_len h.2)
  | [], _ :: _, h => h.elim
  | _ :: _, [], h => h.elim
theorem x_all2_rev {α β : Type} {R : α → β → Prop} : ∀ {as : List α} {bs : List β}, x_all2 R as bs → x_all2 R as.reverse bs.reverse
  | [], [], _ => trivial
  | _ :: _, _ :: _, h => by
    rw [List.reverse_cons, List.reverse_cons]
    exact x_all2_app (x_all2_rev h.2) ⟨h.1, trivial⟩
  | [], _ :: _, h => h.elim
  | _ :: _, [], h => h.elim
def x_Cx (cc : ByteArray) (own : String) (nL : Nat) (nm : String) (MC MS : Nat) (p : Program) (R : Room) (s : State) (m : MethodId) (args : Array Value) (meth : Method) (c : Code) : Prop :=
  CallFix p m c cc nL s args x_tbl own ∧ meth.name = nm ∧ R.cells = MC ∧ R.slots = MS ∧ 1 ≤ R.frames ∧ 32 ≤ R.locals ∧ x_Ex s
abbrev xKx : Type := Room → State → (Nat → Prop) → Heap → List Int → Nat × Nat × List Nat → Prop
/-- one instruction, as the interpreter does it, may be trusted -/
def x_Snd (cl : List vw_C) (K : xKx) (cc : ByteArray) (own : String) (nL : Nat) (nm : String) (MC MS : Nat) (pc : Nat) (f : xS → Option (List xS)) : Prop :=
  ∀ {V : List Int} {sc : Nat × Nat × List Nat} {p : Program} {l : Launch} {e : Env} {R : Room} {s : State} {m : MethodId} {args : Array Value} {below : List Frame} {meth : Method} {c : Code} {D : va_G} {A : Nat → Prop} {H0 : Heap} {Q : State → Prop},
    x_Cx cc own nL nm MC MS p R s m args meth c → (∀ q : Nat, H0.size ≤ q → A q) → K R s A H0 V sc → ∀ (t : xS) (ts : List xS), t.1 = pc → f t = some ts →
    (∀ t' ∈ ts, x_Good cl V sc nL p l e R s m args below meth c D A H0 Q t') → x_Good cl V sc nL p l e R s m args below meth c D A H0 Q t
/-- the kinds of values: 0 an int, 1 a long, 2 a reference or null -/
def x_kd (ty : Nat) (v : Value) : Prop := match ty with
  | 0 => ∃ n, v = .int n
  | 1 => ∃ n, v = .long n
  | _ => v = .null ∨ ∃ a, v = .ref a
def x_ty (x : xV) : Nat := match x.1 with
  | 0 => 0
  | 3 => 0
  | 4 => 1
  | 6 => 1
  | _ => 2
theorem x_ty_ok {ad : List Nat} {V : List Int} {sc : Nat × Nat × List Nat} {x : xV} {v : Value} (h : x_rel ad V sc x v) : x_kd (x_ty x) v := by
  obtain ⟨t, a, b⟩ := x
  unfold x_rel at h
  unfold x_ty
  split at h
  · rename_i h0; simp only at h0; subst h0; exact ⟨_, h.choose_spec.1⟩
  · rename_i h0; simp only at h0; subst h0; exact Or.inr ⟨_, h.choose_spec.2⟩
  · rename_i h0; simp only at h0; subst h0; exact Or.inl h
  · rename_i h0; simp only at h0; subst h0; exact ⟨_, h.choose_spec.1⟩
  · rename_i h0; simp only at h0; subst h0; exact ⟨_, h.choose_spec.1⟩
  · rename_i h0; simp only at h0; subst h0; exact ⟨_, h.choose_spec.1⟩
  · rename_i h0; simp only at h0; subst h0; exact Or.inr ⟨_, h.1⟩
  · exact h.elim
theorem x_kd_cat {ty : Nat} {v : Value} (h : x_kd ty v) : v.category = if ty = 1 then 2 else 1 := by
  unfold x_kd at h
  split at h
  · obtain ⟨n, rfl⟩ := h; rfl
  · obtain ⟨n, rfl⟩ := h; rfl
  · rename_i h0 h1
    rw [if_neg h1]
    rcases h with rfl | ⟨a, rfl⟩ <;> rfl
def x_find : xL → Nat → Option xV
  | [], _ => none
  | q :: r, i => bif Nat.beq q.1 i then some q.2 else x_find r i
theorem x_find_ok {ad : List Nat} {V : List Int} {sc : Nat × Nat × List Nat} {i : Nat} {x : xV} : ∀ {al : xL} {lv : List (Nat × Value)}, x_all2 (fun a q => a.1 = q.1 ∧ x_rel ad V sc a.2 q.2) al lv → x_find al i = some x → ∃ (k : Nat) (v : Value), lv[k]? = some (i, v) ∧ x_rel ad V sc x v
  | [], [], _, h => by cases h
  | a :: al, q :: lv, h, hf => by
    unfold x_find at hf
    cases hb : Nat.beq a.1 i with
    | true =>
      rw [hb] at hf
      have e : a.1 = i := Nat.eq_of_beq_eq_true hb
      cases hf
      exact ⟨0, q.2, by simp [← e, h.1.1], h.1.2⟩
    | false =>
      rw [hb] at hf
      obtain ⟨k, v, h1, h2⟩ := x_find_ok h.2 hf
      exact ⟨k + 1, v, by simpa using h1, h2⟩
  | [], _ :: _, h, _ => h.elim
  | _ :: _, [], h, _ => h.elim
def x_flt (ty i : Nat) (q : Nat × xV) : Bool := bif Nat.beq ty 1 then !(Nat.beq q.1 i) && (!(Nat.beq q.1 (i + 1)) && !(Nat.beq (q.1 + 1) i && Nat.beq (x_ty q.2) 1)) else !(Nat.beq q.1 i) && !(Nat.beq (q.1 + 1) i && Nat.beq (x_ty q.2) 1)
def x_fltV (ty i : Nat) (q : Nat × Value) : Bool := bif Nat.beq ty 1 then !(q.1 == i) && (!(q.1 == i + 1) && !(q.1 + 1 == i && q.2.category == 2)) else !(q.1 == i) && !(q.1 + 1 == i && q.2.category == 2)
theorem x_bb (a b : Nat) : (a == b) = Nat.beq a b := by
  by_cases h : a = b
  · subst h; rw [Nat.beq_refl]; simp
  · rw [x_nb h]; simpa using h
theorem x_flt_eq {ad : List Nat} {V : List Int} {sc : Nat × Nat × List Nat} {ty i : Nat} (a : Nat × xV) (q : Nat × Value) (h : a.1 = q.1 ∧ x_rel ad V sc a.2 q.2) : x_flt ty i a = x_fltV ty i q := by
  have e : Nat.beq (x_ty a.2) 1 = (q.2.category == 2) := by
    rw [x_kd_cat (x_ty_ok h.2)]
    by_cases h1 : x_ty a.2 = 1
    · rw [h1]; rfl
    · rw [if_neg h1, x_nb h1]; rfl
  unfold x_flt x_fltV
  rw [h.1, e]
  simp only [x_bb]
-- what a row of the kit gives for one instruction
section XW
variable (cc : ByteArray) (own : String) (nL pc nx : Nat)
def x_Psh (v : Value) : Prop := ∀ {p : Program} {l : Launch} {e : Env} {R : Room} {s : State} {m : MethodId} {args : Array Value} {below : List Frame} {meth : Method} {c : Code}, CallFix p m c cc nL s args x_tbl own → ∀ {H : Heap} {locs : List Loc} {cells slots : Nat} {Q : State → Prop} {ls : Array Slot} {rest : List Value},
  W p l e R s m args below meth c H locs cells slots Q (F0 m nx ls (v :: rest)) → W p l e R s m args below meth c H locs cells slots Q (F0 m pc ls rest)
/-- the top of the stack changes from i to o -/
def x_Stk (i o : List Value) : Prop := ∀ {p : Program} {l : Launch} {e : Env} {R : Room} {s : State} {m : MethodId} {args : Array Value} {below : List Frame} {meth : Method} {c : Code}, CallFix p m c cc nL s args x_tbl own → ∀ {H : Heap} {locs : List Loc} {cells slots : Nat} {Q : State → Prop} {ls : Array Slot} {rest : List Value},
  W p l e R s m args below meth c H locs cells slots Q (F0 m nx ls (o ++ rest)) → W p l e R s m args below meth c H locs cells slots Q (F0 m pc ls (i ++ rest))
def x_Ld (i ty : Nat) : Prop := ∀ {p : Program} {l : Launch} {e : Env} {R : Room} {s : State} {m : MethodId} {args : Array Value} {below : List Frame} {meth : Method} {c : Code}, CallFix p m c cc nL s args x_tbl own → ∀ {H : Heap} {locs : List Loc} {cells slots : Nat} {Q : State → Prop} {ls : Array Slot} {rest : List Value} {v : Value}, ls[i]? = some (.val v) → x_kd ty v →
  W p l e R s m args below meth c H locs cells slots Q (F0 m nx ls (v :: rest)) → W p l e R s m args below meth c H locs cells slots Q (F0 m pc ls rest)
def x_Sto (i ty : Nat) : Prop := ∀ {p : Program} {l : Launch} {e : Env} {R : Room} {s : State} {m : MethodId} {args : Array Value} {below : List Frame} {meth : Method} {c : Code}, CallFix p m c cc nL s args x_tbl own → ∀ {H : Heap} {locs : List Loc} {cells slots : Nat} {Q : State → Prop} {ls : Array Slot} {rest : List Value} {v : Value} {lv : List (Nat × Value)}, lv_has ls nL lv → x_kd ty v →
  (∀ ls' : Array Slot, lv_has ls' nL ((i, v) :: lv.filter (x_fltV ty i)) → W p l e R s m args below meth c H locs cells slots Q (F0 m nx ls' rest)) → W p l e R s m args below meth c H locs cells slots Q (F0 m pc ls (v :: rest))
def x_Inc (i : Nat) (n : Int) : Prop := ∀ {p : Program} {l : Launch} {e : Env} {R : Room} {s : State} {m : MethodId} {args : Array Value} {below : List Frame} {meth : Method} {c : Code}, CallFix p m c cc nL s args x_tbl own → ∀ {H : Heap} {locs : List Loc} {cells slots : Nat} {Q : State → Prop} {ls : Array Slot} {rest : List Value} {k : Nat} {x : Int32} {lv : List (Nat × Value)}, lv_has ls nL lv → lv[k]? = some (i, .int x) →
  (∀ ls' : Array Slot, lv_has ls' nL ((i, .int (x + Int32.ofInt n)) :: lv.filter (x_fltV 0 i)) → W p l e R s m args below meth c H locs cells slots Q (F0 m nx ls' rest)) → W p l e R s m args below meth c H locs cells slots Q (F0 m pc ls rest)
end XW
def xi_push (x : xV) (nx : Nat) : xS → Option (List xS) := fun t => some [(nx, t.2.1, x :: t.2.2.1, t.2.2.2)]
def xi_load (i ty nx : Nat) : xS → Option (List xS) := fun t => match x_find t.2.1 i with
  | some x => bif Nat.beq (x_ty x) ty then some [(nx, t.2.1, x :: t.2.2.1, t.2.2.2)] else none
  | none => none
def xi_stor (i ty nx : Nat) : xS → Option (List xS) := fun t => match t.2.2.1 with
  | x :: r => bif Nat.beq (x_ty x) ty then some [(nx, (i, x) :: t.2.1.filter (x_flt ty i), r, t.2.2.2)] else none
  | [] => none
def xi_goto (nx : Nat) : xS → Option (List xS) := fun t => some [(nx, t.2)]
section X3
variable {cl : List vw_C} {K : xKx} {cc : ByteArray} {own : String} {nL : Nat} {nm : String} {MC MS pc nx : Nat}
theorem xi_push_ok {x : xV} {v : Value} (hw : x_Psh cc own nL pc nx v) (hv : ∀ ad V sc, x_rel ad V sc x v) : x_Snd cl K cc own nL nm MC MS pc (xi_push x nx) := by
  intro V sc p l e R s m args below meth c D A H0 Q C hA hK t ts hpc hf hg
  have hf' : some [(nx, t.2.1, x :: t.2.2.1, t.2.2.2)] = some ts := hf
  cases hf'
  subst hpc
  intro ls stk H locs ⟨lv, ws, tys, h1, h2, h3, h4⟩
  exact hw C.1 (hg _ List.mem_cons_self ls (v :: stk) H locs ⟨lv, ws, tys, h1, h2, ⟨hv _ _ _, h3⟩, h4⟩)
theorem xi_load_ok {i ty : Nat} (hw : x_Ld cc own nL pc nx i ty) : x_Snd cl K cc own nL nm MC MS pc (xi_load i ty nx) := by
  intro V sc p l e R s m args below meth c D A H0 Q C hA hK t ts hpc hf hg
  unfold xi_load at hf
  split at hf
  · rename_i x hx
    cases hb : Nat.beq (x_ty x) ty with
    | false => rw [hb] at hf; cases hf
    | true =>
      rw [hb] at hf
      cases hf
      subst hpc
      have e := Nat.eq_of_beq_eq_true hb
      intro ls stk H locs ⟨lv, ws, tys, h1, h2, h3, h4⟩
      obtain ⟨k, v, hk, hr⟩ := x_find_ok h2 hx
      exact hw C.1 (lv_at h1 k hk) (e ▸ x_ty_ok hr) (hg _ List.mem_cons_self ls (v :: stk) H locs ⟨lv, ws, tys, h1, h2, ⟨hr, h3⟩, h4⟩)
  · cases hf
theorem xi_stor_ok {i ty : Nat} (hw : x_Sto cc own nL pc nx i ty) : x_Snd cl K cc own nL nm MC MS pc (xi_stor i ty nx) := by
  intro V sc p l e R s m args below meth c D A H0 Q C hA hK t ts hpc hf hg
  unfold xi_stor at hf
  split at hf
  · rename_i x r hx
    cases hb : Nat.beq (x_ty x) ty with
    | false => rw [hb] at hf; cases hf
    | true =>
      rw [hb] at hf
      cases hf
      subst hpc
      have e := Nat.eq_of_beq_eq_true hb
      intro ls stk H locs ⟨lv, ws, tys, h1, h2, h3, h4⟩
      rw [hx] at h3
      match stk, h3 with
      | v :: rest, h3 =>
        exact hw C.1 h1 (e ▸ x_ty_ok h3.1) (fun ls' hl' => hg _ List.mem_cons_self ls' rest H locs ⟨_, ws, tys, hl', ⟨⟨rfl, h3.1⟩, x_all2_filter h2 x_flt_eq⟩, h3.2, h4⟩)
  · cases hf
theorem xi_goto_ok (hw : x_Stk cc own nL pc nx [] []) : x_Snd cl K cc own nL nm MC MS pc (xi_goto nx) := by
  intro V sc p l e R s m args below meth c D A H0 Q C hA hK t ts hpc hf hg
  have hf' : some [(nx, t.2)] = some ts := hf
  cases hf'
  subst hpc
  intro ls stk H locs h
  exact hw C.1 (hg _ List.mem_cons_self ls stk H locs h)
end X3
end
section
/-! numbers by bounds; branches -/
def x_I (lo hi : Int) : xV := bif decide (-2147483648 ≤ lo) && decide (hi ≤ 2147483647) then (0, lo, hi) else (0, -2147483648, 2147483647)
def x_J (lo hi : Int) : xV := bif decide (-9223372036854775808 ≤ lo) && decide (hi ≤ 9223372036854775807) then (4, lo, hi) else (4, -9223372036854775808, 9223372036854775807)
theorem x_bmod {z : Int} (h1 : -2147483648 ≤ z) (h2 : z ≤ 2147483647) : z.bmod 4294967296 = z := by
  rw [Int.bmod_eq_of_le] <;> omega
theorem x_bmodL {z : Int} (h1 : -9223372036854775808 ≤ z) (h2 : z ≤ 9223372036854775807) : z.bmod 18446744073709551616 = z := by
  rw [Int.bmod_eq_of_le] <;> omega
theorem x_rng (n : Int32) : -2147483648 ≤ n.toInt ∧ n.toInt ≤ 2147483647 := by
  have h1 := Int32.le_toInt n
  have h2 := Int32.toInt_lt n
  omega
theorem x_rngL (n : Int64) : -9223372036854775808 ≤ n.toInt ∧ n.toInt ≤ 9223372036854775807 := by
  have h1 := Int64.le_toInt n
  have h2 := Int64.toInt_lt n
  omega
theorem x_I_ok {ad : List Nat} {V : List Int} {sc : Nat × Nat × List Nat} {n : Int32} {z lo hi : Int} (hz : n.toInt = z.bmod 4294967296) (h1 : lo ≤ z) (h2 : z ≤ hi) : x_rel ad V sc (x_I lo hi) (.int n) := by
  unfold x_I
  cases hc : (decide (-2147483648 ≤ lo) && decide (hi ≤ 2147483647)) with
  | false => exact ⟨n, rfl, (x_rng n).1, (x_rng n).2⟩
  | true =>
    simp only [Bool.and_eq_true, decide_eq_true_eq] at hc
    rw [x_bmod (by omega) (by omega)] at hz
    exact ⟨n, rfl, by show lo ≤ n.toInt; omega, by show n.toInt ≤ hi; omega⟩
theorem x_J_ok {ad : List Nat} {V : List Int} {sc : Nat × Nat × List Nat} {n : Int64} {z lo hi : Int} (hz : n.toInt = z.bmod 18446744073709551616) (h1 : lo ≤ z) (h2 : z ≤ hi) : x_rel ad V sc (x_J lo hi) (.long n) := by
  unfold x_J
  cases hc : (decide (-9223372036854775808 ≤ lo) && decide (hi ≤ 9223372036854775807)) with
  | false => exact ⟨n, rfl, (x_rngL n).1, (x_rngL n).2⟩
  | true =>
    simp only [Bool.and_eq_true, decide_eq_true_eq] at hc
    rw [x_bmodL (by omega) (by omega)] at hz
    exact ⟨n, rfl, by show lo ≤ n.toInt; omega, by show n.toInt ≤ hi; omega⟩
/-- any int -/
def x_any : xV := (0, -2147483648, 2147483647)
theorem x_any_ok {ad : List Nat} {V : List Int} {sc : Nat × Nat × List Nat} (n : Int32) : x_rel ad V sc x_any (.int n) := ⟨n, rfl, (x_rng n).1, (x_rng n).2⟩
def x_anyL : xV := (4, -9223372036854775808, 9223372036854775807)
theorem x_anyL_ok {ad : List Nat} {V : List Int} {sc : Nat × Nat × List Nat} (n : Int64) : x_rel ad V sc x_anyL (.long n) := ⟨n, rfl, (x_rngL n).1, (x_rngL n).2⟩
/-- two ints on the stack, an int comes: by bounds -/
def xi_bin (F : Int × Int → Int × Int → Option xV) (nx : Nat) : xS → Option (List xS) := fun t => match t.2.2.1 with
  | y :: x :: r => match x_bi t.2.2.2.2.1 x, x_bi t.2.2.2.2.1 y with
    | some a, some b => match F a b with
      | some z => some [(nx, t.2.1, z :: r, t.2.2.2)]
      | none => none
    | _, _ => none
  | _ => none
def xi_un (F : Int × Int → xV) (nx : Nat) : xS → Option (List xS) := fun t => match t.2.2.1 with
  | x :: r => match x_bi t.2.2.2.2.1 x with
    | some a => some [(nx, t.2.1, F a :: r, t.2.2.2)]
    | none => none
  | _ => none
def xi_binL (F : Int × Int → Int × Int → Option xV) (nx : Nat) : xS → Option (List xS) := fun t => match t.2.2.1 with
  | y :: x :: r => match x_bl t.2.2.2.2.1 x, x_bl t.2.2.2.2.1 y with
    | some a, some b => match F a b with
      | some z => some [(nx, t.2.1, z :: r, t.2.2.2)]
      | none => none
    | _, _ => none
  | _ => none
/-- a long below, an int above: a shift -/
def xi_shL (F : Int × Int → Int × Int → Option xV) (nx : Nat) : xS → Option (List xS) := fun t => match t.2.2.1 with
  | y :: x :: r => match x_bl t.2.2.2.2.1 x, x_bi t.2.2.2.2.1 y with
    | some a, some b => match F a b with
      | some z => some [(nx, t.2.1, z :: r, t.2.2.2)]
      | none => none
    | _, _ => none
  | _ => none
def xi_unL (F : Int × Int → xV) (nx : Nat) : xS → Option (List xS) := fun t => match t.2.2.1 with
  | x :: r => match x_bl t.2.2.2.2.1 x with
    | some a => some [(nx, t.2.1, F a :: r, t.2.2.2)]
    | none => none
  | _ => none
/-- an int becomes a long: a token stays one -/
def xi_i2l (nx : Nat) : xS → Option (List xS) := fun t => match t.2.2.1 with
  | x :: r => match x.1 with
    | 3 => some [(nx, t.2.1, (6, x.2) :: r, t.2.2.2)]
    | _ => match x_bi t.2.2.2.2.1 x with
      | some a => some [(nx, t.2.1, (4, a) :: r, t.2.2.2)]
      | none => none
  | _ => none
def xi_inc (i : Nat) (n : Int) (nx : Nat) : xS → Option (List xS) := fun t => match x_find t.2.1 i with
  | some x => match x_bi t.2.2.2.2.1 x with
    | some a => some [(nx, (i, x_I (a.1 + n) (a.2 + n)) :: t.2.1.filter (x_flt 0 i), t.2.2.1, t.2.2.2)]
    | none => none
  | none => none
section X4
variable {cl : List vw_C} {K : xKx} {cc : ByteArray} {own : String} {nL : Nat} {nm : String} {MC MS pc nx : Nat}
theorem xi_bin_ok {F : Int × Int → Int × Int → Option xV} {g : Int32 → Int32 → Int32} (P : Int32 → Prop) (hw : ∀ x y, P y → x_Stk cc own nL pc nx [.int y, .int x] [.int (g x y)])
    (hF : ∀ (a b : Int × Int) (z : xV) (x y : Int32), F a b = some z → a.1 ≤ x.toInt → x.toInt ≤ a.2 → b.1 ≤ y.toInt → y.toInt ≤ b.2 → P y ∧ ∀ ad V sc, x_rel ad V sc z (.int (g x y))) : x_Snd cl K cc own nL nm MC MS pc (xi_bin F nx) := by
  intro V sc p l e R s m args below meth c D A H0 Q C hA hK t ts hpc hf hg
  unfold xi_bin at hf
  split at hf
  · rename_i y x r hst
    split at hf
    · rename_i a b ha hb
      split at hf
      · rename_i z hz
        cases hf
        subst hpc
        intro ls stk H locs ⟨lv, ws, tys, h1, h2, h3, h4⟩
        rw [hst] at h3
        match stk, h3 with
        | v1 :: v2 :: rest, h3 =>
          obtain ⟨ny, rfl, y1, y2⟩ := x_bi_ok h4.2.2.2.2.2 hb h3.1
          obtain ⟨nx', rfl, x1, x2⟩ := x_bi_ok h4.2.2.2.2.2 ha h3.2.1
          obtain ⟨hP, hr⟩ := hF a b z nx' ny hz x1 x2 y1 y2
          exact hw nx' ny hP C.1 (hg _ List.mem_cons_self ls (.int (g nx' ny) :: rest) H locs ⟨lv, ws, tys, h1, h2, ⟨hr _ _ _, h3.2.2⟩, h4⟩)
      · cases hf
    · cases hf
  · cases hf
theorem xi_un_ok {F : Int × Int → xV} {g : Int32 → Value} (hw : ∀ x, x_Stk cc own nL pc nx [.int x] [g x])
    (hF : ∀ (a : Int × Int) (x : Int32), a.1 ≤ x.toInt → x.toInt ≤ a.2 → ∀ ad V sc, x_rel ad V sc (F a) (g x)) : x_Snd cl K cc own nL nm MC MS pc (xi_un F nx) := by
  intro V sc p l e R s m args below meth c D A H0 Q C hA hK t ts hpc hf hg
  unfold xi_un at hf
  split at hf
  · rename_i x r hst
    split at hf
    · rename_i a ha
      cases hf
      subst hpc
      intro ls stk H locs ⟨lv, ws, tys, h1, h2, h3, h4⟩
      rw [hst] at h3
      match stk, h3 with
      | v2 :: rest, h3 =>
        obtain ⟨nx', rfl, x1, x2⟩ := x_bi_ok h4.2.2.2.2.2 ha h3.1
        exact hw nx' C.1 (hg _ List.mem_cons_self ls (g nx' :: rest) H locs ⟨lv, ws, tys, h1, h2, ⟨hF a nx' x1 x2 _ _ _, h3.2⟩, h4⟩)
    · cases hf
  · cases hf
theorem xi_unL_ok {F : Int × Int → xV} {g : Int64 → Value} (hw : ∀ x, x_Stk cc own nL pc nx [.long x] [g x])
    (hF : ∀ (a : Int × Int) (x : Int64), a.1 ≤ x.toInt → x.toInt ≤ a.2 → ∀ ad V sc, x_rel ad V sc (F a) (g x)) : x_Snd cl K cc own nL nm MC MS pc (xi_unL F nx) := by
  intro V sc p l e R s m args below meth c D A H0 Q C hA hK t ts hpc hf hg
  unfold xi_unL at hf
  split at hf
  · rename_i x r hst
    split at hf
    · rename_i a ha
      cases hf
      subst hpc
      intro ls stk H locs ⟨lv, ws, tys, h1, h2, h3, h4⟩
      rw [hst] at h3
      match stk, h3 with
      | v2 :: rest, h3 =>
        obtain ⟨nx', rfl, x1, x2⟩ := x_bl_ok h4.2.2.2.2.2 ha h3.1
        exact hw nx' C.1 (hg _ List.mem_cons_self ls (g nx' :: rest) H locs ⟨lv, ws, tys, h1, h2, ⟨hF a nx' x1 x2 _ _ _, h3.2⟩, h4⟩)
    · cases hf
  · cases hf
theorem xi_binL_ok {F : Int × Int → Int × Int → Option xV} {g : Int64 → Int64 → Int64} (P : Int64 → Prop) (hw : ∀ x y, P y → x_Stk cc own nL pc nx [.long y, .long x] [.long (g x y)])
    (hF : ∀ (a b : Int × Int) (z : xV) (x y : Int64), F a b = some z → a.1 ≤ x.toInt → x.toInt ≤ a.2 → b.1 ≤ y.toInt → y.toInt ≤ b.2 → P y ∧ ∀ ad V sc, x_rel ad V sc z (.long (g x y))) : x_Snd cl K cc own nL nm MC MS pc (xi_binL F nx) := by
  intro V sc p l e R s m args below meth c D A H0 Q C hA hK t ts hpc hf hg
  unfold xi_binL at hf
  split at hf
  · rename_i y x r hst
    split at hf
    · rename_i a b ha hb
      split at hf
      · rename_i z hz
        cases hf
        subst hpc
        intro ls stk H locs ⟨lv, ws, tys, h1, h2, h3, h4⟩
        rw [hst] at h3
        match stk, h3 with
        | v1 :: v2 :: rest, h3 =>
          obtain ⟨ny, rfl, y1, y2⟩ := x_bl_ok h4.2.2.2.2.2 hb h3.1
          obtain ⟨nx', rfl, x1, x2⟩ := x_bl_ok h4.2.2.2.2.2 ha h3.2.1
          obtain ⟨hP, hr⟩ := hF a b z nx' ny hz x1 x2 y1 y2
          exact hw nx' ny hP C.1 (hg _ List.mem_cons_self ls (.long (g nx' ny) :: rest) H locs ⟨lv, ws, tys, h1, h2, ⟨hr _ _ _, h3.2.2⟩, h4⟩)
      · cases hf
    · cases hf
  · cases hf
theorem xi_shL_ok {F : Int × Int → Int × Int → Option xV} {g : Int64 → Int32 → Int64} (hw : ∀ x y, x_Stk cc own nL pc nx [.int y, .long x] [.long (g x y)])
    (hF : ∀ (a b : Int × Int) (z : xV) (x : Int64) (y : Int32), F a b = some z → a.1 ≤ x.toInt → x.toInt ≤ a.2 → b.1 ≤ y.toInt → y.toInt ≤ b.2 → ∀ ad V sc, x_rel ad V sc z (.long (g x y))) : x_Snd cl K cc own nL nm MC MS pc (xi_shL F nx) := by
  intro V sc p l e R s m args below meth c D A H0 Q C hA hK t ts hpc hf hg
  unfold xi_shL at hf
  split at hf
  · rename_i y x r hst
    split at hf
    · rename_i a b ha hb
      split at hf
      · rename_i z hz
        cases hf
        subst hpc
        intro ls stk H locs ⟨lv, ws, tys, h1, h2, h3, h4⟩
        rw [hst] at h3
        match stk, h3 with
        | v1 :: v2 :: rest, h3 =>
          obtain ⟨ny, rfl, y1, y2⟩ := x_bi_ok h4.2.2.2.2.2 hb h3.1
          obtain ⟨nx', rfl, x1, x2⟩ := x_bl_ok h4.2.2.2.2.2 ha h3.2.1
          have hr := hF a b z nx' ny hz x1 x2 y1 y2
          exact hw nx' ny C.1 (hg _ List.mem_cons_self ls (.long (g nx' ny) :: rest) H locs ⟨lv, ws, tys, h1, h2, ⟨hr _ _ _, h3.2.2⟩, h4⟩)
      · cases hf
    · cases hf
  · cases hf
theorem xi_i2l_ok (hw : ∀ x : Int32, x_Stk cc own nL pc nx [.int x] [.long x.toInt64]) : x_Snd cl K cc own nL nm MC MS pc (xi_i2l nx) := by
  intro V sc p l e R s m args below meth c D A H0 Q C hA hK t ts hpc hf hg
  unfold xi_i2l at hf
  split at hf
  · rename_i x r hst
    obtain ⟨tg, xa, xb⟩ := x
    split at hf
    · rename_i h0
      simp only at h0
      subst h0
      cases hf
      subst hpc
      intro ls stk H locs ⟨lv, ws, tys, h1, h2, h3, h4⟩
      rw [hst] at h3
      match stk, h3 with
      | v2 :: rest, h3 =>
        obtain ⟨n, rfl, hn⟩ := h3.1
        exact hw n C.1 (hg _ List.mem_cons_self ls (.long n.toInt64 :: rest) H locs ⟨lv, ws, tys, h1, h2, ⟨⟨n.toInt64, rfl, by rw [Int32.toInt_toInt64]; exact hn⟩, h3.2⟩, h4⟩)
    · split at hf
      · rename_i a ha
        cases hf
        subst hpc
        intro ls stk H locs ⟨lv, ws, tys, h1, h2, h3, h4⟩
        rw [hst] at h3
        match stk, h3 with
        | v2 :: rest, h3 =>
          obtain ⟨n, rfl, x1, x2⟩ := x_bi_ok h4.2.2.2.2.2 ha h3.1
          exact hw n C.1 (hg _ List.mem_cons_self ls (.long n.toInt64 :: rest) H locs ⟨lv, ws, tys, h1, h2, ⟨⟨n.toInt64, rfl, by rw [Int32.toInt_toInt64]; exact x1, by rw [Int32.toInt_toInt64]; exact x2⟩, h3.2⟩, h4⟩)
      · cases hf
  · cases hf
theorem xi_inc_ok {i : Nat} {n : Int} (hn : -2147483648 ≤ n ∧ n ≤ 2147483647) (hw : x_Inc cc own nL pc nx i n) : x_Snd cl K cc own nL nm MC MS pc (xi_inc i n nx) := by
  intro V sc p l e R s m args below meth c D A H0 Q C hA hK t ts hpc hf hg
  unfold xi_inc at hf
  split at hf
  · rename_i x hx
    split at hf
    · rename_i a ha
      cases hf
      subst hpc
      intro ls stk H locs ⟨lv, ws, tys, h1, h2, h3, h4⟩
      obtain ⟨k, v, hk, hr⟩ := x_find_ok h2 hx
      obtain ⟨z, rfl, x1, x2⟩ := x_bi_ok h4.2.2.2.2.2 ha hr
      refine hw C.1 h1 hk (fun ls' hl' => hg _ List.mem_cons_self ls' stk H locs ⟨_, ws, tys, hl', ⟨⟨rfl, ?_⟩, x_all2_filter h2 x_flt_eq⟩, h3, h4⟩)
      refine x_I_ok (z := z.toInt + n) ?_ (by omega) (by omega)
      rw [Int32.toInt_add, Int32.toInt_ofInt, x_bmod hn.1 hn.2]
    · cases hf
  · cases hf
end X4
end
section
/-! branches by bounds: decided where the bounds decide, else both ways with narrower bounds -/
def x_cnd (k : Nat) (a b : Int) : Prop := match k with
  | 0 => a = b
  | 1 => a ≠ b
  | 2 => a < b
  | 3 => b ≤ a
  | 4 => b < a
  | _ => a ≤ b
def x_neg (k : Nat) : Nat := match k with
  | 0 => 1
  | 1 => 0
  | 2 => 3
  | 3 => 2
  | 4 => 5
  | _ => 4
theorem x_neg_ok {k : Nat} {a b : Int} (h : ¬ x_cnd k a b) : x_cnd (x_neg k) a b := by
  unfold x_cnd at h
  unfold x_neg
  split at h <;> simp only [x_cnd] <;> omega
/-- can it be so? -/
def x_may (k : Nat) (a b : Int × Int) : Bool := match k with
  | 0 => decide (a.1 ≤ b.2) && decide (b.1 ≤ a.2)
  | 1 => !(decide (a.1 = a.2) && (decide (b.1 = b.2) && decide (a.1 = b.1)))
  | 2 => decide (a.1 < b.2)
  | 3 => decide (b.1 ≤ a.2)
  | 4 => decide (b.1 < a.2)
  | _ => decide (a.1 ≤ b.2)
theorem x_may_ok {k : Nat} {a b : Int × Int} {x y : Int} (hx : a.1 ≤ x ∧ x ≤ a.2) (hy : b.1 ≤ y ∧ y ≤ b.2) (h : x_cnd k x y) : x_may k a b = true := by
  unfold x_cnd at h
  unfold x_may
  split at h <;> simp only [Bool.and_eq_true, decide_eq_true_eq, Bool.not_eq_true', Bool.and_eq_false_iff, decide_eq_false_iff_not] <;> omega
def x_max (a b : Int) : Int := bif decide (a ≤ b) then b else a
def x_min (a b : Int) : Int := bif decide (a ≤ b) then a else b
theorem x_max_le {a b x : Int} (h1 : a ≤ x) (h2 : b ≤ x) : x_max a b ≤ x := by
  unfold x_max
  cases decide (a ≤ b) <;> assumption
theorem x_le_min {a b x : Int} (h1 : x ≤ a) (h2 : x ≤ b) : x ≤ x_min a b := by
  unfold x_min
  cases decide (a ≤ b) <;> assumption
/-- what is then known of the first -/
def x_nar1 (k : Nat) (a b : Int × Int) : Int × Int := match k with
  | 0 => (x_max a.1 b.1, x_min a.2 b.2)
  | 1 => a
  | 2 => (a.1, x_min a.2 (b.2 - 1))
  | 3 => (x_max a.1 b.1, a.2)
  | 4 => (x_max a.1 (b.1 + 1), a.2)
  | _ => (a.1, x_min a.2 b.2)
def x_nar2 (k : Nat) (a b : Int × Int) : Int × Int := match k with
  | 0 => (x_max a.1 b.1, x_min a.2 b.2)
  | 1 => b
  | 2 => (x_max b.1 (a.1 + 1), b.2)
  | 3 => (b.1, x_min b.2 a.2)
  | 4 => (b.1, x_min b.2 (a.2 - 1))
  | _ => (x_max b.1 a.1, b.2)
theorem x_nar_ok {k : Nat} {a b : Int × Int} {x y : Int} (hx : a.1 ≤ x ∧ x ≤ a.2) (hy : b.1 ≤ y ∧ y ≤ b.2) (h : x_cnd k x y) : ((x_nar1 k a b).1 ≤ x ∧ x ≤ (x_nar1 k a b).2) ∧ (x_nar2 k a b).1 ≤ y ∧ y ≤ (x_nar2 k a b).2 := by
  unfold x_cnd at h
  unfold x_nar1 x_nar2
  split at h <;> refine ⟨⟨?_, ?_⟩, ?_, ?_⟩ <;> (try simp only) <;> first | omega | (apply x_max_le <;> omega) | (apply x_le_min <;> omega)
/-- a token's bounds set -/
def x_setb (tk : xT) (x : xV) (b : Int × Int) : xT := match x.1 with
  | 3 => tk.set x.2.1.toNat b
  | 6 => tk.set x.2.1.toNat b
  | _ => tk
theorem x_tk_set {tk : xT} {V : List Int} {j : Nat} {b : Int × Int} {z : Int} (h : x_tk tk V) (hv : V[j]? = some z) (h1 : b.1 ≤ z) (h2 : z ≤ b.2) : x_tk (tk.set j b) V := by
  intro i q hq
  rw [List.getElem?_set] at hq
  split at hq
  · rename_i e
    split at hq
    · cases hq
      subst e
      exact ⟨z, hv, h1, h2⟩
    · cases hq
  · exact h i q hq
theorem x_setb_i {ad : List Nat} {V : List Int} {sc : Nat × Nat × List Nat} {tk : xT} {x : xV} {b : Int × Int} {n : Int32} (h : x_tk tk V) (hr : x_rel ad V sc x (.int n)) (h1 : b.1 ≤ n.toInt) (h2 : n.toInt ≤ b.2) : x_tk (x_setb tk x b) V := by
  obtain ⟨t, xa, xb⟩ := x
  unfold x_setb
  unfold x_rel at hr
  split at hr
  · rename_i h0; simp only at h0; subst h0; exact h
  · rename_i h0; simp only at h0; subst h0; exact h
  · rename_i h0; simp only at h0; subst h0; exact h
  · rename_i h0; simp only at h0; subst h0
    obtain ⟨n', e, hv⟩ := hr
    cases e
    exact x_tk_set h hv h1 h2
  · rename_i h0; simp only at h0; subst h0; exact h
  · obtain ⟨n', e, hv⟩ := hr
    cases e
  · rename_i h0; simp only at h0; subst h0; exact h
  · exact hr.elim
theorem x_setb_l {ad : List Nat} {V : List Int} {sc : Nat × Nat × List Nat} {tk : xT} {x : xV} {b : Int × Int} {n : Int64} (h : x_tk tk V) (hr : x_rel ad V sc x (.long n)) (h1 : b.1 ≤ n.toInt) (h2 : n.toInt ≤ b.2) : x_tk (x_setb tk x b) V := by
  obtain ⟨t, xa, xb⟩ := x
  unfold x_setb
  unfold x_rel at hr
  split at hr
  · rename_i h0; simp only at h0; subst h0; exact h
  · rename_i h0; simp only at h0; subst h0; exact h
  · rename_i h0; simp only at h0; subst h0; exact h
  · obtain ⟨n', e, hv⟩ := hr
    cases e
  · rename_i h0; simp only at h0; subst h0; exact h
  · rename_i h0; simp only at h0; subst h0
    obtain ⟨n', e, hv⟩ := hr
    cases e
    exact x_tk_set h hv h1 h2
  · rename_i h0; simp only at h0; subst h0; exact h
  · exact hr.elim
/-- one way of a branch, if it can be gone -/
def x_way (k : Nat) (a b : Int × Int) (t : xS) (x y : xV) (st : List xV) (nx : Nat) : List xS :=
  bif x_may k a b then [(nx, t.2.1, st, t.2.2.2.1, x_setb (x_setb t.2.2.2.2.1 x (x_nar1 k a b)) y (x_nar2 k a b), t.2.2.2.2.2)] else []
def xi_if2 (k tg nx : Nat) : xS → Option (List xS) := fun t => match t.2.2.1 with
  | y :: x :: r => match x_bi t.2.2.2.2.1 x, x_bi t.2.2.2.2.1 y with
    | some a, some b => some (x_way k a b t x y r tg ++ x_way (x_neg k) a b t x y r nx)
    | _, _ => none
  | _ => none
def xi_if1 (k tg nx : Nat) : xS → Option (List xS) := fun t => match t.2.2.1 with
  | x :: r => match x_bi t.2.2.2.2.1 x with
    | some a => some (x_way k a (0, 0) t x (0, 0, 0) r tg ++ x_way (x_neg k) a (0, 0) t x (0, 0, 0) r nx)
    | _ => none
  | _ => none
def xi_lcmp (nx : Nat) : xS → Option (List xS) := fun t => match t.2.2.1 with
  | y :: x :: r => match x_bl t.2.2.2.2.1 x, x_bl t.2.2.2.2.1 y with
    | some a, some b => some (x_way 2 a b t x y ((0, -1, -1) :: r) nx ++ (x_way 0 a b t x y ((0, 0, 0) :: r) nx ++ x_way 4 a b t x y ((0, 1, 1) :: r) nx))
    | _, _ => none
  | _ => none
section XW5
variable (cc : ByteArray) (own : String) (nL pc tg nx : Nat)
def x_If2 (k : Nat) : Prop := ∀ {p : Program} {l : Launch} {e : Env} {R : Room} {s : State} {m : MethodId} {args : Array Value} {below : List Frame} {meth : Method} {c : Code}, CallFix p m c cc nL s args x_tbl own → ∀ {H : Heap} {locs : List Loc} {cells slots : Nat} {Q : State → Prop} {ls : Array Slot} {rest : List Value} {x y : Int32},
  (x_cnd k x.toInt y.toInt → W p l e R s m args below meth c H locs cells slots Q (F0 m tg ls rest)) → (¬ x_cnd k x.toInt y.toInt → W p l e R s m args below meth c H locs cells slots Q (F0 m nx ls rest)) → W p l e R s m args below meth c H locs cells slots Q (F0 m pc ls (.int y :: .int x :: rest))
def x_If1 (k : Nat) : Prop := ∀ {p : Program} {l : Launch} {e : Env} {R : Room} {s : State} {m : MethodId} {args : Array Value} {below : List Frame} {meth : Method} {c : Code}, CallFix p m c cc nL s args x_tbl own → ∀ {H : Heap} {locs : List Loc} {cells slots : Nat} {Q : State → Prop} {ls : Array Slot} {rest : List Value} {x : Int32},
  (x_cnd k x.toInt 0 → W p l e R s m args below meth c H locs cells slots Q (F0 m tg ls rest)) → (¬ x_cnd k x.toInt 0 → W p l e R s m args below meth c H locs cells slots Q (F0 m nx ls rest)) → W p l e R s m args below meth c H locs cells slots Q (F0 m pc ls (.int x :: rest))
end XW5
section X5
variable {cl : List vw_C} {K : xKx} {cc : ByteArray} {own : String} {nL : Nat} {nm : String} {MC MS pc tg nx : Nat}
theorem x_way_in {k : Nat} {a b : Int × Int} {t : xS} {x y : xV} {st : List xV} {nx : Nat} (h : x_may k a b = true) : (nx, t.2.1, st, t.2.2.2.1, x_setb (x_setb t.2.2.2.2.1 x (x_nar1 k a b)) y (x_nar2 k a b), t.2.2.2.2.2) ∈ x_way k a b t x y st nx := by
  unfold x_way
  rw [h]
  exact List.mem_cons_self
theorem xi_if2_ok {k : Nat} (hw : x_If2 cc own nL pc tg nx k) : x_Snd cl K cc own nL nm MC MS pc (xi_if2 k tg nx) := by
  intro V sc p l e R s m args below meth c D A H0 Q C hA hK t ts hpc hf hg
  unfold xi_if2 at hf
  split at hf
  · rename_i y x r hst
    split at hf
    · rename_i a b ha hb
      cases hf
      subst hpc
      intro ls stk H locs ⟨lv, ws, tys, h1, h2, h3, h4, h5, h6, h7, h8, h9⟩
      rw [hst] at h3
      match stk, h3 with
      | v1 :: v2 :: rest, h3 =>
        obtain ⟨ny, rfl, y1, y2⟩ := x_bi_ok h9 hb h3.1
        obtain ⟨nx', rfl, x1, x2⟩ := x_bi_ok h9 ha h3.2.1
        refine hw C.1 (fun hc => ?_) (fun hc => ?_)
        · obtain ⟨⟨g1, g2⟩, g3, g4⟩ := x_nar_ok ⟨x1, x2⟩ ⟨y1, y2⟩ hc
          exact hg _ (List.mem_append_left _ (x_way_in (x_may_ok ⟨x1, x2⟩ ⟨y1, y2⟩ hc))) ls rest H locs ⟨lv, ws, tys, h1, h2, h3.2.2, h4, h5, h6, h7, h8, x_setb_i (x_setb_i h9 h3.2.1 g1 g2) h3.1 g3 g4⟩
        · have hc := x_neg_ok hc
          obtain ⟨⟨g1, g2⟩, g3, g4⟩ := x_nar_ok ⟨x1, x2⟩ ⟨y1, y2⟩ hc
          exact hg _ (List.mem_append_right _ (x_way_in (x_may_ok ⟨x1, x2⟩ ⟨y1, y2⟩ hc))) ls rest H locs ⟨lv, ws, tys, h1, h2, h3.2.2, h4, h5, h6, h7, h8, x_setb_i (x_setb_i h9 h3.2.1 g1 g2) h3.1 g3 g4⟩
    · cases hf
  · cases hf
theorem xi_if1_ok {k : Nat} (hw : x_If1 cc own nL pc tg nx k) : x_Snd cl K cc own nL nm MC MS pc (xi_if1 k tg nx) := by
  intro V sc p l e R s m args below meth c D A H0 Q C hA hK t ts hpc hf hg
  unfold xi_if1 at hf
  split at hf
  · rename_i x r hst
    split at hf
    · rename_i a ha
      cases hf
      subst hpc
      intro ls stk H locs ⟨lv, ws, tys, h1, h2, h3, h4, h5, h6, h7, h8, h9⟩
      rw [hst] at h3
      match stk, h3 with
      | v2 :: rest, h3 =>
        obtain ⟨nx', rfl, x1, x2⟩ := x_bi_ok h9 ha h3.1
        refine hw C.1 (fun hc => ?_) (fun hc => ?_)
        · obtain ⟨⟨g1, g2⟩, g3, g4⟩ := x_nar_ok (b := (0, 0)) ⟨x1, x2⟩ ⟨Int.le_refl 0, Int.le_refl 0⟩ hc
          exact hg _ (List.mem_append_left _ (x_way_in (x_may_ok ⟨x1, x2⟩ ⟨Int.le_refl 0, Int.le_refl 0⟩ hc))) ls rest H locs ⟨lv, ws, tys, h1, h2, h3.2, h4, h5, h6, h7, h8, x_setb_i h9 h3.1 g1 g2⟩
        · have hc := x_neg_ok hc
          obtain ⟨⟨g1, g2⟩, g3, g4⟩ := x_nar_ok (b := (0, 0)) ⟨x1, x2⟩ ⟨Int.le_refl 0, Int.le_refl 0⟩ hc
          exact hg _ (List.mem_append_right _ (x_way_in (x_may_ok ⟨x1, x2⟩ ⟨Int.le_refl 0, Int.le_refl 0⟩ hc))) ls rest H locs ⟨lv, ws, tys, h1, h2, h3.2, h4, h5, h6, h7, h8, x_setb_i h9 h3.1 g1 g2⟩
    · cases hf
  · cases hf
theorem x_lg_cmp (x y : Int64) : (x.toInt < y.toInt → lg_cmp x y = -1) ∧ (x.toInt = y.toInt → lg_cmp x y = 0) ∧ (y.toInt < x.toInt → lg_cmp x y = 1) := by
  unfold lg_cmp
  refine ⟨fun h => ?_, fun h => ?_, fun h => ?_⟩
  · have h2 : ¬ y.toInt < x.toInt := by omega
    have h4 : ¬ x = y := fun e => by rw [e] at h; omega
    rw [if_neg (fun q => h2 (Int64.lt_iff_toInt_lt.mp q)), if_neg h4]
  · have e : x = y := Int64.toInt_inj.mp h
    subst e
    rw [if_neg (fun q => by have := Int64.lt_iff_toInt_lt.mp q; omega), if_pos rfl]
  · rw [if_pos (Int64.lt_iff_toInt_lt.mpr h)]
theorem xi_lcmp_ok (hw : ∀ x y : Int64, x_Stk cc own nL pc nx [.long y, .long x] [.int (lg_cmp x y)]) : x_Snd cl K cc own nL nm MC MS pc (xi_lcmp nx) := by
  intro V sc p l e R s m args below meth c D A H0 Q C hA hK t ts hpc hf hg
  unfold xi_lcmp at hf
  split at hf
  · rename_i y x r hst
    split at hf
    · rename_i a b ha hb
      cases hf
      subst hpc
      intro ls stk H locs ⟨lv, ws, tys, h1, h2, h3, h4, h5, h6, h7, h8, h9⟩
      rw [hst] at h3
      match stk, h3 with
      | v1 :: v2 :: rest, h3 =>
        obtain ⟨ny, rfl, y1, y2⟩ := x_bl_ok h9 hb h3.1
        obtain ⟨nx', rfl, x1, x2⟩ := x_bl_ok h9 ha h3.2.1
        obtain ⟨c1, c2, c3⟩ := x_lg_cmp nx' ny
        refine hw nx' ny C.1 ?_
        rcases Int.lt_trichotomy nx'.toInt ny.toInt with hc | hc | hc
        · have hc' : x_cnd 2 nx'.toInt ny.toInt := hc
          obtain ⟨⟨g1, g2⟩, g3, g4⟩ := x_nar_ok ⟨x1, x2⟩ ⟨y1, y2⟩ hc'
          rw [c1 hc]
          exact hg _ (List.mem_append_left _ (x_way_in (x_may_ok ⟨x1, x2⟩ ⟨y1, y2⟩ hc'))) ls (.int (-1) :: rest) H locs ⟨lv, ws, tys, h1, h2, ⟨⟨-1, rfl, by decide, by decide⟩, h3.2.2⟩, h4, h5, h6, h7, h8, x_setb_l (x_setb_l h9 h3.2.1 g1 g2) h3.1 g3 g4⟩
        · have hc' : x_cnd 0 nx'.toInt ny.toInt := hc
          obtain ⟨⟨g1, g2⟩, g3, g4⟩ := x_nar_ok ⟨x1, x2⟩ ⟨y1, y2⟩ hc'
          rw [c2 hc]
          exact hg _ (List.mem_append_right _ (List.mem_append_left _ (x_way_in (x_may_ok ⟨x1, x2⟩ ⟨y1, y2⟩ hc')))) ls (.int 0 :: rest) H locs ⟨lv, ws, tys, h1, h2, ⟨⟨0, rfl, by decide, by decide⟩, h3.2.2⟩, h4, h5, h6, h7, h8, x_setb_l (x_setb_l h9 h3.2.1 g1 g2) h3.1 g3 g4⟩
        · have hc' : x_cnd 4 nx'.toInt ny.toInt := hc
          obtain ⟨⟨g1, g2⟩, g3, g4⟩ := x_nar_ok ⟨x1, x2⟩ ⟨y1, y2⟩ hc'
          rw [c3 hc]
          exact hg _ (List.mem_append_right _ (List.mem_append_right _ (x_way_in (x_may_ok ⟨x1, x2⟩ ⟨y1, y2⟩ hc')))) ls (.int 1 :: rest) H locs ⟨lv, ws, tys, h1, h2, ⟨⟨1, rfl, by decide, by decide⟩, h3.2.2⟩, h4, h5, h6, h7, h8, x_setb_l (x_setb_l h9 h3.2.1 g1 g2) h3.1 g3 g4⟩
    · cases hf
  · cases hf
end X5
end
section
/-! cells: fields, arrays, new ones -/
theorem x_rel_app {ad ad' : List Nat} {V : List Int} {sc : Nat × Nat × List Nat} {x : xV} {v : Value} (h : x_rel ad V sc x v) : x_rel (ad ++ ad') V sc x v := by
  obtain ⟨t, a, b⟩ := x
  unfold x_rel at h ⊢
  split at h <;> try exact h
  obtain ⟨q, h1, h2⟩ := h
  exact ⟨q, by rw [List.getElem?_append_left (List.getElem?_eq_some_iff.mp h1).1]; exact h1, h2⟩
theorem x_cell_mono {cl : List vw_C} {ad ad' : List Nat} {V : List Int} {sc : Nat × Nat × List Nat} {tys tys' : List (ClassId × FieldType)} {x : xC} {e : va_E} (h : x_cell cl ad V sc tys x e) : x_cell cl (ad ++ ad') V sc (tys ++ tys') x e := by
  have ht : ∀ {t0 : Nat} {q : ClassId × FieldType}, tys[t0]? = some q → (tys ++ tys')[t0]? = some q := fun h => by rw [List.getElem?_append_left (List.getElem?_eq_some_iff.mp h).1]; exact h
  obtain ⟨t, n, ln, d, o⟩ := x
  unfold x_cell at h ⊢
  split at h
  · obtain ⟨fs, h1, h2, h3⟩ := h
    exact ⟨fs, h1, h2, fun k hk => by obtain ⟨v, g1, g2⟩ := h3 k hk; exact ⟨v, g1, x_rel_app g2⟩⟩
  · obtain ⟨t0, cA, f, h1, h2, h3, h4⟩ := h
    exact ⟨t0, cA, f, ht h1, h2, h3, fun k hk => x_rel_app (h4 k hk)⟩
  · obtain ⟨t0, cA, f, h1, h2, h3, h4⟩ := h
    exact ⟨t0, cA, f, ht h1, h2, h3, fun k hk => x_rel_app (h4 k hk)⟩
  · obtain ⟨t0, cA, f, h1, h2, h3, h4⟩ := h
    exact ⟨t0, cA, f, ht h1, h2, h3, fun k hk => x_rel_app (h4 k hk)⟩
  · obtain ⟨t0, cA, r, f, h0, h1, h2, h3, h4⟩ := h
    exact ⟨t0, cA, r, f, h0, ht h1, h2, h3, fun k hk => x_rel_app (h4 k hk)⟩
  · obtain ⟨t0, cA, f, h1, h2, h3, h4⟩ := h
    exact ⟨t0, cA, f, ht h1, h2, h3, fun k hk => x_rel_app (h4 k hk)⟩
  · exact h.elim
theorem x_fst_set {ws : va_W} {k a : Nat} {e0 e : va_E} (h : ws[k]? = some (a, e0)) : (ws.set k (a, e)).map Prod.fst = ws.map Prod.fst := by
  rw [List.map_set]
  apply List.ext_getElem?
  intro i
  rw [List.getElem?_set]
  split
  · rename_i hi
    subst hi
    have hl := (List.getElem?_eq_some_iff.mp h).1
    rw [List.length_map, if_pos hl, List.getElem?_map, h]
    rfl
  · rfl
theorem x_world_set {cl : List vw_C} {V : List Int} {sc : Nat × Nat × List Nat} {tys : List (ClassId × FieldType)} {w : List xC} {ws : va_W} {k a : Nat} {e0 e : va_E} {x : xC} (h : x_world cl V sc tys w ws) (hk : ws[k]? = some (a, e0)) (hx : x_cell cl (ws.map Prod.fst) V sc tys x e) : x_world cl V sc tys (w.set k x) (ws.set k (a, e)) := by
  refine ⟨by rw [List.length_set, List.length_set]; exact h.1, by rw [x_fst_set hk]; exact h.2.1, fun j y q hy hq => ?_⟩
  rw [x_fst_set hk]
  rw [List.getElem?_set] at hy hq
  split at hy
  · rename_i hj
    subst hj
    rw [if_pos rfl] at hq
    split at hy
    · split at hq
      · cases hy; cases hq; exact hx
      · cases hq
    · cases hy
  · rename_i hj
    rw [if_neg hj] at hq
    exact h.2.2 j y q hy hq
theorem x_world_app {cl : List vw_C} {V : List Int} {sc : Nat × Nat × List Nat} {tys tys' : List (ClassId × FieldType)} {w w' : List xC} {ws ws' : va_W} (h : x_world cl V sc tys w ws) (hl : w'.length = ws'.length) (hx : ∀ (k : Nat) (x : xC) (q : Nat × va_E), w'[k]? = some x → ws'[k]? = some q → x_cell cl ((ws ++ ws').map Prod.fst) V sc (tys ++ tys') x q.2) : x_world cl V sc (tys ++ tys') (w ++ w') (ws ++ ws') := by
  refine ⟨by rw [List.length_append, List.length_append, h.1, hl], by obtain ⟨l, e⟩ := h.2.1; exact ⟨l ++ ws'.map Prod.fst, by rw [List.map_append, e, List.append_assoc]⟩, fun j y q hy hq => ?_⟩
  by_cases hj : j < w.length
  · rw [List.getElem?_append_left hj] at hy
    rw [List.getElem?_append_left (by rw [← h.1]; exact hj)] at hq
    rw [List.map_append]
    exact x_cell_mono (h.2.2 j y q hy hq)
  · rw [List.getElem?_append_right (by omega)] at hy
    rw [List.getElem?_append_right (by rw [← h.1]; omega)] at hq
    rw [← h.1] at hq
    exact hx _ y q hy hq
theorem x_stk_app {ad ad' : List Nat} {V : List Int} {sc : Nat × Nat × List Nat} {st : List xV} {stk : List Value} (h : x_all2 (x_rel ad V sc) st stk) : x_all2 (x_rel (ad ++ ad') V sc) st stk := x_all2_imp (fun _ _ h => x_rel_app h) h
theorem x_lv_app {ad ad' : List Nat} {V : List Int} {sc : Nat × Nat × List Nat} {al : xL} {lv : List (Nat × Value)} (h : x_all2 (fun a q => a.1 = q.1 ∧ x_rel ad V sc a.2 q.2) al lv) : x_all2 (fun a q => a.1 = q.1 ∧ x_rel (ad ++ ad') V sc a.2 q.2) al lv := x_all2_imp (fun _ _ h => ⟨h.1, x_rel_app h.2⟩) h
/-- a reference leads to a cell of the world -/
theorem x_ref {cl : List vw_C} {V : List Int} {sc : Nat × Nat × List Nat} {tys : List (ClassId × FieldType)} {w : List xC} {ws : va_W} {j b : Int} {v : Value} {x : xC} (h : x_world cl V sc tys w ws) (hr : x_rel (ws.map Prod.fst) V sc (1, j, b) v) (hx : w[j.toNat]? = some x) : ∃ a e, ws[j.toNat]? = some (a, e) ∧ v = .ref a ∧ x_cell cl (ws.map Prod.fst) V sc tys x e := by
  obtain ⟨a, h1, h2⟩ := hr
  simp only [List.getElem?_map, Option.map_eq_some_iff] at h1
  obtain ⟨q, hq, rfl⟩ := h1
  exact ⟨q.1, q.2, hq, h2, h.2.2 _ x q hx hq⟩
-- what a row of the kit gives
section XW6
variable (cl : List vw_C) (cc : ByteArray) (own : String) (nL : Nat) (nm : String) (MC MS pc nx : Nat)
def x_Gf (ci k : Nat) : Prop := ∀ {p : Program} {l : Launch} {e : Env} {R : Room} {s : State} {m : MethodId} {args : Array Value} {below : List Frame} {meth : Method} {c : Code}, x_Cx cc own nL nm MC MS p R s m args meth c → ∀ {H : Heap} {locs : List Loc} {cells slots : Nat} {Q : State → Prop} {ls : Array Slot} {rest : List Value} {D : va_G} {tys : List (ClassId × FieldType)} {ws : va_W} {a q0 : Nat} {fs : List Value} {v : Value},
  va_K D cl tys s → va_P D cl ws H → ws[q0]? = some (a, .inr (ci, fs)) → fs[k]? = some v → W p l e R s m args below meth c H locs cells slots Q (F0 m nx ls (v :: rest)) → W p l e R s m args below meth c H locs cells slots Q (F0 m pc ls (.ref a :: rest))
/-- what may stand in a field: 0 an int, 1 a boolean, 2 a reference -/
def x_pk (fk : Nat) (v : Value) : Prop := match fk with
  | 0 => ∃ n, v = .int n
  | 1 => v = .int 0 ∨ v = .int 1
  | _ => v = .null ∨ ∃ a, v = .ref a
def x_Pf (ci k fk : Nat) : Prop := ∀ {p : Program} {l : Launch} {e : Env} {R : Room} {s : State} {m : MethodId} {args : Array Value} {below : List Frame} {meth : Method} {c : Code}, x_Cx cc own nL nm MC MS p R s m args meth c → ∀ {H H0 : Heap} {locs : List Loc} {cells slots : Nat} {Q : State → Prop} {ls : Array Slot} {rest : List Value} {D : va_G} {A : Nat → Prop} {tys : List (ClassId × FieldType)} {ws : va_W} {a q0 : Nat} {fs : List Value} {v : Value},
  va_K D cl tys s → va_P D cl ws H → va_D A ws → va_S A H0 H locs → ws[q0]? = some (a, .inr (ci, fs)) → k < fs.length → x_pk fk v → (∀ (H1 : Heap) (locs1 : List Loc), va_P D cl (ws.set q0 (a, .inr (ci, fs.set k v))) H1 → va_D A (ws.set q0 (a, .inr (ci, fs.set k v))) → va_S A H0 H1 locs1 → W p l e R s m args below meth c H1 locs1 cells slots Q (F0 m nx ls rest)) → W p l e R s m args below meth c H locs cells slots Q (F0 m pc ls (v :: .ref a :: rest))
def x_Nw (ci N : Nat) (fs : List Value) : Prop := ∀ {p : Program} {l : Launch} {e : Env} {R : Room} {s : State} {m : MethodId} {args : Array Value} {below : List Frame} {meth : Method} {c : Code}, x_Cx cc own nL nm MC MS p R s m args meth c → ∀ {H H0 : Heap} {locs : List Loc} {cells slots : Nat} {Q : State → Prop} {ls : Array Slot} {rest : List Value} {D : va_G} {A : Nat → Prop} {tys : List (ClassId × FieldType)} {ws : va_W}, (∀ q : Nat, H0.size ≤ q → A q) →
  va_K D cl tys s → va_P D cl ws H → va_D A ws → va_S A H0 H locs → cells + 1 ≤ MC → slots + N ≤ MS → (∀ (q : Nat) (H1 : Heap), va_P D cl (ws ++ [(q, .inr (ci, fs))]) H1 → va_D A (ws ++ [(q, .inr (ci, fs))]) → va_S A H0 H1 locs → W p l e R s m args below meth c H1 locs (cells + 1) (slots + N) Q (F0 m nx ls (.ref q :: rest))) → W p l e R s m args below meth c H locs cells slots Q (F0 m pc ls rest)
end XW6
def xi_getf (ci k nx : Nat) : xS → Option (List xS) := fun t => match t.2.2.1 with
  | (1, j, _) :: r => match t.2.2.2.1[j.toNat]? with
    | some (0, c, n, d, o) => bif Nat.beq c ci && Nat.ble (k + 1) n then some [(nx, t.2.1, x_get d o k :: r, t.2.2.2)] else none
    | _ => none
  | _ => none
def x_pkb (tk : xT) (fk : Nat) (x : xV) : Bool := match fk with
  | 0 => Nat.beq (x_ty x) 0
  | 1 => match x_bi tk x with
    | some a => decide (0 ≤ a.1) && decide (a.2 ≤ 1)
    | none => false
  | _ => Nat.beq (x_ty x) 2
theorem x_pkb_ok {ad : List Nat} {V : List Int} {sc : Nat × Nat × List Nat} {tk : xT} {fk : Nat} {x : xV} {v : Value} (ht : x_tk tk V) (hr : x_rel ad V sc x v) (h : x_pkb tk fk x = true) : x_pk fk v := by
  unfold x_pkb at h
  unfold x_pk
  split at h
  · have := x_ty_ok hr
    rw [Nat.eq_of_beq_eq_true h] at this
    exact this
  · split at h
    · rename_i a ha
      obtain ⟨n, rfl, h1, h2⟩ := x_bi_ok ht ha hr
      simp only [Bool.and_eq_true, decide_eq_true_eq] at h
      have h3 : n.toInt = 0 ∨ n.toInt = 1 := by omega
      rcases h3 with h3 | h3
      · exact Or.inl (by rw [show n = 0 from Int32.toInt_inj.mp h3])
      · exact Or.inr (by rw [show n = 1 from Int32.toInt_inj.mp h3])
    · cases h
  · have := x_ty_ok hr
    rw [Nat.eq_of_beq_eq_true h] at this
    exact this
def xi_putf (ci k fk nx : Nat) : xS → Option (List xS) := fun t => match t.2.2.1 with
  | x :: (1, j, _) :: r => match t.2.2.2.1[j.toNat]? with
    | some (0, c, n, d, o) => bif Nat.beq c ci && (Nat.ble (k + 1) n && x_pkb t.2.2.2.2.1 fk x) then some [(nx, t.2.1, r, t.2.2.2.1.set j.toNat (0, c, n, d, x_put d o k x), t.2.2.2.2)] else none
    | _ => none
  | _ => none
def xi_new (nc : xC) (MC MS nx : Nat) : xS → Option (List xS) := fun t =>
  bif Nat.ble (t.2.2.2.2.2.1 + 1) MC && Nat.ble (t.2.2.2.2.2.2 + nc.2.2.1) MS then some [(nx, t.2.1, (1, t.2.2.2.1.length, 0) :: t.2.2.1, t.2.2.2.1 ++ [nc], t.2.2.2.2.1, t.2.2.2.2.2.1 + 1, t.2.2.2.2.2.2 + nc.2.2.1)] else none
section X6
variable {cl : List vw_C} {K : xKx} {cc : ByteArray} {own : String} {nL : Nat} {nm : String} {MC MS pc nx : Nat}
theorem xi_getf_ok {ci k : Nat} (hw : x_Gf cl cc own nL nm MC MS pc nx ci k) : x_Snd cl K cc own nL nm MC MS pc (xi_getf ci k nx) := by
  intro V sc p l e R s m args below meth c D A H0 Q C hA hK t ts hpc hf hg
  unfold xi_getf at hf
  split at hf
  · rename_i j b r hst
    split at hf
    · rename_i c' n d o hcell
      cases hb : (Nat.beq c' ci && Nat.ble (k + 1) n) with
      | false => rw [hb] at hf; cases hf
      | true =>
        rw [hb] at hf
        cases hf
        subst hpc
        simp only [Bool.and_eq_true] at hb
        have e1 := Nat.eq_of_beq_eq_true hb.1
        have e2 := Nat.le_of_ble_eq_true hb.2
        subst e1
        intro ls stk H locs ⟨lv, ws, tys, h1, h2, h3, h4, h5, h6, h7, h8, h9⟩
        rw [hst] at h3
        match stk, h3 with
        | v1 :: rest, h3 =>
          obtain ⟨a, ee, hq, rfl, hc⟩ := x_ref h4 h3.1 hcell
          obtain ⟨fs, rfl, hl, hv⟩ := hc
          obtain ⟨v, hv1, hv2⟩ := hv k e2
          exact hw C h5 h6 hq hv1 (hg _ List.mem_cons_self ls (v :: rest) H locs ⟨lv, ws, tys, h1, h2, ⟨hv2, h3.2⟩, h4, h5, h6, h7, h8, h9⟩)
    · cases hf
  · cases hf
theorem xi_putf_ok {ci k fk : Nat} (hw : x_Pf cl cc own nL nm MC MS pc nx ci k fk) : x_Snd cl K cc own nL nm MC MS pc (xi_putf ci k fk nx) := by
  intro V sc p l e R s m args below meth c D A H0 Q C hA hK t ts hpc hf hg
  unfold xi_putf at hf
  split at hf
  · rename_i x j b r hst
    split at hf
    · rename_i c' n d o hcell
      cases hb : (Nat.beq c' ci && (Nat.ble (k + 1) n && x_pkb t.2.2.2.2.1 fk x)) with
      | false => rw [hb] at hf; cases hf
      | true =>
        rw [hb] at hf
        cases hf
        subst hpc
        simp only [Bool.and_eq_true] at hb
        have e1 := Nat.eq_of_beq_eq_true hb.1
        have e2 := Nat.le_of_ble_eq_true hb.2.1
        subst e1
        intro ls stk H locs ⟨lv, ws, tys, h1, h2, h3, h4, h5, h6, h7, h8, h9⟩
        rw [hst] at h3
        match stk, h3 with
        | v0 :: v1 :: rest, h3 =>
          obtain ⟨a, ee, hq, rfl, hc⟩ := x_ref h4 h3.2.1 hcell
          obtain ⟨fs, rfl, hl, hv⟩ := hc
          simp only at hl hv hq
          refine hw C h5 h6 h7 h8 hq (by rw [hl]; exact e2) (x_pkb_ok h9 h3.1 hb.2.2) (fun H1 locs1 hP hD hS => hg _ List.mem_cons_self ls rest H1 locs1 ⟨lv, _, tys, h1, ?_, ?_, x_world_set h4 hq ?_, h5, hP, hD, hS, h9⟩)
          · rw [x_fst_set hq]; exact h2
          · rw [x_fst_set hq]; exact h3.2.2
          · refine ⟨fs.set k v0, rfl, by rw [List.length_set]; exact hl, fun i hi => ?_⟩
            simp only at hi
            simp only [x_get_put]
            by_cases hik : i = k
            · subst hik
              exact ⟨v0, by rw [List.getElem?_set_self (by rw [hl]; exact hi)], by rw [if_pos rfl]; exact h3.1⟩
            · obtain ⟨v, g1, g2⟩ := hv i hi
              exact ⟨v, by rw [List.getElem?_set_ne (Ne.symm hik)]; exact g1, by rw [if_neg hik]; exact g2⟩
    · cases hf
  · cases hf
theorem xi_new_ok {nc : xC} {ci N : Nat} {fs : List Value} (hn : nc.2.2.1 = N) (hc : ∀ ad V sc tys, x_cell cl ad V sc tys nc (.inr (ci, fs))) (hw : x_Nw cl cc own nL nm MC MS pc nx ci N fs) : x_Snd cl K cc own nL nm MC MS pc (xi_new nc MC MS nx) := by
  intro V sc p l e R s m args below meth c D A H0 Q C hA hK t ts hpc hf hg
  unfold xi_new at hf
  cases hb : (Nat.ble (t.2.2.2.2.2.1 + 1) MC && Nat.ble (t.2.2.2.2.2.2 + nc.2.2.1) MS) with
  | false => rw [hb] at hf; cases hf
  | true =>
    rw [hb] at hf
    cases hf
    subst hpc
    subst hn
    simp only [Bool.and_eq_true] at hb
    intro ls stk H locs ⟨lv, ws, tys, h1, h2, h3, h4, h5, h6, h7, h8, h9⟩
    refine hw C hA h5 h6 h7 h8 (Nat.le_of_ble_eq_true hb.1) (Nat.le_of_ble_eq_true hb.2) (fun q H1 hP hD hS => hg _ List.mem_cons_self ls (.ref q :: stk) H1 locs ⟨lv, _, tys, h1, ?_, ⟨?_, ?_⟩, ?_, h5, hP, hD, hS, h9⟩)
    · rw [List.map_append]; exact x_lv_app h2
    · refine ⟨q, ?_, rfl⟩
      simp only [Int.toNat_natCast]
      rw [h4.1]
      simp
    · rw [List.map_append]; exact x_stk_app h3
    · have h := x_world_app (tys' := []) (w' := [nc]) (ws' := [(q, .inr (ci, fs))]) h4 rfl (fun k x y hx hy => by
        have hk : k < 1 := (List.getElem?_eq_some_iff.mp hx).1
        rw [show k = 0 by omega] at hx hy
        cases hx
        cases hy
        exact hc _ _ _ _)
      rw [List.append_nil] at h
      exact h
end X6
end
section
/-! arrays -/
def x_join (x y : xV) : Option xV := match x.1, y.1 with
  | 0, 0 => some (0, x_min x.2.1 y.2.1, x_max x.2.2 y.2.2)
  | _, _ => none
theorem x_min_l {a b x : Int} (h : a ≤ x) : x_min a b ≤ x := by
  unfold x_min
  cases hc : decide (a ≤ b) with
  | true => exact h
  | false => simp only [decide_eq_false_iff_not] at hc; show b ≤ x; omega
theorem x_min_r {a b x : Int} (h : b ≤ x) : x_min a b ≤ x := by
  unfold x_min
  cases hc : decide (a ≤ b) with
  | true => simp only [decide_eq_true_eq] at hc; show a ≤ x; omega
  | false => exact h
theorem x_max_l {a b x : Int} (h : x ≤ a) : x ≤ x_max a b := by
  unfold x_max
  cases hc : decide (a ≤ b) with
  | true => simp only [decide_eq_true_eq] at hc; show x ≤ b; omega
  | false => exact h
theorem x_max_r {a b x : Int} (h : x ≤ b) : x ≤ x_max a b := by
  unfold x_max
  cases hc : decide (a ≤ b) with
  | true => exact h
  | false => simp only [decide_eq_false_iff_not] at hc; show x ≤ a; omega
theorem x_join_l {ad : List Nat} {V : List Int} {sc : Nat × Nat × List Nat} {x y z : xV} {v : Value} (h : x_join x y = some z) (hr : x_rel ad V sc x v) : x_rel ad V sc z v := by
  obtain ⟨t, a, b⟩ := x
  obtain ⟨t', a', b'⟩ := y
  unfold x_join at h
  split at h
  · rename_i h1 h2
    simp only at h1 h2
    subst h1
    cases h
    obtain ⟨n, rfl, h3, h4⟩ := hr
    exact ⟨n, rfl, x_min_l h3, x_max_l h4⟩
  · cases h
theorem x_join_r {ad : List Nat} {V : List Int} {sc : Nat × Nat × List Nat} {x y z : xV} {v : Value} (h : x_join x y = some z) (hr : x_rel ad V sc y v) : x_rel ad V sc z v := by
  obtain ⟨t, a, b⟩ := x
  obtain ⟨t', a', b'⟩ := y
  unfold x_join at h
  split at h
  · rename_i h1 h2
    simp only at h1 h2
    subst h2
    cases h
    obtain ⟨n, rfl, h3, h4⟩ := hr
    exact ⟨n, rfl, x_min_r h3, x_max_r h4⟩
  · cases h
/-- what stands at the places lo .. lo + n, together -/
def x_rgn (d : xV) (o : xA) (lo : Nat) : Nat → Option xV
  | 0 => some (x_get d o lo)
  | n + 1 => match x_rgn d o lo n with
    | some y => x_join y (x_get d o (lo + n + 1))
    | none => none
theorem x_rgn_ok {ad : List Nat} {V : List Int} {sc : Nat × Nat × List Nat} {d : xV} {o : xA} {lo : Nat} {v : Value} : ∀ {n : Nat} {z : xV}, x_rgn d o lo n = some z → ∀ k, lo ≤ k → k ≤ lo + n → x_rel ad V sc (x_get d o k) v → x_rel ad V sc z v
  | 0, z, h, k, h1, h2, hr => by
    cases h
    rw [show k = lo by omega] at hr
    exact hr
  | n + 1, z, h, k, h1, h2, hr => by
    unfold x_rgn at h
    split at h
    · rename_i y hy
      by_cases hk : k = lo + n + 1
      · subst hk
        exact x_join_r h hr
      · exact x_join_l h (x_rgn_ok hy k h1 (by omega) hr)
    · cases h
def x_hul : xV → xA → Option xV
  | z, [] => some z
  | z, q :: r => match x_join z q.2 with
    | some y => x_hul y r
    | none => none
theorem x_hul_l {ad : List Nat} {V : List Int} {sc : Nat × Nat × List Nat} {v : Value} : ∀ {o : xA} {z y : xV}, x_hul z o = some y → x_rel ad V sc z v → x_rel ad V sc y v
  | [], z, y, h, hr => by cases h; exact hr
  | q :: r, z, y, h, hr => by
    unfold x_hul at h
    split at h
    · rename_i y' hy
      exact x_hul_l h (x_join_l hy hr)
    · cases h
theorem x_hul_ok {ad : List Nat} {V : List Int} {sc : Nat × Nat × List Nat} {v : Value} {d : xV} : ∀ {o : xA} {z y : xV}, x_hul z o = some y → (∀ v, x_rel ad V sc d v → x_rel ad V sc z v) → ∀ k, x_rel ad V sc (x_get d o k) v → x_rel ad V sc y v
  | [], z, y, h, hz, k, hr => by cases h; exact hz v hr
  | q :: r, z, y, h, hz, k, hr => by
    unfold x_hul at h
    split at h
    · rename_i y' hy
      unfold x_get at hr
      cases hb : Nat.beq q.1 k with
      | true =>
        rw [hb] at hr
        exact x_hul_l h (x_join_r hy hr)
      | false =>
        rw [hb] at hr
        exact x_hul_ok h (fun v h => x_join_l hy (hz v h)) k hr
    · cases h
/-- the kinds of arrays that an instruction is for: false iaload, true baload -/
def x_akd (b : Bool) (kd : Nat) : Bool := match b with
  | false => Nat.beq kd 1
  | true => Nat.beq kd 2 || Nat.beq kd 3
def x_aty (kd : Nat) : FieldType := match kd with
  | 1 => .int
  | 2 => .byte
  | _ => .boolean
theorem x_arr {cl : List vw_C} {ad : List Nat} {V : List Int} {sc : Nat × Nat × List Nat} {tys : List (ClassId × FieldType)} {b : Bool} {kd c n : Nat} {d : xV} {o : xA} {e : va_E} (hk : x_akd b kd = true) (h : x_cell cl ad V sc tys (kd, c, n, d, o) e) :
    ∃ (t0 : Nat) (cA : ClassId) (f : Nat → Int32), tys[t0]? = some (cA, x_aty kd) ∧ e = .inl (cA, n, .inl f) ∧ n < 2147483648 ∧ ∀ k, k < n → x_rel ad V sc (x_get d o k) (.int (f k)) := by
  unfold x_akd at hk
  split at hk
  · have := Nat.eq_of_beq_eq_true hk
    subst this
    exact h
  · simp only [Bool.or_eq_true] at hk
    rcases hk with hk | hk
    · have := Nat.eq_of_beq_eq_true hk
      subst this
      exact h
    · have := Nat.eq_of_beq_eq_true hk
      subst this
      exact h
theorem x_cell_arr {cl : List vw_C} {ad : List Nat} {V : List Int} {sc : Nat × Nat × List Nat} {tys : List (ClassId × FieldType)} {b : Bool} {kd c n : Nat} {d : xV} {o : xA} {e : va_E} (hk : x_akd b kd = true)
    (h : ∃ (t0 : Nat) (cA : ClassId) (f : Nat → Int32), tys[t0]? = some (cA, x_aty kd) ∧ e = .inl (cA, n, .inl f) ∧ n < 2147483648 ∧ ∀ k, k < n → x_rel ad V sc (x_get d o k) (.int (f k))) : x_cell cl ad V sc tys (kd, c, n, d, o) e := by
  unfold x_akd at hk
  split at hk
  · have := Nat.eq_of_beq_eq_true hk
    subst this
    exact h
  · simp only [Bool.or_eq_true] at hk
    rcases hk with hk | hk
    · have := Nat.eq_of_beq_eq_true hk
      subst this
      exact h
    · have := Nat.eq_of_beq_eq_true hk
      subst this
      exact h
theorem x_ix {i : Int32} {n : Nat} {lo hi : Int} (h0 : 0 ≤ lo) (hn : hi < n) (h1 : lo ≤ i.toInt) (h2 : i.toInt ≤ hi) : vp_in i n ∧ i.toNatClampNeg < n ∧ lo.toNat ≤ i.toNatClampNeg ∧ i.toNatClampNeg ≤ lo.toNat + (hi - lo).toNat := by
  have e : i.toNatClampNeg = i.toInt.toNat := rfl
  refine ⟨vp_in_iff.mpr ⟨by omega, by omega⟩, ?_, ?_, ?_⟩ <;> rw [e] <;> omega
section XW7
variable (cl : List vw_C) (cc : ByteArray) (own : String) (nL : Nat) (nm : String) (MC MS pc nx : Nat)
def x_Al (ty : FieldType) : Prop := ∀ {p : Program} {l : Launch} {e : Env} {R : Room} {s : State} {m : MethodId} {args : Array Value} {below : List Frame} {meth : Method} {c : Code}, x_Cx cc own nL nm MC MS p R s m args meth c → ∀ {H : Heap} {locs : List Loc} {cells slots : Nat} {Q : State → Prop} {ls : Array Slot} {rest : List Value} {D : va_G} {tys : List (ClassId × FieldType)} {ws : va_W} {a q0 t0 n : Nat} {cA : ClassId} {f : Nat → Int32} {i : Int32},
  va_K D cl tys s → va_P D cl ws H → ws[q0]? = some (a, .inl (cA, n, .inl f)) → tys[t0]? = some (cA, ty) → vp_in i n → W p l e R s m args below meth c H locs cells slots Q (F0 m nx ls (.int (f i.toNatClampNeg) :: rest)) → W p l e R s m args below meth c H locs cells slots Q (F0 m pc ls (.int i :: .ref a :: rest))
def x_As (ty : FieldType) : Prop := ∀ {p : Program} {l : Launch} {e : Env} {R : Room} {s : State} {m : MethodId} {args : Array Value} {below : List Frame} {meth : Method} {c : Code}, x_Cx cc own nL nm MC MS p R s m args meth c → ∀ {H H0 : Heap} {locs : List Loc} {cells slots : Nat} {Q : State → Prop} {ls : Array Slot} {rest : List Value} {D : va_G} {A : Nat → Prop} {tys : List (ClassId × FieldType)} {ws : va_W} {a q0 t0 n : Nat} {cA : ClassId} {f : Nat → Int32} {i x : Int32},
  va_K D cl tys s → va_P D cl ws H → va_D A ws → va_S A H0 H locs → ws[q0]? = some (a, .inl (cA, n, .inl f)) → tys[t0]? = some (cA, ty) → vp_in i n → (∀ (H1 : Heap) (locs1 : List Loc), va_P D cl (ws.set q0 (a, .inl (cA, n, .inl (upd f i.toNatClampNeg (vp_nar ty x))))) H1 → va_D A (ws.set q0 (a, .inl (cA, n, .inl (upd f i.toNatClampNeg (vp_nar ty x))))) → va_S A H0 H1 locs1 → W p l e R s m args below meth c H1 locs1 cells slots Q (F0 m nx ls rest)) → W p l e R s m args below meth c H locs cells slots Q (F0 m pc ls (.int x :: .int i :: .ref a :: rest))
end XW7
def xi_ald (b : Bool) (nx : Nat) : xS → Option (List xS) := fun t => match t.2.2.1 with
  | i :: (1, j, _) :: r => match x_bi t.2.2.2.2.1 i, t.2.2.2.1[j.toNat]? with
    | some ib, some (kd, _, n, d, o) => bif x_akd b kd && (decide (0 ≤ ib.1) && decide (ib.2 < n)) then match x_rgn d o ib.1.toNat (ib.2 - ib.1).toNat with
      | some x => some [(nx, t.2.1, x :: r, t.2.2.2)]
      | none => none
      else none
    | _, _ => none
  | _ => none
/-- what of a value an array's cell keeps -/
def x_nrw (kd : Nat) (x : xV) (b : Int × Int) : xV × (Int × Int) := match kd with
  | 1 => (x, b)
  | 2 => bif decide (-128 ≤ b.1) && decide (b.2 ≤ 127) then (x, b) else ((0, -128, 127), (-128, 127))
  | _ => bif decide (0 ≤ b.1) && decide (b.2 ≤ 1) then (x, b) else ((0, 0, 1), (0, 1))
theorem x_nrw_ok {ad : List Nat} {V : List Int} {sc : Nat × Nat × List Nat} {kd : Nat} {x : xV} {b : Int × Int} {n : Int32} (hr : x_rel ad V sc x (.int n)) (h1 : b.1 ≤ n.toInt) (h2 : n.toInt ≤ b.2) : x_rel ad V sc (x_nrw kd x b).1 (.int (vp_nar (x_aty kd) n)) ∧ (x_nrw kd x b).2.1 ≤ (vp_nar (x_aty kd) n).toInt ∧ (vp_nar (x_aty kd) n).toInt ≤ (x_nrw kd x b).2.2 := by
  unfold x_nrw x_aty
  split
  · exact ⟨hr, h1, h2⟩
  · rw [vp_nar_byte]
    have e : (n.toInt8.toInt32).toInt = n.toInt.bmod 256 := by
      rw [Int8.toInt_toInt32, Int32.toInt_toInt8]
    cases hc : (decide (-128 ≤ b.1) && decide (b.2 ≤ 127)) with
    | true =>
      simp only [Bool.and_eq_true, decide_eq_true_eq] at hc
      have e2 : n.toInt8.toInt32 = n := Int32.toInt_inj.mp (by rw [e, Int.bmod_eq_of_le] <;> omega)
      rw [e2]
      exact ⟨hr, h1, h2⟩
    | false =>
      have h3 := Int.le_bmod (x := n.toInt) (m := 256) (by decide)
      have h4 := Int.bmod_lt (x := n.toInt) (m := 256) (by decide)
      rw [← e] at h3 h4
      exact ⟨⟨_, rfl, by show (-128 : Int) ≤ _; omega, by show _ ≤ (127 : Int); omega⟩, by show (-128 : Int) ≤ _; omega, by show _ ≤ (127 : Int); omega⟩
  · have e0 : vp_nar .boolean n = n &&& 1 := rfl
    rw [e0]
    obtain ⟨j, hj, ej⟩ := pk_andE n (m := 1) 1 (by decide)
    have e : (n &&& 1).toInt = j := by rw [ej]; exact nI_toInt (by omega)
    cases hc : (decide (0 ≤ b.1) && decide (b.2 ≤ 1)) with
    | true =>
      simp only [Bool.and_eq_true, decide_eq_true_eq] at hc
      have h3 : n.toInt = 0 ∨ n.toInt = 1 := by omega
      have e2 : n &&& 1 = n := by
        rcases h3 with h3 | h3
        · rw [show n = 0 from Int32.toInt_inj.mp h3]; decide
        · rw [show n = 1 from Int32.toInt_inj.mp h3]; decide
      rw [e2]
      exact ⟨hr, h1, h2⟩
    | false =>
      exact ⟨⟨_, rfl, by show (0 : Int) ≤ _; omega, by show _ ≤ (1 : Int); omega⟩, by show (0 : Int) ≤ _; omega, by show _ ≤ (1 : Int); omega⟩
def xi_ast (b : Bool) (nx : Nat) : xS → Option (List xS) := fun t => match t.2.2.1 with
  | x :: i :: (1, j, _) :: r => match x_bi t.2.2.2.2.1 i, x_bi t.2.2.2.2.1 x, t.2.2.2.1[j.toNat]? with
    | some ib, some xb, some (kd, c, n, d, o) => bif x_akd b kd && (decide (0 ≤ ib.1) && decide (ib.2 < n)) then
      bif decide (ib.1 = ib.2) then some [(nx, t.2.1, r, t.2.2.2.1.set j.toNat (kd, c, n, d, x_put d o ib.1.toNat (x_nrw kd x xb).1), t.2.2.2.2)]
      else match x_join d (0, (x_nrw kd x xb).2) with
        | some z => match x_hul z o with
          | some y => some [(nx, t.2.1, r, t.2.2.2.1.set j.toNat (kd, c, n, y, []), t.2.2.2.2)]
          | none => none
        | none => none
      else none
    | _, _, _ => none
  | _ => none
section X7
variable {cl : List vw_C} {K : xKx} {cc : ByteArray} {own : String} {nL : Nat} {nm : String} {MC MS pc nx : Nat}
theorem xi_ald_ok {b : Bool} (hw : ∀ kd, x_akd b kd = true → x_Al cl cc own nL nm MC MS pc nx (x_aty kd)) : x_Snd cl K cc own nL nm MC MS pc (xi_ald b nx) := by
  intro V sc p l e R s m args below meth c D A H0 Q C hA hK t ts hpc hf hg
  unfold xi_ald at hf
  split at hf
  · rename_i i j jb r hst
    split at hf
    · rename_i ib kd cN n d o hib hcell
      cases hb : (x_akd b kd && (decide (0 ≤ ib.1) && decide (ib.2 < n))) with
      | false => rw [hb] at hf; cases hf
      | true =>
        rw [hb] at hf
        simp only [cond_true] at hf
        split at hf
        · rename_i x hx
          cases hf
          subst hpc
          simp only [Bool.and_eq_true, decide_eq_true_eq] at hb
          intro ls stk H locs ⟨lv, ws, tys, h1, h2, h3, h4, h5, h6, h7, h8, h9⟩
          rw [hst] at h3
          match stk, h3 with
          | v1 :: v2 :: rest, h3 =>
            obtain ⟨ni, rfl, i1, i2⟩ := x_bi_ok h9 hib h3.1
            obtain ⟨a, ee, hq, rfl, hc⟩ := x_ref h4 h3.2.1 hcell
            obtain ⟨t0, cA, f, g1, rfl, g2, g3⟩ := x_arr hb.1 hc
            obtain ⟨k1, k2, k3, k4⟩ := x_ix hb.2.1 hb.2.2 i1 i2
            exact hw kd hb.1 C h5 h6 hq g1 k1 (hg _ List.mem_cons_self ls (.int (f ni.toNatClampNeg) :: rest) H locs ⟨lv, ws, tys, h1, h2, ⟨x_rgn_ok hx _ k3 k4 (g3 _ k2), h3.2.2⟩, h4, h5, h6, h7, h8, h9⟩)
        · cases hf
    · cases hf
  · cases hf
theorem xi_ast_ok {b : Bool} (hw : ∀ kd, x_akd b kd = true → x_As cl cc own nL nm MC MS pc nx (x_aty kd)) : x_Snd cl K cc own nL nm MC MS pc (xi_ast b nx) := by
  intro V sc p l e R s m args below meth c D A H0 Q C hA hK t ts hpc hf hg
  unfold xi_ast at hf
  split at hf
  · rename_i x i j jb r hst
    split at hf
    · rename_i ib xb kd cN n d o hib hxb hcell
      cases hb : (x_akd b kd && (decide (0 ≤ ib.1) && decide (ib.2 < n))) with
      | false => rw [hb] at hf; cases hf
      | true =>
        rw [hb] at hf
        simp only [cond_true] at hf
        subst hpc
        simp only [Bool.and_eq_true, decide_eq_true_eq] at hb
        intro ls stk H locs ⟨lv, ws, tys, h1, h2, h3, h4, h5, h6, h7, h8, h9⟩
        rw [hst] at h3
        match stk, h3 with
        | v0 :: v1 :: v2 :: rest, h3 =>
          obtain ⟨nx', rfl, x1, x2⟩ := x_bi_ok h9 hxb h3.1
          obtain ⟨ni, rfl, i1, i2⟩ := x_bi_ok h9 hib h3.2.1
          obtain ⟨a, ee, hq, rfl, hc⟩ := x_ref h4 h3.2.2.1 hcell
          obtain ⟨t0, cA, f, g1, rfl, g2, g3⟩ := x_arr hb.1 hc
          obtain ⟨k1, k2, k3, k4⟩ := x_ix hb.2.1 hb.2.2 i1 i2
          obtain ⟨n1, n2, n3⟩ := x_nrw_ok (kd := kd) h3.1 x1 x2
          cases hd : decide (ib.1 = ib.2) with
          | true =>
            rw [hd] at hf
            cases hf
            simp only [decide_eq_true_eq] at hd
            refine hw kd hb.1 C h5 h6 h7 h8 hq g1 k1 (fun H1 locs1 hP hD hS => hg _ List.mem_cons_self ls rest H1 locs1 ⟨lv, _, tys, h1, ?_, ?_, x_world_set h4 hq (x_cell_arr hb.1 ⟨t0, cA, _, g1, rfl, g2, fun k hk => ?_⟩), h5, hP, hD, hS, h9⟩)
            · rw [x_fst_set hq]; exact h2
            · rw [x_fst_set hq]; exact h3.2.2.2
            · rw [x_get_put]
              have ek : ni.toNatClampNeg = ib.1.toNat := by omega
              rw [ek]
              by_cases hik : k = ib.1.toNat
              · rw [if_pos hik]
                simp only [upd, hik, if_pos]
                exact n1
              · rw [if_neg hik]
                simp only [upd, if_neg hik]
                exact g3 k hk
          | false =>
            rw [hd] at hf
            simp only [cond_false] at hf
            split at hf
            · rename_i z hz
              split at hf
              · rename_i y hy
                cases hf
                refine hw kd hb.1 C h5 h6 h7 h8 hq g1 k1 (fun H1 locs1 hP hD hS => hg _ List.mem_cons_self ls rest H1 locs1 ⟨lv, _, tys, h1, ?_, ?_, x_world_set h4 hq (x_cell_arr hb.1 ⟨t0, cA, _, g1, rfl, g2, fun k hk => ?_⟩), h5, hP, hD, hS, h9⟩)
                · rw [x_fst_set hq]; exact h2
                · rw [x_fst_set hq]; exact h3.2.2.2
                · unfold x_get
                  by_cases hik : k = ni.toNatClampNeg
                  · simp only [upd, if_pos hik]
                    exact x_hul_l hy (x_join_r hz ⟨_, rfl, n2, n3⟩)
                  · simp only [upd, if_neg hik]
                    exact x_hul_ok hy (fun v h => x_join_l hz h) k (g3 k hk)
              · cases hf
            · cases hf
    · cases hf
  · cases hf
end X7
end
section
/-! arrays of references, lengths, new arrays, the stack, switches -/
section XW8
variable (cl : List vw_C) (cc : ByteArray) (own : String) (nL : Nat) (nm : String) (MC MS pc nx : Nat)
def x_Aq : Prop := ∀ {p : Program} {l : Launch} {e : Env} {R : Room} {s : State} {m : MethodId} {args : Array Value} {below : List Frame} {meth : Method} {c : Code}, x_Cx cc own nL nm MC MS p R s m args meth c → ∀ {H : Heap} {locs : List Loc} {cells slots : Nat} {Q : State → Prop} {ls : Array Slot} {rest : List Value} {D : va_G} {tys : List (ClassId × FieldType)} {ws : va_W} {a q0 t0 n : Nat} {cA : ClassId} {f : Nat → Option Nat} {i : Int32} {ty : FieldType}, ty.isReference = true →
  va_K D cl tys s → va_P D cl ws H → ws[q0]? = some (a, .inl (cA, n, .inr (.inr (.inr (.inr f))))) → tys[t0]? = some (cA, ty) → vp_in i n → W p l e R s m args below meth c H locs cells slots Q (F0 m nx ls (va_rf (f i.toNatClampNeg) :: rest)) → W p l e R s m args below meth c H locs cells slots Q (F0 m pc ls (.int i :: .ref a :: rest))
theorem x_aald {p : Program} {l : Launch} {e : Env} {R : Room} {s : State} {m : MethodId} {args : Array Value} {below : List Frame} {meth : Method} {c : Code} {H : Heap} {locs : List Loc} {cells slots : Nat} {Q : State → Prop} {ls : Array Slot} {rest : List Value} {D : va_G} {tys : List (ClassId × FieldType)} {ws : va_W} {a : Nat} {cl : List vw_C} {cc : ByteArray} {pc : Nat} (hexec : p.tables.exec = Jvm.exec) (hb : c.code = cc) (hK : va_K D cl tys s) (hP : va_P D cl ws H) (q0 t0 : Nat) {cA : ClassId} {ty : FieldType} (hty : ty.isReference = true) {n : Nat} {f : Nat → Option Nat} (ha : ws[q0]? = some (a, .inl (cA, n, .inr (.inr (.inr (.inr f)))))) (ht : tys[t0]? = some (cA, ty)) {i : Int32} (hin : vp_in i n) (hdg : decode cc pc = .ok (.aaload, 1))
    (kk : W p l e R s m args below meth c H locs cells slots Q (F0 m (pc + 1) ls (va_rf (f i.toNatClampNeg) :: rest))) : W p l e R s m args below meth c H locs cells slots Q (F0 m pc ls (.int i :: .ref a :: rest)) := by
  have hlt : i.toNatClampNeg < n := Nat.not_le.mp fun q => hin (Or.inr q)
  exact W.aald (v := va_rf (f i.toNatClampNeg)) (ty := ty) hexec hb (hP q0 _ ha) ((hK.2 t0 _ ht).1 n (fun j => va_rf (f j))) hty (fun q => by cases q) (by show ¬ (i < 0 ∨ (arrV _ _ _).slots.size ≤ _); rw [arrV_size]; exact hin) (by show (arrV _ _ _).slots[_]? = _; rw [arrV_read _ _ hlt]) rfl rfl hdg kk
def x_Aa : Prop := ∀ {p : Program} {l : Launch} {e : Env} {R : Room} {s : State} {m : MethodId} {args : Array Value} {below : List Frame} {meth : Method} {c : Code}, x_Cx cc own nL nm MC MS p R s m args meth c → ∀ {H H0 : Heap} {locs : List Loc} {cells slots : Nat} {Q : State → Prop} {ls : Array Slot} {rest : List Value} {D : va_G} {A : Nat → Prop} {tys : List (ClassId × FieldType)} {ws : va_W} {a q0 t0 qk ci n v : Nat} {vs : List Value} {cA : ClassId} {r : vw_C} {f : Nat → Option Nat} {i : Int32},
  va_K D cl tys s → va_P D cl ws H → va_D A ws → va_S A H0 H locs → ws[q0]? = some (a, .inl (cA, n, .inr (.inr (.inr (.inr f))))) → tys[t0]? = some (cA, .object r.1) → ws[qk]? = some (v, .inr (ci, vs)) → cl[ci]? = some r → vp_in i n → (∀ (H1 : Heap) (locs1 : List Loc), va_P D cl (ws.set q0 (a, .inl (cA, n, .inr (.inr (.inr (.inr (va_up f i.toNatClampNeg (some v)))))))) H1 → va_D A (ws.set q0 (a, .inl (cA, n, .inr (.inr (.inr (.inr (va_up f i.toNatClampNeg (some v)))))))) → va_S A H0 H1 locs1 → W p l e R s m args below meth c H1 locs1 cells slots Q (F0 m nx ls rest)) → W p l e R s m args below meth c H locs cells slots Q (F0 m pc ls (.ref v :: .int i :: .ref a :: rest))
def x_Ln : Prop := ∀ {p : Program} {l : Launch} {e : Env} {R : Room} {s : State} {m : MethodId} {args : Array Value} {below : List Frame} {meth : Method} {c : Code}, x_Cx cc own nL nm MC MS p R s m args meth c → ∀ {H : Heap} {locs : List Loc} {cells slots : Nat} {Q : State → Prop} {ls : Array Slot} {rest : List Value} {D : va_G} {tys : List (ClassId × FieldType)} {ws : va_W} {a q0 t0 : Nat} {cA : ClassId} {x : vp_A} {ty : FieldType},
  va_K D cl tys s → va_P D cl ws H → ws[q0]? = some (a, .inl (cA, x)) → tys[t0]? = some (cA, ty) → W p l e R s m args below meth c H locs cells slots Q (F0 m nx ls (.int (Int32.ofNat x.1) :: rest)) → W p l e R s m args below meth c H locs cells slots Q (F0 m pc ls (.ref a :: rest))
/-- a new array of numbers -/
def x_Na (ty : FieldType) : Prop := ∀ {p : Program} {l : Launch} {e : Env} {R : Room} {s : State} {m : MethodId} {args : Array Value} {below : List Frame} {meth : Method} {c : Code}, x_Cx cc own nL nm MC MS p R s m args meth c → ∀ {H H0 : Heap} {locs : List Loc} {cells slots : Nat} {Q : State → Prop} {ls : Array Slot} {rest : List Value} {D : va_G} {A : Nat → Prop} {tys : List (ClassId × FieldType)} {ws : va_W} {n : Int32} {N : Nat}, (∀ q : Nat, H0.size ≤ q → A q) →
  va_K D cl tys s → va_P D cl ws H → va_D A ws → va_S A H0 H locs → ¬ n < 0 → n.toNatClampNeg = N → N ≤ 67108864 → cells + 1 ≤ MC → slots + N ≤ MS → (∀ (q : Nat) (cA : ClassId) (H1 : Heap), va_K D cl (tys ++ [(cA, ty)]) s → va_P D cl (ws ++ [(q, .inl (cA, N, .inl (fun _ => 0)))]) H1 → va_D A (ws ++ [(q, .inl (cA, N, .inl (fun _ => 0)))]) → va_S A H0 H1 locs → W p l e R s m args below meth c H1 locs (cells + 1) (slots + N) Q (F0 m nx ls (.ref q :: rest))) → W p l e R s m args below meth c H locs cells slots Q (F0 m pc ls (.int n :: rest))
/-- a new array of references -/
def x_Nq (C : String) : Prop := ∀ {p : Program} {l : Launch} {e : Env} {R : Room} {s : State} {m : MethodId} {args : Array Value} {below : List Frame} {meth : Method} {c : Code}, x_Cx cc own nL nm MC MS p R s m args meth c → ∀ {H H0 : Heap} {locs : List Loc} {cells slots : Nat} {Q : State → Prop} {ls : Array Slot} {rest : List Value} {D : va_G} {A : Nat → Prop} {tys : List (ClassId × FieldType)} {ws : va_W} {n : Int32} {N : Nat}, (∀ q : Nat, H0.size ≤ q → A q) →
  va_K D cl tys s → va_P D cl ws H → va_D A ws → va_S A H0 H locs → ¬ n < 0 → n.toNatClampNeg = N → N ≤ 67108864 → cells + 1 ≤ MC → slots + N ≤ MS → (∀ (q : Nat) (cA : ClassId) (H1 : Heap), va_K D cl (tys ++ [(cA, .object C)]) s → va_P D cl (ws ++ [(q, .inl (cA, N, .inr (.inr (.inr (.inr (fun _ => none))))))]) H1 → va_D A (ws ++ [(q, .inl (cA, N, .inr (.inr (.inr (.inr (fun _ => none))))))]) → va_S A H0 H1 locs → W p l e R s m args below meth c H1 locs (cells + 1) (slots + N) Q (F0 m nx ls (.ref q :: rest))) → W p l e R s m args below meth c H locs cells slots Q (F0 m pc ls (.int n :: rest))
def x_Sw (x : Int32) (tg : Nat) : Prop := ∀ {p : Program} {l : Launch} {e : Env} {R : Room} {s : State} {m : MethodId} {args : Array Value} {below : List Frame} {meth : Method} {c : Code}, CallFix p m c cc nL s args x_tbl own → ∀ {H : Heap} {locs : List Loc} {cells slots : Nat} {Q : State → Prop} {ls : Array Slot} {rest : List Value},
  W p l e R s m args below meth c H locs cells slots Q (F0 m tg ls rest) → W p l e R s m args below meth c H locs cells slots Q (F0 m pc ls (.int x :: rest))
end XW8
def xi_aald (nx : Nat) : xS → Option (List xS) := fun t => match t.2.2.1 with
  | i :: (1, j, _) :: r => match x_bi t.2.2.2.2.1 i, t.2.2.2.1[j.toNat]? with
    | some ib, some (kd, _, n, d, o) => bif (Nat.beq kd 5 || Nat.beq kd 6) && (decide (0 ≤ ib.1) && (decide (ib.2 < n) && decide (ib.1 = ib.2))) then some [(nx, t.2.1, x_get d o ib.1.toNat :: r, t.2.2.2)] else none
    | _, _ => none
  | _ => none
def xi_aast (nx : Nat) : xS → Option (List xS) := fun t => match t.2.2.1 with
  | (1, v, vb) :: i :: (1, j, _) :: r => match x_bi t.2.2.2.2.1 i, t.2.2.2.1[j.toNat]?, t.2.2.2.1[v.toNat]? with
    | some ib, some (5, c, n, d, o), some (0, ci, _) => bif Nat.beq c ci && (decide (0 ≤ ib.1) && (decide (ib.2 < n) && decide (ib.1 = ib.2))) then some [(nx, t.2.1, r, t.2.2.2.1.set j.toNat (5, c, n, d, x_put d o ib.1.toNat (1, v, vb)), t.2.2.2.2)] else none
    | _, _, _ => none
  | _ => none
def xi_alen (nx : Nat) : xS → Option (List xS) := fun t => match t.2.2.1 with
  | (1, j, _) :: r => match t.2.2.2.1[j.toNat]? with
    | some (kd, _, n, _, _) => bif Nat.beq kd 0 then none else some [(nx, t.2.1, (0, (n : Int), (n : Int)) :: r, t.2.2.2)]
    | none => none
  | _ => none
/-- a new array of kind kd (1, 2, 3: numbers; 5: references to objects of class c) -/
def xi_newa (kd c : Nat) (d : xV) (MC MS nx : Nat) : xS → Option (List xS) := fun t => match t.2.2.1 with
  | n :: r => match x_bi t.2.2.2.2.1 n with
    | some b => bif decide (b.1 = b.2) && (decide (0 ≤ b.1) && (decide (b.1 ≤ 67108864) && (Nat.ble (t.2.2.2.2.2.1 + 1) MC && Nat.ble (t.2.2.2.2.2.2 + b.1.toNat) MS))) then some [(nx, t.2.1, (1, t.2.2.2.1.length, 0) :: r, t.2.2.2.1 ++ [(kd, c, b.1.toNat, d, [])], t.2.2.2.2.1, t.2.2.2.2.2.1 + 1, t.2.2.2.2.2.2 + b.1.toNat)] else none
    | none => none
  | [] => none
/-- the top of the stack: places of the old one in the new one -/
def xi_stk (f : List xV → Option (List xV)) (nx : Nat) : xS → Option (List xS) := fun t => match f t.2.2.1 with
  | some st => some [(nx, t.2.1, st, t.2.2.2)]
  | none => none
def xf_dup (st : List xV) : Option (List xV) := match st with
  | x :: r => bif Nat.beq (x_ty x) 1 then none else some (x :: x :: r)
  | _ => none
def xf_pop (st : List xV) : Option (List xV) := match st with
  | x :: r => bif Nat.beq (x_ty x) 1 then none else some r
  | _ => none
def xf_dup2 (st : List xV) : Option (List xV) := match st with
  | x :: y :: r => bif Nat.beq (x_ty x) 1 || Nat.beq (x_ty y) 1 then none else some (x :: y :: x :: y :: r)
  | _ => none
def xf_dupx1 (st : List xV) : Option (List xV) := match st with
  | x :: y :: r => bif Nat.beq (x_ty x) 1 || Nat.beq (x_ty y) 1 then none else some (x :: y :: x :: r)
  | _ => none
def xf_dupx2 (st : List xV) : Option (List xV) := match st with
  | x :: y :: z :: r => bif Nat.beq (x_ty x) 1 || (Nat.beq (x_ty y) 1 || Nat.beq (x_ty z) 1) then none else some (x :: y :: z :: x :: r)
  | _ => none
/-- one arm of a switch -/
def x_arm (t : xS) (x : xV) (b : Int × Int) (r : List xV) (lo hi : Int) (tg : Nat) : List xS :=
  bif decide (b.1 ≤ hi) && decide (lo ≤ b.2) then [(tg, t.2.1, r, t.2.2.2.1, x_setb t.2.2.2.2.1 x (x_max b.1 lo, x_min b.2 hi), t.2.2.2.2.2)] else []
def x_arms (t : xS) (x : xV) (b : Int × Int) (r : List xV) : List (Int × Int × Nat) → List xS
  | [] => []
  | q :: l => x_arm t x b r q.1 q.2.1 q.2.2 ++ x_arms t x b r l
/-- a switch: ranges of the number and where they lead; together they are all numbers -/
def xi_sw (l : List (Int × Int × Nat)) : xS → Option (List xS) := fun t => match t.2.2.1 with
  | x :: r => match x_bi t.2.2.2.2.1 x with
    | some b => some (x_arms t x b r l)
    | none => none
  | [] => none
theorem x_arms_in {t : xS} {x : xV} {b : Int × Int} {r : List xV} {q : Int × Int × Nat} {n : Int} (h1 : b.1 ≤ n) (h2 : n ≤ b.2) (h3 : q.1 ≤ n) (h4 : n ≤ q.2.1) : ∀ {l : List (Int × Int × Nat)}, q ∈ l → (q.2.2, t.2.1, r, t.2.2.2.1, x_setb t.2.2.2.2.1 x (x_max b.1 q.1, x_min b.2 q.2.1), t.2.2.2.2.2) ∈ x_arms t x b r l
  | [], h => absurd h List.not_mem_nil
  | q' :: l, h => by
    unfold x_arms
    rcases List.mem_cons.mp h with rfl | h
    · refine List.mem_append_left _ ?_
      unfold x_arm
      rw [show (decide (b.1 ≤ q.2.1) && decide (q.1 ≤ b.2)) = true by simp only [Bool.and_eq_true, decide_eq_true_eq]; omega]
      exact List.mem_cons_self
    · exact List.mem_append_right _ (x_arms_in h1 h2 h3 h4 h)
theorem x_vrf {ad : List Nat} {V : List Int} {sc : Nat × Nat × List Nat} {x : xV} {f : Option Nat} (h : x_rel ad V sc x (va_rf f)) : True := trivial
section X8
variable {cl : List vw_C} {K : xKx} {cc : ByteArray} {own : String} {nL : Nat} {nm : String} {MC MS pc nx : Nat}
theorem xi_aald_ok (hw : x_Aq cl cc own nL nm MC MS pc nx) : x_Snd cl K cc own nL nm MC MS pc (xi_aald nx) := by
  intro V sc p l e R s m args below meth c D A H0 Q C hA hK t ts hpc hf hg
  unfold xi_aald at hf
  split at hf
  · rename_i i j jb r hst
    split at hf
    · rename_i ib kd cN n d o hib hcell
      cases hb : ((Nat.beq kd 5 || Nat.beq kd 6) && (decide (0 ≤ ib.1) && (decide (ib.2 < n) && decide (ib.1 = ib.2)))) with
      | false => rw [hb] at hf; cases hf
      | true =>
        rw [hb] at hf
        cases hf
        subst hpc
        simp only [Bool.and_eq_true, decide_eq_true_eq, Bool.or_eq_true] at hb
        intro ls stk H locs ⟨lv, ws, tys, h1, h2, h3, h4, h5, h6, h7, h8, h9⟩
        rw [hst] at h3
        match stk, h3 with
        | v1 :: v2 :: rest, h3 =>
          obtain ⟨ni, rfl, i1, i2⟩ := x_bi_ok h9 hib h3.1
          obtain ⟨a, ee, hq, rfl, hc⟩ := x_ref h4 h3.2.1 hcell
          obtain ⟨k1, k2, k3, k4⟩ := x_ix hb.2.1 hb.2.2.1 i1 i2
          have ek : ni.toNatClampNeg = ib.1.toNat := by omega
          rcases hb.1 with hk | hk
          · have := Nat.eq_of_beq_eq_true hk
            subst this
            obtain ⟨t0, cA, r', f, g0, g1, rfl, g2, g3⟩ := hc
            exact hw C rfl h5 h6 hq g1 k1 (hg _ List.mem_cons_self ls (va_rf (f ni.toNatClampNeg) :: rest) H locs ⟨lv, ws, tys, h1, h2, ⟨by rw [ek]; exact g3 _ (by rw [← ek]; exact k2), h3.2.2⟩, h4, h5, h6, h7, h8, h9⟩)
          · have := Nat.eq_of_beq_eq_true hk
            subst this
            obtain ⟨t0, cA, f, g1, rfl, g2, g3⟩ := hc
            exact hw C rfl h5 h6 hq g1 k1 (hg _ List.mem_cons_self ls (va_rf (f ni.toNatClampNeg) :: rest) H locs ⟨lv, ws, tys, h1, h2, ⟨by rw [ek]; exact g3 _ (by rw [← ek]; exact k2), h3.2.2⟩, h4, h5, h6, h7, h8, h9⟩)
    · cases hf
  · cases hf
theorem xi_aast_ok (hw : x_Aa cl cc own nL nm MC MS pc nx) : x_Snd cl K cc own nL nm MC MS pc (xi_aast nx) := by
  intro V sc p l e R s m args below meth c D A H0 Q C hA hK t ts hpc hf hg
  unfold xi_aast at hf
  split at hf
  · rename_i v vb i j jb r hst
    split at hf
    · rename_i ib cN n d o ci vr hib hcell hcv
      cases hb : (Nat.beq cN ci && (decide (0 ≤ ib.1) && (decide (ib.2 < n) && decide (ib.1 = ib.2)))) with
      | false => rw [hb] at hf; cases hf
      | true =>
        rw [hb] at hf
        cases hf
        subst hpc
        simp only [Bool.and_eq_true, decide_eq_true_eq] at hb
        have ec := Nat.eq_of_beq_eq_true hb.1
        subst ec
        intro ls stk H locs ⟨lv, ws, tys, h1, h2, h3, h4, h5, h6, h7, h8, h9⟩
        rw [hst] at h3
        match stk, h3 with
        | v0 :: v1 :: v2 :: rest, h3 =>
          obtain ⟨ni, rfl, i1, i2⟩ := x_bi_ok h9 hib h3.2.1
          obtain ⟨a, ee, hq, rfl, hc⟩ := x_ref h4 h3.2.2.1 hcell
          have hr0 := h3.1
          obtain ⟨av, ev, hqv, rfl, hcv'⟩ := x_ref h4 h3.1 hcv
          obtain ⟨t0, cA, r', f, g0, g1, rfl, g2, g3⟩ := hc
          obtain ⟨fs, rfl, -, -⟩ := hcv'
          obtain ⟨k1, k2, k3, k4⟩ := x_ix hb.2.1 hb.2.2.1 i1 i2
          have ek : ni.toNatClampNeg = ib.1.toNat := by omega
          refine hw C h5 h6 h7 h8 hq g1 hqv g0 k1 (fun H1 locs1 hP hD hS => hg _ List.mem_cons_self ls rest H1 locs1 ⟨lv, _, tys, h1, ?_, ?_, x_world_set h4 hq ⟨t0, cA, r', _, g0, g1, rfl, g2, fun k hk => ?_⟩, h5, hP, hD, hS, h9⟩)
          · rw [x_fst_set hq]; exact h2
          · rw [x_fst_set hq]; exact h3.2.2.2
          · simp only [x_get_put]
            rw [ek]
            by_cases hik : k = ib.1.toNat
            · rw [if_pos hik]
              simp only [va_up, if_pos hik]
              exact hr0
            · rw [if_neg hik]
              simp only [va_up, if_neg hik]
              exact g3 k hk
    · cases hf
  · cases hf
theorem xi_alen_ok (hw : x_Ln cl cc own nL nm MC MS pc nx) : x_Snd cl K cc own nL nm MC MS pc (xi_alen nx) := by
  intro V sc p l e R s m args below meth c D A H0 Q C hA hK t ts hpc hf hg
  unfold xi_alen at hf
  split at hf
  · rename_i j jb r hst
    split at hf
    · rename_i kd cN n d o hcell
      cases hb : Nat.beq kd 0 with
      | true => rw [hb] at hf; cases hf
      | false =>
        rw [hb] at hf
        cases hf
        subst hpc
        intro ls stk H locs ⟨lv, ws, tys, h1, h2, h3, h4, h5, h6, h7, h8, h9⟩
        rw [hst] at h3
        match stk, h3 with
        | v2 :: rest, h3 =>
          obtain ⟨a, ee, hq, rfl, hc⟩ := x_ref h4 h3.1 hcell
          have key : ∃ (t0 : Nat) (cA : ClassId) (x : vp_A) (ty : FieldType), tys[t0]? = some (cA, ty) ∧ ee = .inl (cA, x) ∧ x.1 = n ∧ n < 2147483648 := by
            unfold x_cell at hc
            split at hc
            · rename_i h0; simp only at h0; subst h0; cases hb
            · obtain ⟨t0, cA, f, g1, g2, g3, -⟩ := hc
              exact ⟨t0, cA, _, _, g1, g2, rfl, g3⟩
            · obtain ⟨t0, cA, f, g1, g2, g3, -⟩ := hc
              exact ⟨t0, cA, _, _, g1, g2, rfl, g3⟩
            · obtain ⟨t0, cA, f, g1, g2, g3, -⟩ := hc
              exact ⟨t0, cA, _, _, g1, g2, rfl, g3⟩
            · obtain ⟨t0, cA, r', f, -, g1, g2, g3, -⟩ := hc
              exact ⟨t0, cA, _, _, g1, g2, rfl, g3⟩
            · obtain ⟨t0, cA, f, g1, g2, g3, -⟩ := hc
              exact ⟨t0, cA, _, _, g1, g2, rfl, g3⟩
            · exact hc.elim
          obtain ⟨t0, cA, x, ty, g1, rfl, rfl, g3⟩ := key
          have e := nI_toInt g3
          exact hw C h5 h6 hq g1 (hg _ List.mem_cons_self ls (.int (Int32.ofNat x.1) :: rest) H locs ⟨lv, ws, tys, h1, h2, ⟨⟨_, rfl, by show (x.1 : Int) ≤ (nI x.1).toInt; omega, by show (nI x.1).toInt ≤ (x.1 : Int); omega⟩, h3.2⟩, h4, h5, h6, h7, h8, h9⟩)
    · cases hf
  · cases hf
theorem x_const {b : Int × Int} {n : Int32} (e : b.1 = b.2) (h0 : 0 ≤ b.1) (h1 : b.1 ≤ n.toInt) (h2 : n.toInt ≤ b.2) : ¬ n < 0 ∧ n.toNatClampNeg = b.1.toNat := by
  have e1 : n.toInt = b.1 := by omega
  refine ⟨fun h => ?_, by show n.toInt.toNat = _; rw [e1]⟩
  have := Int32.lt_iff_toInt_lt.mp h
  rw [Int32.toInt_zero] at this
  omega
theorem xi_newa_ok {kd : Nat} {b : Bool} (hkd : x_akd b kd = true) (hw : x_Na cl cc own nL nm MC MS pc nx (x_aty kd)) : x_Snd cl K cc own nL nm MC MS pc (xi_newa kd 0 (0, 0, 0) MC MS nx) := by
  intro V sc p l e R s m args below meth c D A H0 Q C hA hK t ts hpc hf hg
  unfold xi_newa at hf
  split at hf
  · rename_i n r hst
    split at hf
    · rename_i bb hbb
      cases hb : (decide (bb.1 = bb.2) && (decide (0 ≤ bb.1) && (decide (bb.1 ≤ 67108864) && (Nat.ble (t.2.2.2.2.2.1 + 1) MC && Nat.ble (t.2.2.2.2.2.2 + bb.1.toNat) MS)))) with
      | false => rw [hb] at hf; cases hf
      | true =>
        rw [hb] at hf
        cases hf
        subst hpc
        simp only [Bool.and_eq_true, decide_eq_true_eq] at hb
        obtain ⟨b1, b2, b3, b4, b5⟩ := hb
        intro ls stk H locs ⟨lv, ws, tys, h1, h2, h3, h4, h5, h6, h7, h8, h9⟩
        rw [hst] at h3
        match stk, h3 with
        | v2 :: rest, h3 =>
          obtain ⟨ni, rfl, i1, i2⟩ := x_bi_ok h9 hbb h3.1
          obtain ⟨c1, c2⟩ := x_const b1 b2 i1 i2
          refine hw C hA h5 h6 h7 h8 c1 c2 (by omega) (Nat.le_of_ble_eq_true b4) (Nat.le_of_ble_eq_true b5) (fun q cA H1 hK1 hP hD hS => hg _ List.mem_cons_self ls (.ref q :: rest) H1 locs ⟨lv, _, _, h1, ?_, ⟨?_, ?_⟩, ?_, hK1, hP, hD, hS, h9⟩)
          · rw [List.map_append]; exact x_lv_app h2
          · refine ⟨q, ?_, rfl⟩
            simp only [Int.toNat_natCast]
            rw [h4.1]
            simp
          · rw [List.map_append]; exact x_stk_app h3.2
          · refine x_world_app h4 rfl (fun k x y hx hy => ?_)
            have hk : k < 1 := (List.getElem?_eq_some_iff.mp hx).1
            rw [show k = 0 by omega] at hx hy
            cases hx
            cases hy
            exact x_cell_arr hkd ⟨tys.length, cA, _, by simp, rfl, by omega, fun k hk => ⟨0, rfl, by show (0 : Int) ≤ Int32.toInt 0; decide, by show Int32.toInt 0 ≤ (0 : Int); decide⟩⟩
    · cases hf
  · cases hf
theorem xi_newq_ok {ci : Nat} {r : vw_C} (hr : cl[ci]? = some r) (hw : x_Nq cl cc own nL nm MC MS pc nx r.1) : x_Snd cl K cc own nL nm MC MS pc (xi_newa 5 ci (2, 0, 0) MC MS nx) := by
  intro V sc p l e R s m args below meth c D A H0 Q C hA hK t ts hpc hf hg
  unfold xi_newa at hf
  split at hf
  · rename_i n r' hst
    split at hf
    · rename_i bb hbb
      cases hb : (decide (bb.1 = bb.2) && (decide (0 ≤ bb.1) && (decide (bb.1 ≤ 67108864) && (Nat.ble (t.2.2.2.2.2.1 + 1) MC && Nat.ble (t.2.2.2.2.2.2 + bb.1.toNat) MS)))) with
      | false => rw [hb] at hf; cases hf
      | true =>
        rw [hb] at hf
        cases hf
        subst hpc
        simp only [Bool.and_eq_true, decide_eq_true_eq] at hb
        obtain ⟨b1, b2, b3, b4, b5⟩ := hb
        intro ls stk H locs ⟨lv, ws, tys, h1, h2, h3, h4, h5, h6, h7, h8, h9⟩
        rw [hst] at h3
        match stk, h3 with
        | v2 :: rest, h3 =>
          obtain ⟨ni, rfl, i1, i2⟩ := x_bi_ok h9 hbb h3.1
          obtain ⟨c1, c2⟩ := x_const b1 b2 i1 i2
          refine hw C hA h5 h6 h7 h8 c1 c2 (by omega) (Nat.le_of_ble_eq_true b4) (Nat.le_of_ble_eq_true b5) (fun q cA H1 hK1 hP hD hS => hg _ List.mem_cons_self ls (.ref q :: rest) H1 locs ⟨lv, _, _, h1, ?_, ⟨?_, ?_⟩, ?_, hK1, hP, hD, hS, h9⟩)
          · rw [List.map_append]; exact x_lv_app h2
          · refine ⟨q, ?_, rfl⟩
            simp only [Int.toNat_natCast]
            rw [h4.1]
            simp
          · rw [List.map_append]; exact x_stk_app h3.2
          · refine x_world_app h4 rfl (fun k x y hx hy => ?_)
            have hk : k < 1 := (List.getElem?_eq_some_iff.mp hx).1
            rw [show k = 0 by omega] at hx hy
            cases hx
            cases hy
            exact ⟨tys.length, cA, r, _, hr, by simp, rfl, by show bb.1.toNat < 2147483648; omega, fun k hk => rfl⟩
    · cases hf
  · cases hf
/-- what the stack's change does to its values -/
theorem xi_stk_ok {f : List xV → Option (List xV)} (hw : ∀ (ad : List Nat) (V : List Int) (sc : Nat × Nat × List Nat) (st st' : List xV) (stk : List Value), f st = some st' → x_all2 (x_rel ad V sc) st stk → ∃ (i o rest : List Value), stk = i ++ rest ∧ x_Stk cc own nL pc nx i o ∧ x_all2 (x_rel ad V sc) st' (o ++ rest)) : x_Snd cl K cc own nL nm MC MS pc (xi_stk f nx) := by
  intro V sc p l e R s m args below meth c D A H0 Q C hA hK t ts hpc hf hg
  unfold xi_stk at hf
  split at hf
  · rename_i st' hst
    cases hf
    subst hpc
    intro ls stk H locs ⟨lv, ws, tys, h1, h2, h3, h4⟩
    obtain ⟨i, o, rest, rfl, hs, hr⟩ := hw _ _ _ _ _ _ hst h3
    exact hs C.1 (hg _ List.mem_cons_self ls (o ++ rest) H locs ⟨lv, ws, tys, h1, h2, hr, h4⟩)
  · cases hf
theorem x_one {ad : List Nat} {V : List Int} {sc : Nat × Nat × List Nat} {x : xV} {v : Value} (h : x_rel ad V sc x v) (hb : Nat.beq (x_ty x) 1 = false) : v.category = 1 := by
  rw [x_kd_cat (x_ty_ok h), if_neg]
  intro e
  rw [e] at hb
  cases hb
theorem xf_dup_ok (hw : ∀ v : Value, v.category = 1 → x_Stk cc own nL pc nx [v] [v, v]) : x_Snd cl K cc own nL nm MC MS pc (xi_stk xf_dup nx) := xi_stk_ok fun ad V sc st st' stk h hr => by
  unfold xf_dup at h
  split at h
  · rename_i x r
    cases hb : Nat.beq (x_ty x) 1 with
    | true => rw [hb] at h; cases h
    | false =>
      rw [hb] at h
      cases h
      match stk, hr with
      | v :: rest, hr => exact ⟨[v], [v, v], rest, rfl, hw v (x_one hr.1 hb), hr.1, hr.1, hr.2⟩
  · cases h
theorem xf_pop_ok (hw : ∀ v : Value, v.category = 1 → x_Stk cc own nL pc nx [v] []) : x_Snd cl K cc own nL nm MC MS pc (xi_stk xf_pop nx) := xi_stk_ok fun ad V sc st st' stk h hr => by
  unfold xf_pop at h
  split at h
  · rename_i x r
    cases hb : Nat.beq (x_ty x) 1 with
    | true => rw [hb] at h; cases h
    | false =>
      rw [hb] at h
      cases h
      match stk, hr with
      | v :: rest, hr => exact ⟨[v], [], rest, rfl, hw v (x_one hr.1 hb), hr.2⟩
  · cases h
theorem xf_dup2_ok (hw : ∀ v u : Value, v.category = 1 → u.category = 1 → x_Stk cc own nL pc nx [v, u] [v, u, v, u]) : x_Snd cl K cc own nL nm MC MS pc (xi_stk xf_dup2 nx) := xi_stk_ok fun ad V sc st st' stk h hr => by
  unfold xf_dup2 at h
  split at h
  · rename_i x y r
    cases hb : (Nat.beq (x_ty x) 1 || Nat.beq (x_ty y) 1) with
    | true => rw [hb] at h; cases h
    | false =>
      rw [hb] at h
      cases h
      simp only [Bool.or_eq_false_iff] at hb
      match stk, hr with
      | v :: u :: rest, hr => exact ⟨[v, u], [v, u, v, u], rest, rfl, hw v u (x_one hr.1 hb.1) (x_one hr.2.1 hb.2), hr.1, hr.2.1, hr.1, hr.2.1, hr.2.2⟩
  · cases h
theorem xf_dupx1_ok (hw : ∀ v u : Value, v.category = 1 → u.category = 1 → x_Stk cc own nL pc nx [v, u] [v, u, v]) : x_Snd cl K cc own nL nm MC MS pc (xi_stk xf_dupx1 nx) := xi_stk_ok fun ad V sc st st' stk h hr => by
  unfold xf_dupx1 at h
  split at h
  · rename_i x y r
    cases hb : (Nat.beq (x_ty x) 1 || Nat.beq (x_ty y) 1) with
    | true => rw [hb] at h; cases h
    | false =>
      rw [hb] at h
      cases h
      simp only [Bool.or_eq_false_iff] at hb
      match stk, hr with
      | v :: u :: rest, hr => exact ⟨[v, u], [v, u, v], rest, rfl, hw v u (x_one hr.1 hb.1) (x_one hr.2.1 hb.2), hr.1, hr.2.1, hr.1, hr.2.2⟩
  · cases h
theorem xf_dupx2_ok (hw : ∀ v u w : Value, v.category = 1 → u.category = 1 → w.category = 1 → x_Stk cc own nL pc nx [v, u, w] [v, u, w, v]) : x_Snd cl K cc own nL nm MC MS pc (xi_stk xf_dupx2 nx) := xi_stk_ok fun ad V sc st st' stk h hr => by
  unfold xf_dupx2 at h
  split at h
  · rename_i x y z r
    cases hb : (Nat.beq (x_ty x) 1 || (Nat.beq (x_ty y) 1 || Nat.beq (x_ty z) 1)) with
    | true => rw [hb] at h; cases h
    | false =>
      rw [hb] at h
      cases h
      simp only [Bool.or_eq_false_iff] at hb
      match stk, hr with
      | v :: u :: w :: rest, hr => exact ⟨[v, u, w], [v, u, w, v], rest, rfl, hw v u w (x_one hr.1 hb.1) (x_one hr.2.1 hb.2.1) (x_one hr.2.2.1 hb.2.2), hr.1, hr.2.1, hr.2.2.1, hr.1, hr.2.2.2⟩
  · cases h
theorem xi_sw_ok {l : List (Int × Int × Nat)} (hw : ∀ x : Int32, ∃ q ∈ l, q.1 ≤ x.toInt ∧ x.toInt ≤ q.2.1 ∧ x_Sw cc own nL pc x q.2.2) : x_Snd cl K cc own nL nm MC MS pc (xi_sw l) := by
  intro V sc p ll e R s m args below meth c D A H0 Q C hA hK t ts hpc hf hg
  unfold xi_sw at hf
  split at hf
  · rename_i x r hst
    split at hf
    · rename_i b hb
      cases hf
      subst hpc
      intro ls stk H locs ⟨lv, ws, tys, h1, h2, h3, h4, h5, h6, h7, h8, h9⟩
      rw [hst] at h3
      match stk, h3 with
      | v2 :: rest, h3 =>
        obtain ⟨n, rfl, x1, x2⟩ := x_bi_ok h9 hb h3.1
        obtain ⟨q, hq, q1, q2, hs⟩ := hw n
        exact hs C.1 (hg _ (x_arms_in x1 x2 q1 q2 hq) ls rest H locs ⟨lv, ws, tys, h1, h2, h3.2, h4, h5, h6, h7, h8, x_setb_i h9 h3.1 (x_max_le x1 q1) (x_le_min x2 q2)⟩)
    · cases hf
  · cases hf
end X8
end
section
/-! the engine: methods by number, calls inside; and what it says of a method is a contract -/
/-- name, code, locals, answer's type, cells and slots that it makes at most, class of the receiver (999: none) -/
abbrev xM : Type := MethodName × ByteArray × Nat × Option FieldType × Nat × Nat × Nat
abbrev xm_y (q : xM) : MethodName := q.1
abbrev xm_b (q : xM) : ByteArray := q.2.1
abbrev xm_l (q : xM) : Nat := q.2.2.1
abbrev xm_r (q : xM) : Option FieldType := q.2.2.2.1
abbrev xm_c (q : xM) : Nat := q.2.2.2.2.1
abbrev xm_s (q : xM) : Nat := q.2.2.2.2.2.1
abbrev xm_o (q : xM) : Nat := q.2.2.2.2.2.2
def x_ws (q : xM) : List Cond := .code (xm_y q) (xm_b q) (xm_l q) (xm_r q) :: x_tbl
def x_rm (d : Nat) (q : xM) : Room := { frames := d, cells := xm_c q, slots := xm_s q, locals := 64 * d }
def x_ent : Nat → List xV → xL
  | _, [] => []
  | i, x :: r => (i, x) :: x_ent (bif Nat.beq (x_ty x) 1 then i + 2 else i + 1) r
def x_cats : List xV → Nat
  | [] => 0
  | x :: r => (bif Nat.beq (x_ty x) 1 then 2 else 1) + x_cats r
def x_each (f : xS → Option (List xK)) : List xS → Option (List xK)
  | [] => some []
  | t :: r => match f t with
    | some a => match x_each f r with
      | some b => some (a ++ b)
      | none => none
    | none => none
def x_retv (k : Nat) (t : xS) : Option xK := match k, t.2.2.1 with
  | 0, [] => some ([], t.2.2.2.1, t.2.2.2.2.1)
  | 1, [x] => bif Nat.beq (x_ty x) 0 then some ([x], t.2.2.2.1, t.2.2.2.2.1) else none
  | 2, [x] => bif Nat.beq (x_ty x) 1 then some ([x], t.2.2.2.1, t.2.2.2.2.1) else none
  | 3, [x] => bif Nat.beq (x_ty x) 2 then some ([x], t.2.2.2.1, t.2.2.2.2.1) else none
  | 4, [x] => bif x_pkb t.2.2.2.2.1 1 x then some ([x], t.2.2.2.1, t.2.2.2.2.1) else none
  | _, _ => none
def x_ret (k : Nat) (q : xM) (t : xS) : Option xK := bif Nat.ble t.2.2.2.2.2.1 (xm_c q) && Nat.ble t.2.2.2.2.2.2 (xm_s q) then x_retv k t else none
/-- the receiver is an object of the class that is wanted -/
def x_rcv (o : Nat) (as : List xV) (w : List xC) : Bool := bif Nat.beq o 999 then true else match as with
  | (1, j, _) :: _ => match w[j.toNat]? with
    | some (0, c, _) => Nat.beq c o
    | _ => false
  | _ => false
def x_back (t : xS) (rest : List xV) (q : xM) (lf : xK) : xS := (t.1 + 3, t.2.1, lf.1 ++ rest, lf.2.1, lf.2.2, t.2.2.2.2.2.1 + xm_c q, t.2.2.2.2.2.2 + xm_s q)
def x_may_call (fd d : Nat) (t : xS) (M' na : Nat) (q q' : xM) (as rest : List xV) : Bool :=
  Nat.ble fd d && (Nat.ble 1 M' && (Nat.ble na t.2.2.1.length && (Nat.ble (x_cats rest) 8 && (Nat.ble (x_cats as) (xm_l q') && (Nat.ble (t.2.2.2.2.2.1 + xm_c q') (xm_c q) && (Nat.ble (t.2.2.2.2.2.2 + xm_s q') (xm_s q) && x_rcv (xm_o q') as t.2.2.2.1))))))
def x_ex (fd : Nat) (code : Nat → Nat → xE) (I : Nat → xM) : Nat → Nat → Nat → xS → Option (List xK)
  | 0, _, _, _ => none
  | n + 1, d, M, t => match code M t.1 with
    | (0, f, _, _) => match f t with
      | some [t'] => x_ex fd code I n d M t'
      | some l => x_each (fun t' => x_ex fd code I n d M t') l
      | none => none
    | (1, _, k, _) => match x_ret k (I M) t with
      | some lf => some [lf]
      | none => none
    | (2, _, M', na) => match d with
      | 0 => none
      | d' + 1 => bif x_may_call fd d' t M' na (I M) (I M') (t.2.2.1.take na).reverse (t.2.2.1.drop na) then
          match x_ex fd code I n d' M' (0, x_ent 0 (t.2.2.1.take na).reverse, [], t.2.2.2.1, t.2.2.2.2.1, 0, 0) with
          | some [lf] => x_ex fd code I n (d' + 1) M (x_back t (t.2.2.1.drop na) (I M') lf)
          | some ls => x_each (fun lf => x_ex fd code I n (d' + 1) M lf) (ls.map (x_back t (t.2.2.1.drop na) (I M')))
          | none => none
          else none
    | _ => none
theorem x_after {p : Program} {l : Launch} {e : Env} {R : Room} {s : State} {m : MethodId} {args : Array Value} {below : List Frame} {meth : Method} {c : Code} {H : Heap} {locs : List Loc} {cells slots : Nat} {Q : State → Prop} {pc : Nat} {ls : Array Slot} {rest st0 : List Value} {A0 A1 : Nat → Prop} {H0 : Heap} {mc ms : Nat} {free : Addr → Prop} {Qa : State → Outcome → State → Prop}
    (hr : va_Run p l e R s m args below meth c H locs cells slots mc ms (F0 m pc ls st0) rest Qa free) (hS : va_S A0 H0 H locs) (hQ : ∀ st v t, Qa st (.returned v) t → va_F A1 st t) (hA : ∀ q, q < H.size → A1 q → A0 q) (hf : ∀ q, free q → A0 q)
    (kk : ∀ (v : Option Value) (st t : State) (H1 : Heap) (locs1 : List Loc), t.heap = H1 → s.vm.Alike t.vm → Qa st (.returned v) t → va_S A0 H0 H1 locs1 → W p l e R s m args below meth c H1 locs1 (cells + mc) (slots + ms) Q (F0 m (pc + 3) ls (v.toList ++ rest))) : W p l e R s m args below meth c H locs cells slots Q (F0 m pc ls st0) := by
  intro T hT X
  obtain ⟨v, st₀, t, T', L, h0, X', hL, e1, e2, hq, st⟩ := hr T hT X
  obtain ⟨hz, hk⟩ := hQ _ _ _ hq
  rw [h0] at hz hk
  obtain ⟨t2, a1, b1⟩ := kk v st₀ t T'.heap (locs ++ L) e1.symm (by rw [← e2]; exact X'.warmed.alike) hq
    ⟨Nat.le_trans hS.1 (by rw [e1]; exact hz), fun q h1 h2 => by rw [e1, hk q (Nat.lt_of_lt_of_le h1 hS.1) (fun z => h2 (hA q (Nat.lt_of_lt_of_le h1 hS.1) z))]; exact hS.2.1 q h1 h2, fun q hq => by
      rcases List.mem_append.mp hq with h | h
      · exact hS.2.2 q h
      · exact hf _ (hL q h)⟩ T' rfl X'
  exact ⟨t2, st t2 a1, b1⟩
/-- what is left behind a method -/
def x_Q (cl : List vw_C) (V : List Int) (sc : Nat × Nat × List Nat) (D : va_G) (ws0 : va_W) (sz : Nat) (Ls : List xK) : Array Value → State → Outcome → State → Prop := fun _ st oc t =>
  (∃ lf ∈ Ls, ∃ (v : Option Value) (ws : va_W) (tys : List (ClassId × FieldType)), oc = .returned v ∧ x_all2 (x_rel (ws.map Prod.fst) V sc) lf.1 v.toList ∧ x_world cl V sc tys lf.2.1 ws ∧ va_K D cl tys t ∧ va_P D cl ws t.heap ∧ va_D (va_A ws0 sz) ws ∧ x_tk lf.2.2 V) ∧ va_F (va_A ws0 sz) st t
def x_Rt (cc : ByteArray) (rt : Option FieldType) (pc k : Nat) : Prop := match k with
  | 0 => decode cc pc = .ok (.return_, 1) ∧ rt = none
  | 1 => decode cc pc = .ok (.ireturn, 1) ∧ rt = some .int
  | 2 => decode cc pc = .ok (.lreturn, 1) ∧ rt = some .long
  | 3 => decode cc pc = .ok (.areturn, 1) ∧ ∃ t, rt = some t ∧ ((∃ n, t = .object n) ∨ ∃ q, t = .array q)
  | _ => decode cc pc = .ok (.ireturn, 1) ∧ rt = some .boolean
def x_Cl (cc : ByteArray) (own : String) (nL : Nat) (nm : String) (MC MS pc : Nat) (q' : xM) (na : Nat) : Prop := (19 + xm_l q' ≤ 64) ∧ ∀ {p : Program} {l : Launch} {e : Env} {R : Room} {s : State} {m : MethodId} {args : Array Value} {below : List Frame} {meth : Method} {c : Code}, x_Cx cc own nL nm MC MS p R s m args meth c →
  ∀ {H : Heap} {locs : List Loc} {cells slots mc ms : Nat} {ls : Array Slot} {rest vargs : List Value} {Pc : Array Value → State → Prop} {Qc : Array Value → State → Outcome → State → Prop} {free : Addr → Prop} {rm : Room}, Met l (xm_y q') (x_ws q') rm Pc Qc mc ms free → FrameBlind Pc → (∀ U : State, U.heap = H → s.WarmedH U.vm → Pc vargs.toArray U) →
  (xm_o q' = 999 ∨ ∃ b As, vargs = .ref b :: As ∧ ∃ cellB : Cell, H[b]? = some cellB ∧ cellB.vm.isStatics = false ∧ s.vm.findClass (xm_y q').cls = some cellB.cls) → vargs.length = na → rm.cells = mc → rm.slots = ms → rm.frames + 1 ≤ R.frames → 8 + (xm_l q' + 11) + rm.locals ≤ R.locals → ls.size = nL → (rest.map fun v => v.category).sum ≤ 8 → cells + mc ≤ R.cells ∧ slots + ms ≤ R.slots →
  va_Run p l e R s m args below meth c H locs cells slots mc ms (F0 m pc ls (vargs.reverse ++ rest)) rest (Qc vargs.toArray) free
/-- a place of a method's table may be trusted -/
def x_EOq (cl : List vw_C) (K : xKx) (I : Nat → xM) (q : xM) (pc : Nat) (en : xE) : Prop := match en with
  | (0, f, _, _) => x_Snd cl K (xm_b q) (xm_y q).cls (xm_l q) (xm_y q).name (xm_c q) (xm_s q) pc f
  | (1, _, k, _) => x_Rt (xm_b q) (xm_r q) pc k
  | (2, _, M', na) => x_Cl (xm_b q) (xm_y q).cls (xm_l q) (xm_y q).name (xm_c q) (xm_s q) pc (I M') na
  | _ => True
abbrev x_EOk (cl : List vw_C) (K : xKx) (I : Nat → xM) (M pc : Nat) (en : xE) : Prop := x_EOq cl K I (I M) pc en
theorem x_each_in {f : xS → Option (List xK)} : ∀ {l : List xS} {r : List xK}, x_each f l = some r → ∀ t ∈ l, ∃ a, f t = some a ∧ ∀ x ∈ a, x ∈ r
  | [], r, h, t, ht => absurd ht List.not_mem_nil
  | t0 :: l, r, h, t, ht => by
    unfold x_each at h
    split at h
    · rename_i a ha
      split at h
      · rename_i b hb
        cases h
        rcases List.mem_cons.mp ht with rfl | ht
        · exact ⟨a, ha, fun x hx => List.mem_append_left _ hx⟩
        · obtain ⟨a', h1, h2⟩ := x_each_in hb t ht
          exact ⟨a', h1, fun x hx => List.mem_append_right _ (h2 x hx)⟩
      · cases h
    · cases h
theorem x_rel_sc {ad : List Nat} {V : List Int} {sc sc' : Nat × Nat × List Nat} (h1 : sc.1 = sc'.1) (h2 : sc.2.1 = sc'.2.1) {x : xV} {v : Value} (h : x_rel ad V sc x v) : x_rel ad V sc' x v := by
  obtain ⟨t, a, b⟩ := x
  unfold x_rel at h ⊢
  split at h <;> try exact h
  exact ⟨by rw [← h1]; exact h.1, by rw [← h2]; exact h.2⟩
theorem x_cell_sc {cl : List vw_C} {ad : List Nat} {V : List Int} {sc sc' : Nat × Nat × List Nat} (h1 : sc.1 = sc'.1) (h2 : sc.2.1 = sc'.2.1) {tys : List (ClassId × FieldType)} {x : xC} {e : va_E} (h : x_cell cl ad V sc tys x e) : x_cell cl ad V sc' tys x e := by
  obtain ⟨t, n, ln, d, o⟩ := x
  unfold x_cell at h ⊢
  split at h
  · obtain ⟨fs, g1, g2, g3⟩ := h
    exact ⟨fs, g1, g2, fun k hk => by obtain ⟨v, k1, k2⟩ := g3 k hk; exact ⟨v, k1, x_rel_sc h1 h2 k2⟩⟩
  · obtain ⟨t0, cA, f, g1, g2, g3, g4⟩ := h
    exact ⟨t0, cA, f, g1, g2, g3, fun k hk => x_rel_sc h1 h2 (g4 k hk)⟩
  · obtain ⟨t0, cA, f, g1, g2, g3, g4⟩ := h
    exact ⟨t0, cA, f, g1, g2, g3, fun k hk => x_rel_sc h1 h2 (g4 k hk)⟩
  · obtain ⟨t0, cA, f, g1, g2, g3, g4⟩ := h
    exact ⟨t0, cA, f, g1, g2, g3, fun k hk => x_rel_sc h1 h2 (g4 k hk)⟩
  · obtain ⟨t0, cA, r, f, g0, g1, g2, g3, g4⟩ := h
    exact ⟨t0, cA, r, f, g0, g1, g2, g3, fun k hk => x_rel_sc h1 h2 (g4 k hk)⟩
  · obtain ⟨t0, cA, f, g1, g2, g3, g4⟩ := h
    exact ⟨t0, cA, f, g1, g2, g3, fun k hk => x_rel_sc h1 h2 (g4 k hk)⟩
  · exact h.elim
theorem x_ent_ok {ad : List Nat} {V : List Int} {sc : Nat × Nat × List Nat} : ∀ {as : List xV} {vs : List Value} (i : Nat), x_all2 (x_rel ad V sc) as vs → x_all2 (fun a q => a.1 = q.1 ∧ x_rel ad V sc a.2 q.2) (x_ent i as) (lv_args i vs)
  | [], [], _, _ => trivial
  | a :: as, v :: vs, i, h => by
    refine ⟨⟨rfl, h.1⟩, ?_⟩
    have e := x_kd_cat (x_ty_ok h.1)
    cases hb : Nat.beq (x_ty a) 1 with
    | true =>
      have := Nat.eq_of_beq_eq_true hb
      rw [this, if_pos rfl] at e
      rw [e, if_pos rfl]
      exact x_ent_ok (i + 2) h.2
    | false =>
      have h1 : ¬ x_ty a = 1 := fun q => by rw [q] at hb; cases hb
      rw [if_neg h1] at e
      rw [e, if_neg (by decide)]
      exact x_ent_ok (i + 1) h.2
  | [], _ :: _, _, h => h.elim
  | _ :: _, [], _, h => h.elim
theorem x_cats_ok {ad : List Nat} {V : List Int} {sc : Nat × Nat × List Nat} : ∀ {as : List xV} {vs : List Value}, x_all2 (x_rel ad V sc) as vs → (vs.map fun v => v.category).sum = x_cats as ∧ (lg_sl vs).length = x_cats as
  | [], [], _ => ⟨rfl, rfl⟩
  | a :: as, v :: vs, h => by
    have e := x_kd_cat (x_ty_ok h.1)
    obtain ⟨h1, h2⟩ := x_cats_ok h.2
    cases hb : Nat.beq (x_ty a) 1 with
    | true =>
      have := Nat.eq_of_beq_eq_true hb
      rw [this, if_pos rfl] at e
      refine ⟨by simp only [List.map_cons, List.sum_cons, e, h1, x_cats, hb, cond_true], ?_⟩
      show (List.flatMap _ (v :: vs)).length = _
      rw [List.flatMap_cons, e, if_pos rfl, List.length_append]
      show 2 + (lg_sl vs).length = _
      rw [h2]
      simp only [x_cats, hb, cond_true]
    | false =>
      have h3 : ¬ x_ty a = 1 := fun q => by rw [q] at hb; cases hb
      rw [if_neg h3] at e
      refine ⟨by simp only [List.map_cons, List.sum_cons, e, h1, x_cats, hb, cond_false], ?_⟩
      show (List.flatMap _ (v :: vs)).length = _
      rw [List.flatMap_cons, e, if_neg (by decide), List.length_append]
      show 1 + (lg_sl vs).length = _
      rw [h2]
      simp only [x_cats, hb, cond_false]
  | [], _ :: _, h => h.elim
  | _ :: _, [], h => h.elim
theorem x_split {α β : Type} {R : α → β → Prop} (n : Nat) : ∀ {as : List α} {bs : List β}, x_all2 R as bs → x_all2 R (as.take n) (bs.take n) ∧ x_all2 R (as.drop n) (bs.drop n) := by
  induction n with
  | zero => intro as bs h; simp only [List.take_zero, List.drop_zero]; exact ⟨trivial, h⟩
  | succ n ih =>
    intro as bs h
    match as, bs, h with
    | [], [], _ => exact ⟨trivial, trivial⟩
    | a :: as, b :: bs, h =>
      obtain ⟨h1, h2⟩ := ih h.2
      exact ⟨⟨h.1, h1⟩, h2⟩
end
section
/-! what the engine says holds -/
def x_Tab (fd : Nat) (PV : List Int → Prop) (cl : List vw_C) (KK : Nat → xKx) (I : Nat → xM) (code : Nat → Nat → xE) : Prop :=
  1 ≤ fd ∧ (∀ M pc, x_EOk cl (KK M) I M pc (code M pc)) ∧ (∀ M, plainName (xm_y (I M)).cls = true) ∧ (∀ M, M ≠ 0 → ∀ (R : Room) s A H V sc, fd ≤ R.frames → 64 * fd ≤ R.locals → PV V → KK M R s A H V sc) ∧ ∀ M, xm_o (I M) ≠ 999 → ∃ r, cl[xm_o (I M)]? = some r ∧ r.1 = (xm_y (I M)).cls
def x_Frm (fd : Nat) (PV : List Int → Prop) (cl : List vw_C) (KK : Nat → xKx) (I : Nat → xM) (code : Nat → Nat → xE) (l : Launch) (n : Nat) : Prop :=
  ∀ (d M : Nat) (t : xS) (Ls : List xK), x_ex fd code I n d M t = some Ls → ∀ {V : List Int} {sc : Nat × Nat × List Nat} {p : Program} {e : Env} {R : Room} {s : State} {m : MethodId} {args : Array Value} {below : List Frame} {meth : Method} {c : Code} {D : va_G} {A : Nat → Prop} {H0 : Heap} {Q : State → Prop},
    x_Cx (xm_b (I M)) (xm_y (I M)).cls (xm_l (I M)) (xm_y (I M)).name (xm_c (I M)) (xm_s (I M)) p R s m args meth c → d ≤ R.frames → 64 * d ≤ R.locals → (∀ q : Nat, H0.size ≤ q → A q) → KK M R s A H0 V sc → PV V →
    (∀ (t : xS) (f : xS → Option (List xS)) (k b : Nat) (lf : xK), code M t.1 = (1, f, k, b) → x_ret k (I M) t = some lf → lf ∈ Ls → x_Good cl V sc (xm_l (I M)) p l e R s m args below meth c D A H0 Q t) → x_Good cl V sc (xm_l (I M)) p l e R s m args below meth c D A H0 Q t
def x_Met (PV : List Int → Prop) (cl : List vw_C) (I : Nat → xM) (l : Launch) (d M : Nat) (as : List xV) (w : List xC) (tk : xT) (ls : List xK) : Prop :=
  ∀ (V : List Int) (s1 s2 : Nat) (D : va_G) (ws : va_W) (tys : List (ClassId × FieldType)) (vs : List Value) (sz : Nat), x_all2 (x_rel (ws.map Prod.fst) V (s1, s2, ws.map Prod.fst)) as vs → x_world cl V (s1, s2, ws.map Prod.fst) tys w ws → x_tk tk V → PV V →
    Met l (xm_y (I M)) (x_ws (I M)) (x_rm d (I M)) (va_Pc vs (fun U => U.heap.size = sz ∧ va_P D cl ws U.heap ∧ va_K D cl tys U ∧ va_D (fun _ => True) ws ∧ x_Ex U)) (x_Q cl V (s1, s2, ws.map Prod.fst) D ws sz ls) (xm_c (I M)) (xm_s (I M)) (va_A ws sz)
theorem x_goodIn {q q' : xM} (h : Cond.code (xm_y q') (xm_b q') (xm_l q') (xm_r q') ∈ x_tbl) (hg : x_tbl.all goodWord = true) : GoodIn x_tbl (x_ws q') := by
  intro w hw
  rcases List.mem_cons.mp hw with rfl | hw
  · exact ⟨h, good_of_word (List.all_eq_true.mp hg _ h)⟩
  · exact ⟨hw, good_of_word (List.all_eq_true.mp hg _ hw)⟩
section X10
variable {fd : Nat} {PV : List Int → Prop} {cl : List vw_C} {KK : Nat → xKx} {I : Nat → xM} {code : Nat → Nat → xE} {l : Launch}
theorem x_met_of (hT : x_Tab fd PV cl KK I code) {n : Nat} (hF : x_Frm fd PV cl KK I code l n) {d M : Nat} {as : List xV} {w : List xC} {tk : xT} {ls : List xK} (hd : fd ≤ d) (hM : M ≠ 0) (hl : x_cats as ≤ xm_l (I M)) (h : x_ex fd code I n d M (0, x_ent 0 as, [], w, tk, 0, 0) = some ls) : x_Met PV cl I l d M as w tk ls := by
  intro V s1 s2 D ws tys vs sz has hw htk hPV
  refine Met.ofW (cc := xm_b (I M)) (maxL := xm_l (I M)) (ret := xm_r (I M)) (hT.2.2.1 M) rfl ?_
  intro p e s m args below meth c s₁ B hml hv
  obtain ⟨rfl, hsz, hP, hK, hD0, hEx⟩ := hv
  have hx := B.exec
  have hb := B.bytes
  have hr := B.returns
  have hts := atoms_spec (ws := x_ws (I M)) B.pre
  have hown : s.vm.findClass (xm_y (I M)).cls = some m.cls := findClass_of_methodNamed B.named
  have hlocks := B.notSynchronized
  have hin : meth.name = (xm_y (I M)).name := (name_of_methodNamed B.named B.method).1
  subst hsz
  have hD := hD0.self (sz := s.heap.size)
  have hA : ∀ q : Nat, s.heap.size ≤ q → va_A ws s.heap.size q := fun q h => Or.inr h
  rw [lg_entry_eq]
  have hle : (lg_sl vs).length ≤ xm_l (I M) := by rw [(x_cats_ok has).2]; exact hl
  refine hF d M _ ls h (D := D) (A := va_A ws s.heap.size) (H0 := s.heap) ⟨⟨hx, hb, hml, hown, fun w hw => hts w (List.mem_cons_of_mem _ hw)⟩, hin, rfl, rfl, by show 1 ≤ d; have := hT.1; omega, by show 32 ≤ 64 * d; have := hT.1; omega, hEx⟩ (Nat.le_refl d) (Nat.le_refl (64 * d)) hA (hT.2.2.2.1 M hM _ _ _ _ _ _ hd (Nat.mul_le_mul_left 64 hd) hPV) hPV ?_ _ [] s.heap [] ⟨lv_args 0 vs, ws, tys, lv_entry vs hle, x_ent_ok 0 has, trivial, hw, hK, hP, hD, va_S.rf, htk⟩
  intro t f k b lf hc hlf hmem ls' stk H locs hI
  obtain ⟨lv, ws', tys', h1, h2, h3, h4, h5, h6, h7, h8, h9⟩ := hI
  unfold x_ret at hlf
  cases hbb : (Nat.ble t.2.2.2.2.2.1 (xm_c (I M)) && Nat.ble t.2.2.2.2.2.2 (xm_s (I M))) with
  | false => rw [hbb] at hlf; cases hlf
  | true =>
    rw [hbb] at hlf
    simp only [Bool.and_eq_true] at hbb
    have hE := hT.2.1 M t.1
    rw [hc] at hE
    replace hE : x_Rt (xm_b (I M)) (xm_r (I M)) t.1 k := hE
    replace hlf : x_retv k t = some lf := hlf
    refine W.widen (k := xm_c (I M)) (n := xm_s (I M)) (Nat.le_of_ble_eq_true hbb.1) (Nat.le_of_ble_eq_true hbb.2) ?_
    have fin : ∀ (v : Option Value) (T : State), x_all2 (x_rel (ws'.map Prod.fst) V (s1, s2, ws.map Prod.fst)) lf.1 v.toList → lf.2.1 = t.2.2.2.1 → lf.2.2 = t.2.2.2.2.1 → T.heap = H → s.WarmedH T.vm → x_Q cl V (s1, s2, ws.map Prod.fst) D ws s.heap.size ls vs.toArray s (.returned v) T := by
      intro v T hr e1 e2 hTh hW
      exact ⟨⟨lf, hmem, v, ws', tys', rfl, hr, by rw [e1]; exact h4, va_K.moved hW.alike h5, by rw [hTh]; exact h6, h7, by rw [e2]; exact h9⟩, h8.F hTh⟩
    unfold x_retv at hlf
    split at hlf
    · rename_i hst
      cases hlf
      rw [hst] at h3
      match stk, h3 with
      | [], _ =>
        obtain ⟨g1, g2⟩ := hE
        exact W.vret hx hb (by rw [hr, g2]) (fun T hTh hW => fin none T trivial rfl rfl hTh hW) h8.2.2 g1
    · rename_i x hst
      cases hy : Nat.beq (x_ty x) 0 with
      | false => rw [hy] at hlf; cases hlf
      | true =>
        rw [hy] at hlf
        cases hlf
        rw [hst] at h3
        match stk, h3 with
        | [v], h3 =>
          obtain ⟨g1, g2⟩ := hE
          have hk := x_ty_ok h3.1
          rw [Nat.eq_of_beq_eq_true hy] at hk
          obtain ⟨z, rfl⟩ := hk
          exact W.iret hx hb (by rw [hr, g2]) (fun T hTh hW => fin (some (.int z)) T h3 rfl rfl hTh hW) h8.2.2 g1
    · rename_i x hst
      cases hy : Nat.beq (x_ty x) 1 with
      | false => rw [hy] at hlf; cases hlf
      | true =>
        rw [hy] at hlf
        cases hlf
        rw [hst] at h3
        match stk, h3 with
        | [v], h3 =>
          obtain ⟨g1, g2⟩ := hE
          have hk := x_ty_ok h3.1
          rw [Nat.eq_of_beq_eq_true hy] at hk
          obtain ⟨z, rfl⟩ := hk
          exact W.lret hx hb (by rw [hr, g2]) (fun T hTh hW => fin (some (.long z)) T h3 rfl rfl hTh hW) h8.2.2 g1
    · rename_i x hst
      cases hy : Nat.beq (x_ty x) 2 with
      | false => rw [hy] at hlf; cases hlf
      | true =>
        rw [hy] at hlf
        cases hlf
        rw [hst] at h3
        match stk, h3 with
        | [v], h3 =>
          obtain ⟨g1, rt, g2, g3⟩ := hE
          have hk := x_ty_ok h3.1
          rw [Nat.eq_of_beq_eq_true hy] at hk
          exact W.aret hx hb (by rw [hr, g2]) g3 hk (fun T hTh hW => fin (some v) T h3 rfl rfl hTh hW) h8.2.2 g1
    · rename_i x hst
      cases hy : x_pkb t.2.2.2.2.1 1 x with
      | false => rw [hy] at hlf; cases hlf
      | true =>
        rw [hy] at hlf
        cases hlf
        rw [hst] at h3
        match stk, h3 with
        | [v], h3 =>
          obtain ⟨g1, g2⟩ := hE
          have hk : v = .int 0 ∨ v = .int 1 := x_pkb_ok h9 h3.1 hy
          rcases hk with rfl | rfl
          · exact W.zret hx hb (by rw [hr, g2]) (by decide) (fun T hTh hW => fin (some (.int 0)) T h3 rfl rfl hTh hW) h8.2.2 g1
          · exact W.zret hx hb (by rw [hr, g2]) (by decide) (fun T hTh hW => fin (some (.int 1)) T h3 rfl rfl hTh hW) h8.2.2 g1
    · cases hlf
theorem x_frm (hT : x_Tab fd PV cl KK I code) : ∀ n, x_Frm fd PV cl KK I code l n := by
  intro n
  induction n with
  | zero => intro d M t Ls h; cases h
  | succ n ih =>
    intro d M t Ls h V sc p e R s m args below meth c D A H0 Q C hd hdl hA hK hPV hret
    unfold x_ex at h
    have hE := hT.2.1 M t.1
    split at h
    · rename_i f a b hc
      rw [hc] at hE
      replace hE : x_Snd cl (KK M) (xm_b (I M)) (xm_y (I M)).cls (xm_l (I M)) (xm_y (I M)).name (xm_c (I M)) (xm_s (I M)) t.1 f := hE
      split at h
      · rename_i t' hf
        refine hE C hA hK t [t'] rfl hf (fun t2 h2 => ?_)
        rw [List.mem_singleton] at h2
        subst h2
        exact ih d M t2 Ls h C hd hdl hA hK hPV hret
      · rename_i l' hne hf
        refine hE C hA hK t l' rfl hf (fun t2 h2 => ?_)
        obtain ⟨a', ha, hin⟩ := x_each_in h t2 h2
        exact ih d M t2 a' ha C hd hdl hA hK hPV (fun t3 f3 k3 b3 lf3 e1 e2 e3 => hret t3 f3 k3 b3 lf3 e1 e2 (hin _ e3))
      · cases h
    · rename_i f k b hc
      split at h
      · rename_i lf hlf
        cases h
        exact hret t f k b lf hc hlf (List.mem_singleton.mpr rfl)
      · cases h
    · rename_i f M' na hc
      rw [hc] at hE
      obtain ⟨h64, hE⟩ : x_Cl (xm_b (I M)) (xm_y (I M)).cls (xm_l (I M)) (xm_y (I M)).name (xm_c (I M)) (xm_s (I M)) t.1 (I M') na := hE
      cases d with
      | zero => cases h
      | succ d' =>
        simp only at h
        cases hb : x_may_call fd d' t M' na (I M) (I M') (t.2.2.1.take na).reverse (t.2.2.1.drop na) with
        | false => rw [hb] at h; cases h
        | true =>
          rw [hb] at h
          simp only [cond_true] at h
          unfold x_may_call at hb
          simp only [Bool.and_eq_true] at hb
          obtain ⟨b1, b2, b3, b4, b5, b6, b7, b8⟩ := hb
          have b1 := Nat.le_of_ble_eq_true b1
          have b2 := Nat.le_of_ble_eq_true b2
          have b3 := Nat.le_of_ble_eq_true b3
          have b4 := Nat.le_of_ble_eq_true b4
          have b5 := Nat.le_of_ble_eq_true b5
          have b6 := Nat.le_of_ble_eq_true b6
          have b7 := Nat.le_of_ble_eq_true b7
          have key : ∀ ls : List xK, x_ex fd code I n d' M' (0, x_ent 0 (t.2.2.1.take na).reverse, [], t.2.2.2.1, t.2.2.2.2.1, 0, 0) = some ls → (∀ lf ∈ ls, x_Good cl V sc (xm_l (I M)) p l e R s m args below meth c D A H0 Q (x_back t (t.2.2.1.drop na) (I M') lf)) → x_Good cl V sc (xm_l (I M)) p l e R s m args below meth c D A H0 Q t := by
            intro ls hls hgo lsl stk H locs hI
            obtain ⟨lv, ws, tys, h1, h2, h3, h4, h5, h6, h7, h8, h9⟩ := hI
            have hsp := x_split na h3
            have hargs := x_all2_rev hsp.1
            have hM := x_met_of hT ih (l := l) b1 (by omega) b5 hls V sc.1 sc.2.1 D ws tys (stk.take na).reverse H.size
              (x_all2_imp (fun a v hh => x_rel_sc rfl rfl hh) hargs)
              ⟨h4.1, ⟨[], by simp⟩, fun k x q hx hq => x_cell_sc rfl rfl (h4.2.2 k x q hx hq)⟩ h9 hPV
            have hlen : stk.length = t.2.2.1.length := (x_all2_len h3).symm
            have hvA : ∀ q : Nat, va_A ws H.size q → A q := by
              intro q hq
              rcases hq with ⟨k, e9, hk⟩ | hq
              · exact h7.2 k _ hk
              · exact hA q (Nat.le_trans h8.1 hq)
            have hrun := hE (e := e) (below := below) C (H := H) (locs := locs) (cells := t.2.2.2.2.2.1) (slots := t.2.2.2.2.2.2) (ls := lsl) (rest := stk.drop na) hM
              (fun a U g mk q => by obtain ⟨q0, q1, qP, qK, qD, qE⟩ := q; exact ⟨q0, q1, qP, va_K.moved (u := U) (U := U.calling g mk a) (Vm.Alike.refl U.vm) qK, qD, qE.same (U := U.calling g mk a) rfl⟩)
              (fun U hU hW => ⟨rfl, by rw [hU], by rw [hU]; exact h6, va_K.moved hW.alike h5, h7.weaken (fun _ _ _ _ => trivial), C.2.2.2.2.2.2.warm hW⟩)
              (by
                by_cases ho : xm_o (I M') = 999
                · exact Or.inl ho
                · refine Or.inr ?_
                  unfold x_rcv at b8
                  rw [x_nb ho] at b8
                  simp only [cond_false] at b8
                  split at b8
                  · rename_i j jb as' has'
                    split at b8
                    · rename_i c9 r9 hcell
                      have e9 := Nat.eq_of_beq_eq_true b8
                      rw [has'] at hargs
                      match hv : (stk.take na).reverse, hargs with
                      | v :: As, hargs =>
                        obtain ⟨a, ee, hq, rfl, hcc⟩ := x_ref h4 hargs.1 hcell
                        obtain ⟨fs, rfl, -, -⟩ := hcc
                        obtain ⟨r, hr1, hr2⟩ := hT.2.2.2.2 M' ho
                        rw [← e9] at hr1
                        obtain ⟨cellB, k1, k2, k3⟩ := va_recv h5 h6 hr1 hq
                        exact ⟨a, As, rfl, cellB, k1, k2, by rw [← hr2]; exact k3⟩
                    · cases b8
                  · cases b8)
              (by rw [List.length_reverse, List.length_take, hlen]; omega) rfl rfl (by show d' + 1 ≤ R.frames; omega) (by show 8 + (xm_l (I M') + 11) + 64 * d' ≤ R.locals; omega) h1.1
              (by rw [(x_cats_ok hsp.2).1]; exact b4) ⟨by rw [C.2.2.1]; exact b6, by rw [C.2.2.2.1]; exact b7⟩
            rw [List.reverse_reverse, List.take_append_drop] at hrun
            refine x_after hrun h8 (fun st v T hq => hq.2) (fun q _ h => hvA q h) hvA (fun v st T H1 locs1 hTh hal hq hS1 => ?_)
            obtain ⟨⟨lf, hlf, v', ws', tys', ev, hr, hw', hK', hP', hD', htk⟩, hFr⟩ := hq
            cases ev
            obtain ⟨l9, e9⟩ := hw'.2.1
            have e9 : ws'.map Prod.fst = ws.map Prod.fst ++ l9 := e9
            refine hgo lf hlf lsl (v.toList ++ stk.drop na) H1 locs1 ⟨lv, ws', tys', h1, ?_, ?_, ⟨hw'.1, ?_, fun k x q hx hq => x_cell_sc rfl rfl (hw'.2.2 k x q hx hq)⟩, va_K.moved hal.symm hK', by rw [← hTh]; exact hP', hD'.weaken (fun _ q _ h => hvA q.1 h), hS1, htk⟩
            · rw [e9]; exact x_lv_app h2
            · refine x_all2_app (x_all2_imp (fun a v hh => x_rel_sc rfl rfl hh) hr) ?_
              rw [e9]; exact x_stk_app hsp.2
            · obtain ⟨l0, e0⟩ := h4.2.1
              exact ⟨l0 ++ l9, by rw [e9, e0, List.append_assoc]⟩
          split at h
          · rename_i lf hls
            refine key [lf] hls (fun lf2 h2 => ?_)
            rw [List.mem_singleton] at h2
            subst h2
            exact ih (d' + 1) M _ Ls h C hd hdl hA hK hPV hret
          · rename_i ls hne hls
            refine key ls hls (fun lf2 h2 => ?_)
            obtain ⟨a', ha, hin⟩ := x_each_in h _ (List.mem_map_of_mem h2)
            exact ih (d' + 1) M _ a' ha C hd hdl hA hK hPV (fun t3 f3 k3 b3 lf3 e1 e2 e3 => hret t3 f3 k3 b3 lf3 e1 e2 (hin _ e3))
          · cases h
    · cases h
end X10
end
section
/-! rows of the tables: an instruction's decoding gives its trust -/
theorem x_c {z : Int} {v : Int32} (h : v.toInt = z) : ∀ ad V sc, x_rel ad V sc (0, z, z) (.int v) := fun _ _ _ => ⟨v, rfl, by rw [h]; exact Int.le_refl z, by rw [h]; exact Int.le_refl z⟩
theorem x_cL {z : Int} {v : Int64} (h : v.toInt = z) : ∀ ad V sc, x_rel ad V sc (4, z, z) (.long v) := fun _ _ _ => ⟨v, rfl, by rw [h]; exact Int.le_refl z, by rw [h]; exact Int.le_refl z⟩
theorem x_lin {u v c : Int} (h1 : u ≤ c) (h2 : c ≤ v) (k : Int) : x_min (u * k) (v * k) ≤ c * k ∧ c * k ≤ x_max (u * k) (v * k) := by
  rcases Int.le_total 0 k with hk | hk
  · exact ⟨x_min_l (Int.mul_le_mul_of_nonneg_right h1 hk), x_max_r (Int.mul_le_mul_of_nonneg_right h2 hk)⟩
  · exact ⟨x_min_r (Int.mul_le_mul_of_nonpos_right h2 hk), x_max_l (Int.mul_le_mul_of_nonpos_right h1 hk)⟩
def xF_add (a b : Int × Int) : Option xV := some (x_I (a.1 + b.1) (a.2 + b.2))
def xF_sub (a b : Int × Int) : Option xV := some (x_I (a.1 - b.2) (a.2 - b.1))
def xF_mul (a b : Int × Int) : Option xV := some (x_I (x_min (x_min (a.1 * b.1) (a.2 * b.1)) (x_min (a.1 * b.2) (a.2 * b.2))) (x_max (x_max (a.1 * b.1) (a.2 * b.1)) (x_max (a.1 * b.2) (a.2 * b.2))))
def xF_neg (a : Int × Int) : xV := x_I (-a.2) (-a.1)
def xF_and63 (_ b : Int × Int) : Option xV := bif decide (b.1 = 63) && decide (b.2 = 63) then some (0, 0, 63) else none
def xF_any (_ _ : Int × Int) : Option xV := some x_any
def xF_byte (a : Int × Int) : xV := bif decide (-128 ≤ a.1) && decide (a.2 ≤ 127) then (0, a) else (0, -128, 127)
theorem x_corner {a1 a2 b1 b2 x y : Int} (h1 : a1 ≤ x) (h2 : x ≤ a2) (h3 : b1 ≤ y) (h4 : y ≤ b2) : x_min (x_min (a1 * b1) (a2 * b1)) (x_min (a1 * b2) (a2 * b2)) ≤ x * y ∧ x * y ≤ x_max (x_max (a1 * b1) (a2 * b1)) (x_max (a1 * b2) (a2 * b2)) := by
  obtain ⟨p1, p2⟩ := x_lin h1 h2 b1
  obtain ⟨q1, q2⟩ := x_lin h1 h2 b2
  obtain ⟨r1, r2⟩ := x_lin h3 h4 x
  rw [Int.mul_comm y x, Int.mul_comm b1 x, Int.mul_comm b2 x] at r1 r2
  constructor
  · refine Int.le_trans ?_ r1
    exact x_le_min (x_min_l p1) (x_min_r q1)
  · refine Int.le_trans r2 ?_
    exact x_max_le (x_max_l p2) (x_max_r q2)
section X11
variable {cl : List vw_C} {K : xKx} {cc : ByteArray} {own : String} {nL : Nat} {nm : String} {MC MS pc : Nat}
theorem xr_iconst {n z : Int} {v : Int32} (d : decode cc pc = .ok (.iconst n, 1)) (hv : Int32.ofInt n = v) (hz : v.toInt = z) : x_Snd cl K cc own nL nm MC MS pc (xi_push (0, z, z) (pc + 1)) := xi_push_ok (fun S => fun k => lv_iconst S.1 S.2.1 d hv k) (x_c hz)
theorem xr_bipush {n z : Int} {v : Int32} (d : decode cc pc = .ok (.bipush n, 2)) (hv : (Int8.ofInt n).toInt32 = v) (hz : v.toInt = z) : x_Snd cl K cc own nL nm MC MS pc (xi_push (0, z, z) (pc + 2)) := xi_push_ok (fun S => fun k => lv_bipush S.1 S.2.1 d hv k) (x_c hz)
theorem xr_sipush {n z : Int} {v : Int32} (d : decode cc pc = .ok (.sipush n, 3)) (hv : (Int16.ofInt n).toInt32 = v) (hz : v.toInt = z) : x_Snd cl K cc own nL nm MC MS pc (xi_push (0, z, z) (pc + 3)) := xi_push_ok (fun S => fun k => lv_sipush S.1 S.2.1 d hv k) (x_c hz)
theorem xr_ldc {ix : Nat} {z : Int} {v : Int32} (d : decode cc pc = .ok (.ldc ix, 2)) (hw : Cond.constant own ix v ∈ x_tbl) (hz : v.toInt = z) : x_Snd cl K cc own nL nm MC MS pc (xi_push (0, z, z) (pc + 2)) := xi_push_ok (fun S => fun k => lv_ldc S.1 S.2.1 S.2.2.2.1 (S.2.2.2.2 _ hw) d k) (x_c hz)
theorem xr_ldcw {ix : Nat} {z : Int} {v : Int32} (d : decode cc pc = .ok (.ldc_w ix, 3)) (hw : Cond.constant own ix v ∈ x_tbl) (hz : v.toInt = z) : x_Snd cl K cc own nL nm MC MS pc (xi_push (0, z, z) (pc + 3)) := xi_push_ok (fun S => fun k => lv_ldcw S.1 S.2.1 S.2.2.2.1 (S.2.2.2.2 _ hw) d k) (x_c hz)
theorem xr_ldc2 {ix : Nat} {z : Int} {v : Int64} (d : decode cc pc = .ok (.ldc2_w ix, 3)) (hw : Cond.constantLong own ix v ∈ x_tbl) (hz : v.toInt = z) : x_Snd cl K cc own nL nm MC MS pc (xi_push (4, z, z) (pc + 3)) := xi_push_ok (fun S => fun k => lv_ldc2 S.1 S.2.1 S.2.2.2.1 (S.2.2.2.2 _ hw) d k) (x_cL hz)
theorem xr_lconst {n : Fin 2} {z : Int} {v : Int64} (d : decode cc pc = .ok (.lconst n, 1)) (hv : Int64.ofNat n = v) (hz : v.toInt = z) : x_Snd cl K cc own nL nm MC MS pc (xi_push (4, z, z) (pc + 1)) := xi_push_ok (fun S => fun k => lv_lconst S.1 S.2.1 d hv k) (x_cL hz)
theorem xr_null (d : decode cc pc = .ok (.aconst_null, 1)) : x_Snd cl K cc own nL nm MC MS pc (xi_push (2, 0, 0) (pc + 1)) := xi_push_ok (x := (2, 0, 0)) (v := .null) (fun S => fun k => lv_null S.1 S.2.1 d k) (fun _ _ _ => rfl)
theorem xr_iload_n {i : Fin 4} (d : decode cc pc = .ok (.iload_n i, 1)) : x_Snd cl K cc own nL nm MC MS pc (xi_load i 0 (pc + 1)) := xi_load_ok (fun S => fun hl hk k => by obtain ⟨n, rfl⟩ := hk; exact lv_iload_n S.1 S.2.1 d rfl hl k)
theorem xr_iload {i : Nat} (d : decode cc pc = .ok (.iload i, 2)) : x_Snd cl K cc own nL nm MC MS pc (xi_load i 0 (pc + 2)) := xi_load_ok (fun S => fun hl hk k => by obtain ⟨n, rfl⟩ := hk; exact lv_iload S.1 S.2.1 d hl k)
theorem xr_lload_n {i : Fin 4} (d : decode cc pc = .ok (.lload_n i, 1)) : x_Snd cl K cc own nL nm MC MS pc (xi_load i 1 (pc + 1)) := xi_load_ok (fun S => fun hl hk k => by obtain ⟨n, rfl⟩ := hk; exact lv_lload_n S.1 S.2.1 d rfl hl k)
theorem xr_lload {i : Nat} (d : decode cc pc = .ok (.lload i, 2)) : x_Snd cl K cc own nL nm MC MS pc (xi_load i 1 (pc + 2)) := xi_load_ok (fun S => fun hl hk k => by obtain ⟨n, rfl⟩ := hk; exact lv_lload S.1 S.2.1 d hl k)
theorem xr_aload_n {i : Fin 4} (d : decode cc pc = .ok (.aload_n i, 1)) : x_Snd cl K cc own nL nm MC MS pc (xi_load i 2 (pc + 1)) := xi_load_ok (fun S => fun hl hk k => by rcases hk with rfl | ⟨a, rfl⟩; exact lv_aload_nN S.1 S.2.1 d rfl hl k; exact lv_aload_n S.1 S.2.1 d rfl hl k)
theorem xr_aload {i : Nat} (d : decode cc pc = .ok (.aload i, 2)) : x_Snd cl K cc own nL nm MC MS pc (xi_load i 2 (pc + 2)) := xi_load_ok (fun S => fun hl hk k => by rcases hk with rfl | ⟨a, rfl⟩; exact lv_aloadN S.1 S.2.1 d hl k; exact lv_aload S.1 S.2.1 d hl k)
theorem xr_istore_n {i : Fin 4} (d : decode cc pc = .ok (.istore_n i, 1)) (hn : (i : Nat) < nL) : x_Snd cl K cc own nL nm MC MS pc (xi_stor i 0 (pc + 1)) := xi_stor_ok (fun S => fun hl hk k => by obtain ⟨n, rfl⟩ := hk; exact lv_istore_n S.1 S.2.1 d rfl hl hn rfl k)
theorem xr_istore {i : Nat} (d : decode cc pc = .ok (.istore i, 2)) (hn : i < nL) : x_Snd cl K cc own nL nm MC MS pc (xi_stor i 0 (pc + 2)) := xi_stor_ok (fun S => fun hl hk k => by obtain ⟨n, rfl⟩ := hk; exact lv_istore S.1 S.2.1 d hl hn rfl k)
theorem xr_lstore_n {i : Fin 4} (d : decode cc pc = .ok (.lstore_n i, 1)) (hn : (i : Nat) + 1 < nL) : x_Snd cl K cc own nL nm MC MS pc (xi_stor i 1 (pc + 1)) := xi_stor_ok (fun S => fun hl hk k => by obtain ⟨n, rfl⟩ := hk; exact lv_lstore_n S.1 S.2.1 d rfl hl hn rfl k)
theorem xr_lstore {i : Nat} (d : decode cc pc = .ok (.lstore i, 2)) (hn : i + 1 < nL) : x_Snd cl K cc own nL nm MC MS pc (xi_stor i 1 (pc + 2)) := xi_stor_ok (fun S => fun hl hk k => by obtain ⟨n, rfl⟩ := hk; exact lv_lstore S.1 S.2.1 d hl hn rfl k)
theorem xr_astore_n {i : Fin 4} (d : decode cc pc = .ok (.astore_n i, 1)) (hn : (i : Nat) < nL) : x_Snd cl K cc own nL nm MC MS pc (xi_stor i 2 (pc + 1)) := xi_stor_ok (fun S => fun hl hk k => by rcases hk with rfl | ⟨a, rfl⟩; exact lv_astore_nN S.1 S.2.1 d rfl hl hn rfl k; exact lv_astore_n S.1 S.2.1 d rfl hl hn rfl k)
theorem xr_astore {i : Nat} (d : decode cc pc = .ok (.astore i, 2)) (hn : i < nL) : x_Snd cl K cc own nL nm MC MS pc (xi_stor i 2 (pc + 2)) := xi_stor_ok (fun S => fun hl hk k => by rcases hk with rfl | ⟨a, rfl⟩; exact lv_astoreN S.1 S.2.1 d hl hn rfl k; exact lv_astore S.1 S.2.1 d hl hn rfl k)
theorem xr_iinc {i : Nat} {n : Int} (d : decode cc pc = .ok (.iinc i n, 3)) (hn : i < nL) (hz : -2147483648 ≤ n ∧ n ≤ 2147483647) : x_Snd cl K cc own nL nm MC MS pc (xi_inc i n (pc + 3)) := xi_inc_ok hz (fun S => fun hl hk k => lv_iinc S.1 S.2.1 d hl hk rfl hn rfl k)
theorem xr_goto {off : Int} {tg : Nat} (d : decode cc pc = .ok (.goto off, 3)) (ht : (pc : Int) + off = (tg : Int)) : x_Snd cl K cc own nL nm MC MS pc (xi_goto tg) := xi_goto_ok (fun S => fun k => lv_goto S.1 S.2.1 d ht k)
theorem xr_iadd (d : decode cc pc = .ok (.iadd, 1)) : x_Snd cl K cc own nL nm MC MS pc (xi_bin xF_add (pc + 1)) := xi_bin_ok (g := fun x y => x + y) (fun _ => True) (fun x y _ => (fun S => fun k => lv_iadd S.1 S.2.1 d k)) (fun a b z x y h h1 h2 h3 h4 => ⟨trivial, fun ad V sc => by cases h; exact x_I_ok (Int32.toInt_add x y) (by omega) (by omega)⟩)
theorem xr_isub (d : decode cc pc = .ok (.isub, 1)) : x_Snd cl K cc own nL nm MC MS pc (xi_bin xF_sub (pc + 1)) := xi_bin_ok (g := fun x y => x - y) (fun _ => True) (fun x y _ => (fun S => fun k => lv_isub S.1 S.2.1 d k)) (fun a b z x y h h1 h2 h3 h4 => ⟨trivial, fun ad V sc => by cases h; exact x_I_ok (Int32.toInt_sub x y) (by omega) (by omega)⟩)
theorem xr_imul (d : decode cc pc = .ok (.imul, 1)) : x_Snd cl K cc own nL nm MC MS pc (xi_bin xF_mul (pc + 1)) := xi_bin_ok (g := fun x y => x * y) (fun _ => True) (fun x y _ => (fun S => fun k => lv_imul S.1 S.2.1 d k)) (fun a b z x y h h1 h2 h3 h4 => ⟨trivial, fun ad V sc => by cases h; exact x_I_ok (Int32.toInt_mul x y) (x_corner h1 h2 h3 h4).1 (x_corner h1 h2 h3 h4).2⟩)
theorem xr_iand (d : decode cc pc = .ok (.iand, 1)) : x_Snd cl K cc own nL nm MC MS pc (xi_bin xF_and63 (pc + 1)) := xi_bin_ok (g := fun x y => x &&& y) (fun _ => True) (fun x y _ => (fun S => fun k => lv_iand S.1 S.2.1 d k)) (fun a b z x y h h1 h2 h3 h4 => ⟨trivial, fun ad V sc => by
  unfold xF_and63 at h
  cases hb : (decide (b.1 = 63) && decide (b.2 = 63)) with
  | false => rw [hb] at h; cases h
  | true =>
    rw [hb] at h
    cases h
    simp only [Bool.and_eq_true, decide_eq_true_eq] at hb
    have e : y = 63 := Int32.toInt_inj.mp (by rw [show (63 : Int32).toInt = 63 from by decide]; omega)
    subst e
    obtain ⟨j, hj, ej⟩ := pk_andE x (m := 63) 6 (by decide)
    have e2 : (x &&& 63).toInt = j := by rw [ej]; exact nI_toInt (by omega)
    exact ⟨_, rfl, by show (0 : Int) ≤ _; omega, by show _ ≤ (63 : Int); omega⟩⟩)
theorem xr_ishr (d : decode cc pc = .ok (.ishr, 1)) : x_Snd cl K cc own nL nm MC MS pc (xi_bin xF_any (pc + 1)) := xi_bin_ok (g := fun x y => x >>> (y &&& 31)) (fun _ => True) (fun x y _ => (fun S => fun k => lv_ishr S.1 S.2.1 d k)) (fun a b z x y h h1 h2 h3 h4 => ⟨trivial, fun ad V sc => by cases h; exact x_any_ok _⟩)
theorem xr_ineg (d : decode cc pc = .ok (.ineg, 1)) : x_Snd cl K cc own nL nm MC MS pc (xi_un xF_neg (pc + 1)) := xi_un_ok (g := fun x => .int (-x)) (fun x => (fun S => fun k => lv_ineg S.1 S.2.1 d k)) (fun a x h1 h2 ad V sc => x_I_ok (Int32.toInt_neg x) (by omega) (by omega))
theorem xr_i2b (d : decode cc pc = .ok (.i2b, 1)) : x_Snd cl K cc own nL nm MC MS pc (xi_un xF_byte (pc + 1)) := xi_un_ok (g := fun x => .int x.toInt8.toInt32) (fun x => (fun S => fun k => lv_i2b S.1 S.2.1 d rfl k)) (fun a x h1 h2 ad V sc => by
  have h := (x_nrw_ok (ad := ad) (V := V) (sc := sc) (kd := 2) (x := (0, a)) (b := a) (n := x) ⟨x, rfl, h1, h2⟩ h1 h2).1
  unfold x_nrw at h
  unfold xF_byte
  cases hb : (decide (-128 ≤ a.1) && decide (a.2 ≤ 127)) with
  | true => rw [hb] at h; exact h
  | false => rw [hb] at h; exact h)
theorem xr_i2l (d : decode cc pc = .ok (.i2l, 1)) : x_Snd cl K cc own nL nm MC MS pc (xi_i2l (pc + 1)) := xi_i2l_ok (fun x => (fun S => fun k => lv_i2l S.1 S.2.1 d rfl k))
theorem xr_lcmp (d : decode cc pc = .ok (.lcmp, 1)) : x_Snd cl K cc own nL nm MC MS pc (xi_lcmp (pc + 1)) := xi_lcmp_ok (fun x y => (fun S => fun k => W.lcmp S.1 S.2.1 d k))
def xF_addL (a b : Int × Int) : Option xV := some (x_J (a.1 + b.1) (a.2 + b.2))
def xF_subL (a b : Int × Int) : Option xV := some (x_J (a.1 - b.2) (a.2 - b.1))
theorem xr_ladd (d : decode cc pc = .ok (.ladd, 1)) : x_Snd cl K cc own nL nm MC MS pc (xi_binL xF_addL (pc + 1)) := xi_binL_ok (g := fun x y => x + y) (fun _ => True) (fun x y _ => (fun S => fun k => lv_ladd S.1 S.2.1 d k)) (fun a b z x y h h1 h2 h3 h4 => ⟨trivial, fun ad V sc => by cases h; exact x_J_ok (Int64.toInt_add x y) (by omega) (by omega)⟩)
theorem xr_lsub (d : decode cc pc = .ok (.lsub, 1)) : x_Snd cl K cc own nL nm MC MS pc (xi_binL xF_subL (pc + 1)) := xi_binL_ok (g := fun x y => x - y) (fun _ => True) (fun x y _ => (fun S => fun k => lv_lsub S.1 S.2.1 d k)) (fun a b z x y h h1 h2 h3 h4 => ⟨trivial, fun ad V sc => by cases h; exact x_J_ok (Int64.toInt_sub x y) (by omega) (by omega)⟩)
theorem x_le32 {x y : Int32} : x ≤ y ↔ x.toInt ≤ y.toInt := Int32.le_iff_toInt_le
theorem x_lt32 {x y : Int32} : x < y ↔ x.toInt < y.toInt := Int32.lt_iff_toInt_lt
theorem x_eq32 {x y : Int32} : x = y ↔ x.toInt = y.toInt := Int32.toInt_inj.symm
theorem xr_icmpeq {off : Int} {tg : Nat} (d : decode cc pc = .ok (.if_icmp .eq off, 3)) (ht : (pc : Int) + off = (tg : Int)) : x_Snd cl K cc own nL nm MC MS pc (xi_if2 0 tg (pc + 3)) := xi_if2_ok (k := 0) (fun S => fun kt kf => lv_icmp_eq S.1 S.2.1 d ht (fun h => kt (x_eq32.mp h)) (fun h => kf (fun q => h (x_eq32.mpr q))))
theorem xr_icmpne {off : Int} {tg : Nat} (d : decode cc pc = .ok (.if_icmp .ne off, 3)) (ht : (pc : Int) + off = (tg : Int)) : x_Snd cl K cc own nL nm MC MS pc (xi_if2 1 tg (pc + 3)) := xi_if2_ok (k := 1) (fun S => fun kt kf => lv_icmp_ne S.1 S.2.1 d ht (fun h => kt (fun q => h (x_eq32.mpr q))) (fun h => kf (fun q => q (x_eq32.mp h))))
theorem xr_icmplt {off : Int} {tg : Nat} (d : decode cc pc = .ok (.if_icmp .lt off, 3)) (ht : (pc : Int) + off = (tg : Int)) : x_Snd cl K cc own nL nm MC MS pc (xi_if2 2 tg (pc + 3)) := xi_if2_ok (k := 2) (fun S => fun kt kf => lv_icmp_lt S.1 S.2.1 d ht (fun h => kt (x_lt32.mp h)) (fun h => kf (fun q => h (x_lt32.mpr q))))
theorem xr_icmpge {off : Int} {tg : Nat} (d : decode cc pc = .ok (.if_icmp .ge off, 3)) (ht : (pc : Int) + off = (tg : Int)) : x_Snd cl K cc own nL nm MC MS pc (xi_if2 3 tg (pc + 3)) := xi_if2_ok (k := 3) (fun S => fun kt kf => lv_icmp_ge S.1 S.2.1 d ht (fun h => kt (x_le32.mp h)) (fun h => kf (fun q => h (x_le32.mpr q))))
theorem xr_icmpgt {off : Int} {tg : Nat} (d : decode cc pc = .ok (.if_icmp .gt off, 3)) (ht : (pc : Int) + off = (tg : Int)) : x_Snd cl K cc own nL nm MC MS pc (xi_if2 4 tg (pc + 3)) := xi_if2_ok (k := 4) (fun S => fun kt kf => lv_icmp_gt S.1 S.2.1 d ht (fun h => kt (x_lt32.mp h)) (fun h => kf (fun q => h (x_lt32.mpr q))))
theorem xr_icmple {off : Int} {tg : Nat} (d : decode cc pc = .ok (.if_icmp .le off, 3)) (ht : (pc : Int) + off = (tg : Int)) : x_Snd cl K cc own nL nm MC MS pc (xi_if2 5 tg (pc + 3)) := xi_if2_ok (k := 5) (fun S => fun kt kf => lv_icmp_le S.1 S.2.1 d ht (fun h => kt (x_le32.mp h)) (fun h => kf (fun q => h (x_le32.mpr q))))
theorem x_z : (0 : Int32).toInt = 0 := by decide
theorem x_eq0 {x : Int32} : x = 0 ↔ x.toInt = 0 := by rw [x_eq32, x_z]
theorem x_lt0 {x : Int32} : x < 0 ↔ x.toInt < 0 := by rw [x_lt32, x_z]
theorem x_gt0 {x : Int32} : 0 < x ↔ 0 < x.toInt := by rw [x_lt32, x_z]
theorem x_le0 {x : Int32} : x ≤ 0 ↔ x.toInt ≤ 0 := by rw [x_le32, x_z]
theorem x_ge0 {x : Int32} : 0 ≤ x ↔ 0 ≤ x.toInt := by rw [x_le32, x_z]
theorem xr_ifeq {off : Int} {tg : Nat} (d : decode cc pc = .ok (.ifCond .eq off, 3)) (ht : (pc : Int) + off = (tg : Int)) : x_Snd cl K cc own nL nm MC MS pc (xi_if1 0 tg (pc + 3)) := xi_if1_ok (k := 0) (fun S => fun kt kf => lv_if_eq S.1 S.2.1 d ht (fun h => kt (x_eq0.mp h)) (fun h => kf (fun q => h (x_eq0.mpr q))))
theorem xr_ifne {off : Int} {tg : Nat} (d : decode cc pc = .ok (.ifCond .ne off, 3)) (ht : (pc : Int) + off = (tg : Int)) : x_Snd cl K cc own nL nm MC MS pc (xi_if1 1 tg (pc + 3)) := xi_if1_ok (k := 1) (fun S => fun kt kf => lv_if_ne S.1 S.2.1 d ht (fun h => kt (fun q => h (x_eq0.mpr q))) (fun h => kf (fun q => q (x_eq0.mp h))))
theorem xr_iflt {off : Int} {tg : Nat} (d : decode cc pc = .ok (.ifCond .lt off, 3)) (ht : (pc : Int) + off = (tg : Int)) : x_Snd cl K cc own nL nm MC MS pc (xi_if1 2 tg (pc + 3)) := xi_if1_ok (k := 2) (fun S => fun kt kf => lv_if_lt S.1 S.2.1 d ht (fun h => kt (x_lt0.mp h)) (fun h => kf (fun q => h (x_lt0.mpr q))))
theorem xr_ifge {off : Int} {tg : Nat} (d : decode cc pc = .ok (.ifCond .ge off, 3)) (ht : (pc : Int) + off = (tg : Int)) : x_Snd cl K cc own nL nm MC MS pc (xi_if1 3 tg (pc + 3)) := xi_if1_ok (k := 3) (fun S => fun kt kf => lv_if_ge S.1 S.2.1 d ht (fun h => kt (x_ge0.mp h)) (fun h => kf (fun q => h (x_ge0.mpr q))))
theorem xr_ifgt {off : Int} {tg : Nat} (d : decode cc pc = .ok (.ifCond .gt off, 3)) (ht : (pc : Int) + off = (tg : Int)) : x_Snd cl K cc own nL nm MC MS pc (xi_if1 4 tg (pc + 3)) := xi_if1_ok (k := 4) (fun S => fun kt kf => lv_if_gt S.1 S.2.1 d ht (fun h => kt (x_gt0.mp h)) (fun h => kf (fun q => h (x_gt0.mpr q))))
theorem xr_ifle {off : Int} {tg : Nat} (d : decode cc pc = .ok (.ifCond .le off, 3)) (ht : (pc : Int) + off = (tg : Int)) : x_Snd cl K cc own nL nm MC MS pc (xi_if1 5 tg (pc + 3)) := xi_if1_ok (k := 5) (fun S => fun kt kf => lv_if_le S.1 S.2.1 d ht (fun h => kt (x_le0.mp h)) (fun h => kf (fun q => h (x_le0.mpr q))))
theorem xr_dup (d : decode cc pc = .ok (.dup, 1)) : x_Snd cl K cc own nL nm MC MS pc (xi_stk xf_dup (pc + 1)) := xf_dup_ok (fun v h => (fun S => fun k => lv_dup S.1 S.2.1 d h k))
theorem xr_pop (d : decode cc pc = .ok (.pop, 1)) : x_Snd cl K cc own nL nm MC MS pc (xi_stk xf_pop (pc + 1)) := xf_pop_ok (fun v h => (fun S => fun k => lv_pop S.1 S.2.1 d h k))
theorem xr_dup2 (d : decode cc pc = .ok (.dup2, 1)) : x_Snd cl K cc own nL nm MC MS pc (xi_stk xf_dup2 (pc + 1)) := xf_dup2_ok (fun v u h h' => (fun S => fun k => lv_dup2_11 S.1 S.2.1 d h h' k))
theorem xr_dup_x1 (d : decode cc pc = .ok (.dup_x1, 1)) : x_Snd cl K cc own nL nm MC MS pc (xi_stk xf_dupx1 (pc + 1)) := xf_dupx1_ok (fun v u h h' => (fun S => fun k => lv_dup_x1 S.1 S.2.1 d h h' k))
theorem xr_dup_x2 (d : decode cc pc = .ok (.dup_x2, 1)) : x_Snd cl K cc own nL nm MC MS pc (xi_stk xf_dupx2 (pc + 1)) := xf_dupx2_ok (fun v u w h h' h'' => (fun S => fun k => lv_dup_x2 S.1 S.2.1 d h h' h'' k))
theorem xr_iaload (d : decode cc pc = .ok (.iaload, 1)) : x_Snd cl K cc own nL nm MC MS pc (xi_ald false (pc + 1)) := xi_ald_ok (fun kd hk => by
  have e := Nat.eq_of_beq_eq_true hk
  subst e
  intro p l e R s m args below meth c C H locs cells slots Q ls rest D tys ws a q0 t0 n cA f i h1 h2 h3 h4 h5 k
  exact va_iald C.1.1 C.1.2.1 h1 h2 _ _ h3 h4 h5 d k)
theorem xr_baload (d : decode cc pc = .ok (.baload, 1)) : x_Snd cl K cc own nL nm MC MS pc (xi_ald true (pc + 1)) := xi_ald_ok (fun kd hk => by
  unfold x_akd at hk
  simp only [Bool.or_eq_true] at hk
  rcases hk with hk | hk
  · have e := Nat.eq_of_beq_eq_true hk
    subst e
    intro p l e R s m args below meth c C H locs cells slots Q ls rest D tys ws a q0 t0 n cA f i h1 h2 h3 h4 h5 k
    exact va_bald C.1.1 C.1.2.1 h1 h2 _ _ h3 h4 h5 d k
  · have e := Nat.eq_of_beq_eq_true hk
    subst e
    intro p l e R s m args below meth c C H locs cells slots Q ls rest D tys ws a q0 t0 n cA f i h1 h2 h3 h4 h5 k
    exact va_zald C.1.1 C.1.2.1 h1 h2 _ _ h3 h4 h5 d k)
theorem xr_iastore (d : decode cc pc = .ok (.iastore, 1)) : x_Snd cl K cc own nL nm MC MS pc (xi_ast false (pc + 1)) := xi_ast_ok (fun kd hk => by
  have e := Nat.eq_of_beq_eq_true hk
  subst e
  intro p l e R s m args below meth c C H H0 locs cells slots Q ls rest D A tys ws a q0 t0 n cA f i x h1 h2 h6 h7 h3 h4 h5 k
  exact va_iast C.1.1 C.1.2.1 h1 h2 h6 h7 _ _ h3 h4 h5 d k)
theorem xr_bastore (d : decode cc pc = .ok (.bastore, 1)) : x_Snd cl K cc own nL nm MC MS pc (xi_ast true (pc + 1)) := xi_ast_ok (fun kd hk => by
  unfold x_akd at hk
  simp only [Bool.or_eq_true] at hk
  rcases hk with hk | hk
  · have e := Nat.eq_of_beq_eq_true hk
    subst e
    intro p l e R s m args below meth c C H H0 locs cells slots Q ls rest D A tys ws a q0 t0 n cA f i x h1 h2 h6 h7 h3 h4 h5 k
    exact va_bast C.1.1 C.1.2.1 h1 h2 h6 h7 _ _ h3 h4 h5 d k
  · have e := Nat.eq_of_beq_eq_true hk
    subst e
    intro p l e R s m args below meth c C H H0 locs cells slots Q ls rest D A tys ws a q0 t0 n cA f i x h1 h2 h6 h7 h3 h4 h5 k
    exact va_zast C.1.1 C.1.2.1 h1 h2 h6 h7 _ _ h3 h4 h5 d k)
theorem xr_aaload (d : decode cc pc = .ok (.aaload, 1)) : x_Snd cl K cc own nL nm MC MS pc (xi_aald (pc + 1)) := xi_aald_ok (fun C => fun h0 h1 h2 h3 h4 h5 k => x_aald C.1.1 C.1.2.1 h1 h2 _ _ h0 h3 h4 h5 d k)
theorem xr_aastore (d : decode cc pc = .ok (.aastore, 1)) : x_Snd cl K cc own nL nm MC MS pc (xi_aast (pc + 1)) := xi_aast_ok (fun C => fun h1 h2 h3 h4 h5 h6 h7 h8 h9 k => va_astq C.1.1 C.1.2.1 h1 h2 h3 h4 _ _ _ _ h5 h6 h7 h8 h9 d k)
theorem xr_alen (d : decode cc pc = .ok (.arraylength, 1)) : x_Snd cl K cc own nL nm MC MS pc (xi_alen (pc + 1)) := xi_alen_ok (fun C => fun h1 h2 h3 h4 k => va_alen C.1.1 C.1.2.1 h1 h2 _ _ h3 h4 rfl d k)
end X11
end
section
/-! rows that need the classes' words -/
theorem x_fit_int : ∀ v, x_pk 0 v → narrow .int v = v ∧ fits .int v = true := fun v h => by obtain ⟨n, rfl⟩ := h; exact ⟨rfl, rfl⟩
theorem x_fit_bool : ∀ v, x_pk 1 v → narrow .boolean v = v ∧ fits .boolean v = true := fun v h => by
  rcases h with rfl | rfl
  · exact ⟨by decide, by decide⟩
  · exact ⟨by decide, by decide⟩
theorem x_fit_obj {C : String} : ∀ v, x_pk 2 v → narrow (.object C) v = v ∧ fits (.object C) v = true := fun v h => by
  rcases h with rfl | ⟨a, rfl⟩
  · exact ⟨rfl, rfl⟩
  · exact ⟨rfl, rfl⟩
theorem x_fit_arr {t : FieldType} : ∀ v, x_pk 2 v → narrow (.array t) v = v ∧ fits (.array t) v = true := fun v h => by
  rcases h with rfl | ⟨a, rfl⟩
  · exact ⟨rfl, rfl⟩
  · exact ⟨rfl, rfl⟩
/-- a new object's fields: 0 a number, 1 a reference -/
def x_fv (b : Nat) : Value := match b with
  | 0 => .int 0
  | _ => .null
def x_fa (b : Nat) : xV := match b with
  | 0 => (0, 0, 0)
  | _ => (2, 0, 0)
def x_ovs : Nat → List Nat → xA
  | _, [] => []
  | i, b :: r => (i, x_fa b) :: x_ovs (i + 1) r
def x_nc (ci : Nat) (ks : List Nat) : xC := (0, ci, ks.length, (0, 0, 0), x_ovs 0 ks)
theorem x_fa_ok {ad : List Nat} {V : List Int} {sc : Nat × Nat × List Nat} (b : Nat) : x_rel ad V sc (x_fa b) (x_fv b) := by
  unfold x_fa x_fv
  split
  · exact ⟨0, rfl, by show (0 : Int) ≤ Int32.toInt 0; decide, by show Int32.toInt 0 ≤ (0 : Int); decide⟩
  · exact rfl
theorem x_ovs_ok : ∀ (ks : List Nat) (i k : Nat) (b : Nat), ks[k]? = some b → x_get (0, 0, 0) (x_ovs i ks) (i + k) = x_fa b
  | [], _, _, _, h => by cases h
  | c :: r, i, 0, b, h => by
    cases h
    simp [x_ovs, x_get]
  | c :: r, i, k + 1, b, h => by
    simp only [x_ovs, x_get]
    rw [x_nb (by omega : i ≠ i + (k + 1))]
    have := x_ovs_ok r (i + 1) k b (by simpa using h)
    rw [show i + (k + 1) = i + 1 + k by omega]
    exact this
theorem x_nc_ok {cl : List vw_C} {ci : Nat} {ks : List Nat} : ∀ ad V sc tys, x_cell cl ad V sc tys (x_nc ci ks) (.inr (ci, ks.map x_fv)) := fun ad V sc tys =>
  ⟨ks.map x_fv, rfl, List.length_map _, fun k hk => by
    have hk : k < ks.length := hk
    have h := x_ovs_ok ks 0 k ks[k] (List.getElem?_eq_getElem hk)
    rw [Nat.zero_add] at h
    refine ⟨x_fv ks[k], by rw [List.getElem?_map, List.getElem?_eq_getElem hk]; rfl, ?_⟩
    show x_rel ad V sc (x_get (0, 0, 0) (x_ovs 0 ks) k) _
    rw [h]
    exact x_fa_ok _⟩
def xi_oi (nx : Nat) : xS → Option (List xS) := fun t => match t.2.2.1 with
  | (1, _, _) :: r => bif Nat.ble (x_cats r) 8 then some [(nx, t.2.1, r, t.2.2.2)] else none
  | _ => none
section X12
variable {cl : List vw_C} {K : xKx} {cc : ByteArray} {own : String} {nL : Nat} {nm : String} {MC MS pc : Nat}
theorem xr_getf {ci k ix N : Nat} {C : String} {T : u_T} (hc : cl[ci]? = some (C, T, N)) (hin : ∀ w ∈ u_ws C T N, w ∈ x_tbl) (hk : k < N) (hw : Cond.fieldLink own ix (T k).1 (T k).2.1 (T k).2.2.1 ∈ x_tbl) (d : decode cc pc = .ok (.getfield ix, 3)) : x_Snd cl K cc own nL nm MC MS pc (xi_getf ci k (pc + 3)) := xi_getf_ok (by
  intro p l e R s m args below meth c C1 H locs cells slots Q ls rest D tys ws a q0 fs v h1 h2 h3 h4 kk
  exact va_get C1.1.1 C1.1.2.1 C1.1.2.2.2.2 hin C1.1.2.2.2.1 h1 h2 q0 h3 hc k hk (C1.1.2.2.2.2 _ hw) (fun _ h => h) h4 d kk)
theorem xr_putf {ci k ix N fk : Nat} {C : String} {T : u_T} {ty0 : Nat → FieldType} {ty : FieldType} (hc : cl[ci]? = some (C, T, N)) (hin : ∀ w ∈ u_ws C T N, w ∈ x_tbl) (hty : ∀ k, k < N → parseFieldDescriptor (T k).2.2.1 = some (ty0 k)) (hnm : ∀ a, a < N → ∀ b, b < N → a ≠ b → (T a).2.1 ≠ (T b).2.1) (hk : k < N) (hw : Cond.fieldLink own ix (T k).1 (T k).2.1 (T k).2.2.1 ∈ x_tbl) (hfin : (T k).2.2.2 = false) (hd : ty0 k = ty) (hv : ∀ v, x_pk fk v → narrow ty v = v ∧ fits ty v = true) (d : decode cc pc = .ok (.putfield ix, 3)) : x_Snd cl K cc own nL nm MC MS pc (xi_putf ci k fk (pc + 3)) := xi_putf_ok (by
  intro p l e R s m args below meth c C1 H H0 locs cells slots Q ls rest D A tys ws a q0 fs v h1 h2 h3 h4 h5 h6 h7 kk
  exact va_put C1.1.1 C1.1.2.1 C1.1.2.2.2.2 hin ty0 hty hnm C1.1.2.2.2.1 h1 h2 h3 h4 q0 h5 hc k hk (C1.1.2.2.2.2 _ hw) (fun _ h => h) hfin (by rw [← hd]; exact hty k hk) (hv v h7).1 (hv v h7).2 h6 d kk)
theorem xr_putF {ci k ix N fk : Nat} {C : String} {T : u_T} {ty0 : Nat → FieldType} {ty : FieldType} (hc : cl[ci]? = some (C, T, N)) (hin : ∀ w ∈ u_ws C T N, w ∈ x_tbl) (hty : ∀ k, k < N → parseFieldDescriptor (T k).2.2.1 = some (ty0 k)) (hnm : ∀ a, a < N → ∀ b, b < N → a ≠ b → (T a).2.1 ≠ (T b).2.1) (hk : k < N) (hw : Cond.fieldLink own ix (T k).1 (T k).2.1 (T k).2.2.1 ∈ x_tbl) (hfin : (T k).2.2.2 = true) (hmn : nm = "<init>") (hdc : (T k).1 = own) (hd : ty0 k = ty) (hv : ∀ v, x_pk fk v → narrow ty v = v ∧ fits ty v = true) (d : decode cc pc = .ok (.putfield ix, 3)) : x_Snd cl K cc own nL nm MC MS pc (xi_putf ci k fk (pc + 3)) := xi_putf_ok (by
  intro p l e R s m args below meth c C1 H H0 locs cells slots Q ls rest D A tys ws a q0 fs v h1 h2 h3 h4 h5 h6 h7 kk
  exact va_putF C1.1.1 C1.1.2.1 C1.1.2.2.2.2 hin ty0 hty hnm C1.1.2.2.2.1 h1 h2 h3 h4 q0 h5 hc k hk (C1.1.2.2.2.2 _ hw) (fun _ h => h) hfin (C1.2.1.trans hmn) hdc (by rw [← hd]; exact hty k hk) (hv v h7).1 (hv v h7).2 h6 d kk)
theorem xr_new {ci ix N : Nat} {C : String} {T : u_T} {ty0 : Nat → FieldType} {ks : List Nat} (hc : cl[ci]? = some (C, T, N)) (hin : ∀ w ∈ u_ws C T N, w ∈ x_tbl) (hty : ∀ k, k < N → parseFieldDescriptor (T k).2.2.1 = some (ty0 k)) (hl : Cond.classLink own ix C ∈ x_tbl) (hi : Cond.instantiable C N ∈ x_tbl) (hn : Cond.initialized C ∈ x_tbl) (hks : ks.length = N) (hfs : ∀ j, j < N → defaultValue (ty0 j) = vp_V (ks.map x_fv) j) (d : decode cc pc = .ok (.new ix, 3)) : x_Snd cl K cc own nL nm MC MS pc (xi_new (x_nc ci ks) MC MS (pc + 3)) := xi_new_ok (nc := x_nc ci ks) (ci := ci) (N := N) (fs := ks.map x_fv) hks x_nc_ok (by
  intro p l e R s m args below meth c C1 H H0 locs cells slots Q ls rest D A tys ws hA h1 h2 h3 h4 h5 h6 kk
  exact va_new C1.1.1 C1.1.2.1 C1.1.2.2.2.2 hin ty0 hty C1.1.2.2.2.1 (C1.1.2.2.2.2 _ hl) (C1.1.2.2.2.2 _ hi) (C1.1.2.2.2.2 _ hn) h1 h2 h3 h4 hA hc hfs (by rw [C1.2.2.1]; exact h5) (by rw [C1.2.2.2.1]; exact h6) d kk)
theorem x_bytes (kd : Nat) : componentBytes (x_aty kd) ≤ 4 := by
  unfold x_aty
  split <;> decide
theorem x_dflt (kd : Nat) : defaultValue (x_aty kd) = .int 0 := by
  unfold x_aty
  split <;> rfl
theorem xr_newa {kd : Nat} {b : Bool} {ty : ArrayType} (hkd : x_akd b kd = true) (ht : newarray.typeOf ty = x_aty kd) (ha : Cond.arrayClass (newarray.typeOf ty) ∈ x_tbl) (d : decode cc pc = .ok (.newarray ty, 2)) : x_Snd cl K cc own nL nm MC MS pc (xi_newa kd 0 (0, 0, 0) MC MS (pc + 2)) := xi_newa_ok hkd (by
  intro p l e R s m args below meth c C1 H H0 locs cells slots Q ls rest D A tys ws n N hA h1 h2 h3 h4 h5 h6 h7 h8 h9 kk
  exact va_newa C1.1.1 C1.1.2.1 (C1.1.2.2.2.2 _ ha) ht h1 h2 h3 h4 hA (a0 := (N, .inl (fun _ => 0))) (fun cA => by rw [x_dflt]; rfl) h5 h6 (Nat.le_trans (Nat.mul_le_mul h7 (x_bytes kd)) (by decide)) (by rw [C1.2.2.1]; exact h8) (by rw [C1.2.2.2.1]; exact h9) d kk)
theorem xr_newq {ci ix : Nat} {r : vw_C} (hr : cl[ci]? = some r) (hl : Cond.classLink own ix r.1 ∈ x_tbl) (ho : ∀ U, x_Ex U → va_AO r.1 U) (d : decode cc pc = .ok (.anewarray ix, 3)) : x_Snd cl K cc own nL nm MC MS pc (xi_newa 5 ci (2, 0, 0) MC MS (pc + 3)) := xi_newq_ok hr (by
  intro p l e R s m args below meth c C1 H H0 locs cells slots Q ls rest D A tys ws n N hA h1 h2 h3 h4 h5 h6 h7 h8 h9 kk
  exact va_newq C1.1.1 C1.1.2.1 C1.1.2.2.2.1 (C1.1.2.2.2.2 _ hl) (ho _ C1.2.2.2.2.2.2) h1 h2 h3 h4 hA h5 h6 (by omega) (by rw [C1.2.2.1]; exact h8) (by rw [C1.2.2.2.1]; exact h9) d kk)
theorem xr_oi {ix : Nat} (hl : Cond.methodLink own ix objectInit ∈ x_tbl) (hi : Cond.instanceMethod objectInit ∈ x_tbl) (hc : Cond.code objectInit ⟨#[0xb1]⟩ 1 none ∈ x_tbl) (d : decode cc pc = .ok (.invokespecial ix, 3)) : x_Snd cl K cc own nL nm MC MS pc (xi_oi (pc + 3)) := by
  intro V sc p l e R s m args below meth c D A H0 Q C hA hK t ts hpc hf hg
  unfold xi_oi at hf
  split at hf
  · rename_i j jb r hst
    cases hb : Nat.ble (x_cats r) 8 with
    | false => rw [hb] at hf; cases hf
    | true =>
      rw [hb] at hf
      cases hf
      subst hpc
      intro ls stk H locs ⟨lv, ws, tys, h1, h2, h3, h4⟩
      rw [hst] at h3
      match stk, h3 with
      | v2 :: rest, h3 =>
        obtain ⟨a, -, rfl⟩ := h3.1
        refine W.objInit C.1.1 C.1.2.1 C.1.2.2.2.1 (C.1.2.2.2.2 _ hl) (C.1.2.2.2.2 _ hi) (C.1.2.2.2.2 _ hc) rfl (by rw [C.1.2.2.1]; exact h1.1) rfl d C.2.2.2.2.1 ?_ ?_
        · have h8 := Nat.le_of_ble_eq_true hb
          rw [← (x_cats_ok h3.2).1] at h8
          have := lv_room (m := m) (pc := t.1) (ls := ls) (rest := .ref a :: rest) (st := rest) h8
          have h32 := C.2.2.2.2.2.1
          omega
        · exact hg _ List.mem_cons_self ls rest H locs ⟨lv, ws, tys, h1, h2, h3.2, h4⟩
  · cases hf
theorem xr_callV {q' : xM} {ix n : Nat} (hcode : Cond.code (xm_y q') (xm_b q') (xm_l q') (xm_r q') ∈ x_tbl) (hgood : x_tbl.all goodWord = true) (hini : Cond.initialized (xm_y q').cls ∈ x_tbl) (hl : Cond.methodLink own ix (xm_y q') ∈ x_tbl) (hinst : Cond.instanceMethod (xm_y q') ∈ x_tbl) (hsel : Cond.selects (xm_y q').cls (xm_y q') (xm_y q') ∈ x_tbl) (ho : xm_o q' ≠ 999) (h19 : 19 + xm_l q' ≤ 64)
    (hd : (xm_y q').cls ≠ "java/lang/invoke/MethodHandle" ∧ (xm_y q').cls ≠ "java/lang/invoke/VarHandle" ∧ (parseMethodDescriptor (xm_y q').desc).map (fun d => d.parameters.length) = some n) (d : decode cc pc = .ok (.invokevirtual ix, 3)) : x_Cl cc own nL nm MC MS pc q' (n + 1) := by
  refine ⟨h19, ?_⟩
  intro p l e R s m args below meth c C1 H locs cells slots mc ms ls rest vargs Pc Qc free rm hM hbl hpre hrec hlen hrc hrs hfr hlo hsz hcat hf
  rcases hrec with h | ⟨b, As, rfl, cellB, k1, k2, k3⟩
  · exact absurd h ho
  · have hts := C1.1.2.2.2.2
    have cb : CallB R s args own ix (xm_y q') (xm_b q') (xm_l q') (xm_r q') (x_ws q') rm mc ms n := callB_of n hts (x_goodIn (q := q') hcode hgood) rfl hrc hrs (hts _ hini) (hts _ hl) hd ⟨hfr, hlo⟩
    exact va_runV C1.1 hM ⟨cb, hts _ hinst, hts _ hsel⟩ ⟨hbl, ⟨cellB, k1, k2, k3⟩, hpre⟩ rfl (by simpa using hlen) hsz (by simp) (lv_room hcat) d hf
theorem xr_callS {q' : xM} {ix n : Nat} (hcode : Cond.code (xm_y q') (xm_b q') (xm_l q') (xm_r q') ∈ x_tbl) (hgood : x_tbl.all goodWord = true) (hini : Cond.initialized (xm_y q').cls ∈ x_tbl) (hl : Cond.methodLink own ix (xm_y q') ∈ x_tbl) (hst : Cond.static (xm_y q') ∈ x_tbl) (h19 : 19 + xm_l q' ≤ 64)
    (hd : (xm_y q').cls ≠ "java/lang/invoke/MethodHandle" ∧ (xm_y q').cls ≠ "java/lang/invoke/VarHandle" ∧ (parseMethodDescriptor (xm_y q').desc).map (fun d => d.parameters.length) = some n) (d : decode cc pc = .ok (.invokestatic ix, 3)) : x_Cl cc own nL nm MC MS pc q' n := by
  refine ⟨h19, ?_⟩
  intro p l e R s m args below meth c C1 H locs cells slots mc ms ls rest vargs Pc Qc free rm hM hbl hpre hrec hlen hrc hrs hfr hlo hsz hcat hf
  have hts := C1.1.2.2.2.2
  have cb : CallB R s args own ix (xm_y q') (xm_b q') (xm_l q') (xm_r q') (x_ws q') rm mc ms n := callB_of n hts (x_goodIn (q := q') hcode hgood) rfl hrc hrs (hts _ hini) (hts _ hl) hd ⟨hfr, hlo⟩
  exact va_runS C1.1 hM ⟨cb, hts _ hst⟩ ⟨hbl, hpre⟩ rfl hlen hsz rfl (lv_room hcat) d hf
theorem xr_callI {q' : xM} {ix n : Nat} (hcode : Cond.code (xm_y q') (xm_b q') (xm_l q') (xm_r q') ∈ x_tbl) (hgood : x_tbl.all goodWord = true) (hini : Cond.initialized (xm_y q').cls ∈ x_tbl) (hl : Cond.methodLink own ix (xm_y q') ∈ x_tbl) (hinst : Cond.instanceMethod (xm_y q') ∈ x_tbl) (hnm : (xm_y q').name = "<init>") (hr : xm_r q' = none) (ho : xm_o q' ≠ 999) (h19 : 19 + xm_l q' ≤ 64)
    (hd : (xm_y q').cls ≠ "java/lang/invoke/MethodHandle" ∧ (xm_y q').cls ≠ "java/lang/invoke/VarHandle" ∧ (parseMethodDescriptor (xm_y q').desc).map (fun d => d.parameters.length) = some n) (d : decode cc pc = .ok (.invokespecial ix, 3)) : x_Cl cc own nL nm MC MS pc q' (n + 1) := by
  refine ⟨h19, ?_⟩
  intro p l e R s m args below meth c C1 H locs cells slots mc ms ls rest vargs Pc Qc free rm hM hbl hpre hrec hlen hrc hrs hfr hlo hsz hcat hf
  rcases hrec with h | ⟨b, As, rfl, cellB, k1, k2, k3⟩
  · exact absurd h ho
  · have hts := C1.1.2.2.2.2
    have cb : CallB R s args own ix (xm_y q') (xm_b q') (xm_l q') (xm_r q') (x_ws q') rm mc ms n := callB_of n hts (x_goodIn (q := q') hcode hgood) rfl hrc hrs (hts _ hini) (hts _ hl) hd ⟨hfr, hlo⟩
    rw [hr] at cb
    exact va_runI C1.1 hM ⟨cb, hnm, hts _ hinst⟩ ⟨hbl, hpre⟩ rfl (by simpa using hlen) hsz (by simp) (lv_room hcat) d hf
theorem x_cn {R : Room} {s : State} {args : Array Value} {q' : xM} {ix n mc ms : Nat} {own host : String} {rm : Room} (hts : ∀ w ∈ x_tbl, w.before args s = true) (hcode : Cond.code (xm_y q') (xm_b q') (xm_l q') (xm_r q') ∈ x_tbl) (hgood : x_tbl.all goodWord = true) (hini : Cond.initialized (xm_y q').cls ∈ x_tbl) (hl : va_Nw (.methodLinkNest own ix (xm_y q') host) s) (hrc : rm.cells = mc) (hrs : rm.slots = ms)
    (hd : (xm_y q').cls ≠ "java/lang/invoke/MethodHandle" ∧ (xm_y q').cls ≠ "java/lang/invoke/VarHandle" ∧ (parseMethodDescriptor (xm_y q').desc).map (fun d => d.parameters.length) = some n) (hR : rm.frames + 1 ≤ R.frames ∧ 8 + (xm_l q' + 11) + rm.locals ≤ R.locals) : va_CN R s args own ix (xm_y q') host (xm_b q') (xm_l q') (xm_r q') (x_ws q') rm mc ms n :=
  va_cnB n hts (x_goodIn (q := q') hcode hgood) rfl hrc hrs hl (hts _ hini) hd hR
theorem xr_callIN {q' : xM} {ix n : Nat} {host : String} (hcode : Cond.code (xm_y q') (xm_b q') (xm_l q') (xm_r q') ∈ x_tbl) (hgood : x_tbl.all goodWord = true) (hini : Cond.initialized (xm_y q').cls ∈ x_tbl) (hl : (own, ix, xm_y q', host) ∈ x_nest) (hinst : Cond.instanceMethod (xm_y q') ∈ x_tbl) (hnm : (xm_y q').name = "<init>") (hr : xm_r q' = none) (ho : xm_o q' ≠ 999) (h19 : 19 + xm_l q' ≤ 64)
    (hd : (xm_y q').cls ≠ "java/lang/invoke/MethodHandle" ∧ (xm_y q').cls ≠ "java/lang/invoke/VarHandle" ∧ (parseMethodDescriptor (xm_y q').desc).map (fun d => d.parameters.length) = some n) (d : decode cc pc = .ok (.invokespecial ix, 3)) : x_Cl cc own nL nm MC MS pc q' (n + 1) := by
  refine ⟨h19, ?_⟩
  intro p l e R s m args below meth c C1 H locs cells slots mc ms ls rest vargs Pc Qc free rm hM hbl hpre hrec hlen hrc hrs hfr hlo hsz hcat hf
  rcases hrec with h | ⟨b, As, rfl, cellB, k1, k2, k3⟩
  · exact absurd h ho
  · have hts := C1.1.2.2.2.2
    have cb := x_cn (R := R) hts hcode hgood hini (C1.2.2.2.2.2.2.2.2 _ hl) hrc hrs hd ⟨hfr, hlo⟩
    rw [hr] at cb
    exact va_runIN C1.1 hM ⟨cb, hnm, hts _ hinst⟩ ⟨hbl, hpre⟩ rfl (by simpa using hlen) hsz (by simp) (lv_room hcat) d hf
theorem xr_callVN {q' : xM} {ix n : Nat} {host : String} (hcode : Cond.code (xm_y q') (xm_b q') (xm_l q') (xm_r q') ∈ x_tbl) (hgood : x_tbl.all goodWord = true) (hini : Cond.initialized (xm_y q').cls ∈ x_tbl) (hl : (own, ix, xm_y q', host) ∈ x_nest) (hinst : Cond.instanceMethod (xm_y q') ∈ x_tbl) (hsel : Cond.selects (xm_y q').cls (xm_y q') (xm_y q') ∈ x_tbl) (ho : xm_o q' ≠ 999) (h19 : 19 + xm_l q' ≤ 64)
    (hd : (xm_y q').cls ≠ "java/lang/invoke/MethodHandle" ∧ (xm_y q').cls ≠ "java/lang/invoke/VarHandle" ∧ (parseMethodDescriptor (xm_y q').desc).map (fun d => d.parameters.length) = some n) (d : decode cc pc = .ok (.invokevirtual ix, 3)) : x_Cl cc own nL nm MC MS pc q' (n + 1) := by
  refine ⟨h19, ?_⟩
  intro p l e R s m args below meth c C1 H locs cells slots mc ms ls rest vargs Pc Qc free rm hM hbl hpre hrec hlen hrc hrs hfr hlo hsz hcat hf
  rcases hrec with h | ⟨b, As, rfl, cellB, k1, k2, k3⟩
  · exact absurd h ho
  · have hts := C1.1.2.2.2.2
    have cb := x_cn (R := R) hts hcode hgood hini (C1.2.2.2.2.2.2.2.2 _ hl) hrc hrs hd ⟨hfr, hlo⟩
    exact va_runVN C1.1 hM ⟨cb, hts _ hinst, hts _ hsel⟩ ⟨hbl, ⟨cellB, k1, k2, k3⟩, hpre⟩ rfl (by simpa using hlen) hsz (by simp) (lv_room hcat) d hf
theorem xr_callSN {q' : xM} {ix n : Nat} {host : String} (hcode : Cond.code (xm_y q') (xm_b q') (xm_l q') (xm_r q') ∈ x_tbl) (hgood : x_tbl.all goodWord = true) (hini : Cond.initialized (xm_y q').cls ∈ x_tbl) (hl : (own, ix, xm_y q', host) ∈ x_nest) (hst : Cond.static (xm_y q') ∈ x_tbl) (h19 : 19 + xm_l q' ≤ 64)
    (hd : (xm_y q').cls ≠ "java/lang/invoke/MethodHandle" ∧ (xm_y q').cls ≠ "java/lang/invoke/VarHandle" ∧ (parseMethodDescriptor (xm_y q').desc).map (fun d => d.parameters.length) = some n) (d : decode cc pc = .ok (.invokestatic ix, 3)) : x_Cl cc own nL nm MC MS pc q' n := by
  refine ⟨h19, ?_⟩
  intro p l e R s m args below meth c C1 H locs cells slots mc ms ls rest vargs Pc Qc free rm hM hbl hpre hrec hlen hrc hrs hfr hlo hsz hcat hf
  have hts := C1.1.2.2.2.2
  have cb := x_cn (R := R) hts hcode hgood hini (C1.2.2.2.2.2.2.2.2 _ hl) hrc hrs hd ⟨hfr, hlo⟩
  exact va_runSN C1.1 hM ⟨cb, hts _ hst, trivial⟩ ⟨hbl, hpre⟩ rfl hlen hsz rfl (lv_room hcat) d hf
/-- a tableswitch by its ranges -/
theorem xr_tsw {dflt lo hi : Int} {offs : Array Int} {len : Nat} {l : List (Int × Int × Nat)} (d : decode cc pc = .ok (.tableswitch dflt lo hi offs, len)) (hd : ∃ q ∈ l, q.1 = -2147483648 ∧ q.2.1 = lo - 1 ∧ (pc : Int) + dflt = (q.2.2 : Int)) (hd2 : ∃ q ∈ l, q.1 = hi + 1 ∧ q.2.1 = 2147483647 ∧ (pc : Int) + dflt = (q.2.2 : Int))
    (hm : ∀ j : Nat, (j : Int) < hi + 1 - lo → ∃ q ∈ l, q.1 = lo + j ∧ q.2.1 = lo + j ∧ ∃ off, offs[j]? = some off ∧ (pc : Int) + off = (q.2.2 : Int)) : x_Snd cl K cc own nL nm MC MS pc (xi_sw l) := xi_sw_ok (fun x => by
  have hr := x_rng x
  by_cases h1 : x.toInt < lo
  · obtain ⟨q, hq, e1, e2, e3⟩ := hd
    exact ⟨q, hq, by omega, by omega, (fun S => fun k => lv_tableOut S.1 S.2.1 d (Or.inl h1) e3 k)⟩
  · by_cases h2 : hi < x.toInt
    · obtain ⟨q, hq, e1, e2, e3⟩ := hd2
      exact ⟨q, hq, by omega, by omega, (fun S => fun k => lv_tableOut S.1 S.2.1 d (Or.inr h2) e3 k)⟩
    · obtain ⟨q, hq, e1, e2, off, e3, e4⟩ := hm (x.toInt - lo).toNat (by omega)
      exact ⟨q, hq, by omega, by omega, (fun S => fun k => lv_tableIn S.1 S.2.1 d h1 h2 e3 e4 k)⟩)
end X12
end
section
/-! ===== BEGIN new T[n][m]: the outer array a place, the inner ones among the pooled ===== -/
/-- f, but v at every address of l -/
def vr_up {α : Type} (f : Nat → α) (l : List Nat) (v : α) : Nat → α := fun a => if a ∈ l then v else f a
theorem vr_up_in {α : Type} {f : Nat → α} {l : List Nat} {v : α} {a : Nat} (h : a ∈ l) : vr_up f l v a = v := if_pos h
theorem vr_up_ne {α : Type} {f : Nat → α} {l : List Nat} {v : α} {a : Nat} (h : a ∉ l) : vr_up f l v a = f a := if_neg h
theorem vr_rows {L l : List Nat} {f : Nat → va_E} {e : va_E} (h : ∀ a, a ∈ l → a ∉ L) : va_pl L f ++ l.map (fun a => (a, e)) = va_pl (L ++ l) (vr_up f l e) := by
  unfold va_pl
  rw [List.map_append]
  congr 1
  · apply List.map_congr_left
    intro a ha
    rw [vr_up_ne (fun q => h a q ha)]
  · apply List.map_congr_left
    intro a ha
    rw [vr_up_in ha]
theorem vr_lay {X rows : va_W} {x : Nat × va_E} {pl : va_W} {D : va_G} {cl : List vw_C} {H : Heap} (hP : va_P D cl (((X ++ pl) ++ [x]) ++ rows) H) : va_P D cl ((X ++ [x]) ++ (pl ++ rows)) H := by
  rw [List.append_assoc (X ++ pl)] at hP
  have h := va_P.swap hP
  rw [← List.append_assoc X] at h
  have h2 := va_P.swap h
  rw [List.append_assoc (X ++ [x])] at h2
  exact h2
theorem vr_layD {X rows : va_W} {x : Nat × va_E} {pl : va_W} {A : Nat → Prop} (hD : va_D A (((X ++ pl) ++ [x]) ++ rows)) : va_D A ((X ++ [x]) ++ (pl ++ rows)) := by
  rw [List.append_assoc (X ++ pl)] at hD
  have h := va_D.swap hD
  rw [← List.append_assoc X] at h
  have h2 := va_D.swap h
  rw [List.append_assoc (X ++ [x])] at h2
  exact h2
theorem vr_outer (c : ClassId) (N h0 : Nat) : ∀ i : Nat, Jvm.Free.Multi.outerC c N h0 i = arrV c N (fun j => va_rf (if j < i then some (h0 + 1 + j) else none))
  | 0 => by
    show ({ cls := c, slots := Array.replicate N .null, vm := .none } : Cell) = _
    rw [arrV_new]
    refine congrArg (arrV c N) (funext fun j => ?_)
    simp [va_rf]
  | i + 1 => by
    show (Jvm.Free.Multi.outerC c N h0 i).setSlot i (.ref (h0 + 1 + i)) = _
    rw [vr_outer c N h0 i, arrV_store]
    refine congrArg (arrV c N) (funext fun j => ?_)
    by_cases e : j = i
    · subst e
      simp [updV, va_rf]
    · by_cases h : j < i
      · simp [updV, e, h, Nat.lt_succ_of_lt h]
      · simp [updV, e, h, show ¬ j < i + 1 by omega]
section VGM
variable {p : Program} {l : Launch} {e : Env} {R : Room} {s : State} {m : MethodId} {args : Array Value} {below : List Frame} {meth : Method} {c : Code} {H : Heap} {locs : List Loc} {cells slots : Nat} {Q : State → Prop}
variable {cc : ByteArray} {pc : Nat} {ls : Array Slot} {rest : List Value} {D : va_G} {cl : List vw_C} {A : Nat → Prop} {a : Nat} {tys : List (ClassId × FieldType)} {ws : va_W} {H0 : Heap}
theorem va_mna {X : va_W} {L : List Nat} {f : Nat → va_E} {cc : ByteArray} (hexec : p.tables.exec = Jvm.exec) (hb : c.code = cc) {own : String} {index : Nat} {ty : FieldType} {cy : ClassId} (hown : s.vm.findClass own = some m.cls) (hclink : (Cond.classLink own index ("[" ++ (FieldType.array ty).toString)).before args s = true) (hover : va_AOA ty s) (harr : (Cond.arrayClass ty).before args s = true) (hcy : s.vm.findClass (FieldType.array ty).toString = some cy)
    (hK : va_K D cl tys s) (hP : va_P D cl (X ++ va_pl L f) H) (hD : va_D A (X ++ va_pl L f)) (hS : va_S A H0 H locs) (hA : ∀ q, H0.size ≤ q → A q) {n k : Int32} {N' K' : Nat} {z : vp_A} (hn : ¬ n < 0) (hk : ¬ k < 0) (hN : n.toNatClampNeg = N') (hM : k.toNatClampNeg = K')
    (hb1 : N' * 4 ≤ 536870912) (hb2 : K' * componentBytes ty ≤ 536870912) (hb3 : K' ≤ 536870912) (hdf : fits ty (defaultValue ty) = true) (hdd : (defaultValue ty).isDefault = true) (hcells : cells + (1 + N') ≤ R.cells) (hslots : slots + (N' + N' * K') ≤ R.slots) (hz : ∀ c : ClassId, Jvm.Free.Multi.innerC c K' (defaultValue ty) = vp_cell c z) (hdg : decode cc pc = .ok (.multianewarray index 2, 4))
    (kk : ∀ (q : Nat) (r : Nat → Nat) (cA : ClassId) (H1 : Heap), (∀ i j : Nat, i < N' → j < N' → r i = r j → i = j) → (∀ i : Nat, i < N' → r i ∉ L) → va_K D cl (tys ++ [(cA, .array ty)]) s →
      va_P D cl ((X ++ [(q, .inl (cA, N', .inr (.inr (.inr (.inr (fun i => if i < N' then some (r i) else none))))))]) ++ va_pl (L ++ (List.range N').map r) (vr_up f ((List.range N').map r) (.inl (cy, z)))) H1 → va_D A ((X ++ [(q, .inl (cA, N', .inr (.inr (.inr (.inr (fun i => if i < N' then some (r i) else none))))))]) ++ va_pl (L ++ (List.range N').map r) (vr_up f ((List.range N').map r) (.inl (cy, z)))) → va_S A H0 H1 locs →
      W p l e R s m args below meth c H1 locs (cells + 1 + N') (slots + N' + N' * K') Q (F0 m (pc + 4) ls (.ref q :: rest))) : W p l e R s m args below meth c H locs cells slots Q (F0 m pc ls (.int k :: .int n :: rest)) := by
  subst hN
  subst hM
  intro T hT Xs
  obtain ⟨vm₁, cA, comp, -, fA, fC, hO, -, X', step⟩ := Xs.multianewarray2F hexec hown hclink (va_AOA.use hover) harr (g := F0 m pc ls (.int k :: .int n :: rest)) rfl (by rw [hb]; exact hdg) rfl hn hk hb1 hb2 hb3 hdf hdd hcells hslots
  have ec : some cy = some comp := hcy.symm.trans fC
  cases ec
  generalize hF : Jvm.Free.Multi.fill (T.setVm vm₁) cA cy n.toNatClampNeg k.toNatClampNeg (defaultValue ty) n.toNatClampNeg = F at X' step
  have hTh : (T.setVm vm₁).heap = H := hT
  obtain ⟨f1, f2, -, -⟩ := Jvm.Free.Multi.fill_facts (T.setVm vm₁) cA cy n.toNatClampNeg k.toNatClampNeg (defaultValue ty) n.toNatClampNeg
  rw [hF, hTh] at f1 f2
  have hold : ∀ x : Nat, x < H.size → F.heap[x]? = H[x]? := fun x hx => by
    have := Jvm.Free.Multi.fill_old (T.setVm vm₁) cA cy n.toNatClampNeg k.toNatClampNeg (defaultValue ty) (a := x) (by rw [hTh]; exact hx) n.toNatClampNeg
    rw [hF, hTh] at this
    exact this
  have hrow : ∀ j : Nat, j < n.toNatClampNeg → F.heap[H.size + 1 + j]? = some (vp_cell cy z) := fun j hj => by
    have := Jvm.Free.Multi.fill_inner (T.setVm vm₁) cA cy n.toNatClampNeg k.toNatClampNeg (defaultValue ty) n.toNatClampNeg j hj
    rw [hF, hTh, hz] at this
    exact this
  have hout : Jvm.Free.Multi.outerC cA n.toNatClampNeg H.size n.toNatClampNeg = vp_cell cA (n.toNatClampNeg, .inr (.inr (.inr (.inr (fun i => if i < n.toNatClampNeg then some (H.size + 1 + i) else none))))) := by
    rw [vp_cell_q]
    exact vr_outer cA n.toNatClampNeg H.size n.toNatClampNeg
  rw [hout] at f2
  have hlt : ∀ a, a ∈ L → a < H.size := fun a ha => by
    obtain ⟨k9, hk9⟩ := va_pl_get (X := X) (f := f) ha
    exact (hP k9 _ hk9).lt
  have hnl : ∀ i : Nat, i < n.toNatClampNeg → H.size + 1 + i ∉ L := fun i _ h => by
    have := hlt _ h
    omega
  have hnm : ∀ a, a ∈ (List.range n.toNatClampNeg).map (fun i => H.size + 1 + i) → a ∉ L := fun a ha h => by
    obtain ⟨i, -, rfl⟩ := List.mem_map.mp ha
    have := hlt _ h
    omega
  have hP0 : va_P D cl (X ++ va_pl L f) F.heap := hP.kept (fun k9 x hx => hold x.1 ((hP k9 x hx).lt))
  have hP1 : va_P D cl ((X ++ va_pl L f) ++ [(H.size, .inl (cA, n.toNatClampNeg, .inr (.inr (.inr (.inr (fun i => if i < n.toNatClampNeg then some (H.size + 1 + i) else none))))))]) F.heap := hP0.app (fun k9 x hx => by
    have h0 : k9 < 1 := (List.getElem?_eq_some_iff.mp hx).1
    rw [show k9 = 0 by omega] at hx
    cases hx
    exact f2)
  have hP2 : va_P D cl (((X ++ va_pl L f) ++ [(H.size, .inl (cA, n.toNatClampNeg, .inr (.inr (.inr (.inr (fun i => if i < n.toNatClampNeg then some (H.size + 1 + i) else none))))))]) ++ ((List.range n.toNatClampNeg).map (fun i => H.size + 1 + i)).map (fun a => (a, .inl (cy, z)))) F.heap := hP1.app (fun k9 x hx => by
    obtain ⟨a, ha, rfl⟩ := List.mem_map.mp (List.mem_of_getElem? hx)
    obtain ⟨i, hi, rfl⟩ := List.mem_map.mp ha
    exact hrow i (List.mem_range.mp hi))
  have hD2 : va_D A (((X ++ va_pl L f) ++ [(H.size, .inl (cA, n.toNatClampNeg, .inr (.inr (.inr (.inr (fun i => if i < n.toNatClampNeg then some (H.size + 1 + i) else none))))))]) ++ ((List.range n.toNatClampNeg).map (fun i => H.size + 1 + i)).map (fun a => (a, .inl (cy, z)))) := by
    have hD1 := hD.push (e := .inl (cA, n.toNatClampNeg, .inr (.inr (.inr (.inr (fun i => if i < n.toNatClampNeg then some (H.size + 1 + i) else none)))))) hP rfl (hA _ hS.1)
    generalize hW1 : (X ++ va_pl L f) ++ [(H.size, .inl (cA, n.toNatClampNeg, .inr (.inr (.inr (.inr (fun i => if i < n.toNatClampNeg then some (H.size + 1 + i) else none))))))] = W1 at hD1 hP1 ⊢
    have hle : ∀ (k9 : Nat) (x : Nat × va_E), W1[k9]? = some x → x.1 ≤ H.size := fun k9 x hx => by
      rw [← hW1] at hx
      by_cases hl : k9 < (X ++ va_pl L f).length
      · rw [List.getElem?_append_left hl] at hx
        exact Nat.le_of_lt ((hP k9 x hx).lt)
      · rw [List.getElem?_append_right (by omega)] at hx
        have h0 : k9 - (X ++ va_pl L f).length < 1 := (List.getElem?_eq_some_iff.mp hx).1
        rw [show k9 - (X ++ va_pl L f).length = 0 by omega] at hx
        cases hx
        exact Nat.le_refl _
    have hr : ∀ (k9 : Nat) (x : Nat × va_E), (((List.range n.toNatClampNeg).map (fun i => H.size + 1 + i)).map (fun a => ((a, .inl (cy, z)) : Nat × va_E)))[k9]? = some x → x.1 = H.size + 1 + k9 := fun k9 x hx => by
      rw [List.getElem?_map, List.getElem?_map] at hx
      by_cases h9 : k9 < n.toNatClampNeg
      · rw [List.getElem?_range h9] at hx
        cases hx
        rfl
      · have hn0 : (List.range n.toNatClampNeg)[k9]? = none := List.getElem?_eq_none (by rw [List.length_range]; omega)
        rw [hn0] at hx
        cases hx
    refine ⟨fun i j x y hi hj hxy => ?_, fun k9 x hx => ?_⟩
    · by_cases h1 : i < W1.length <;> by_cases h2 : j < W1.length
      · rw [List.getElem?_append_left h1] at hi
        rw [List.getElem?_append_left h2] at hj
        exact hD1.1 i j x y hi hj hxy
      · rw [List.getElem?_append_left h1] at hi
        rw [List.getElem?_append_right (by omega)] at hj
        have := hle _ _ hi
        have := hr _ _ hj
        omega
      · rw [List.getElem?_append_right (by omega)] at hi
        rw [List.getElem?_append_left h2] at hj
        have := hle _ _ hj
        have := hr _ _ hi
        omega
      · rw [List.getElem?_append_right (by omega)] at hi hj
        have := hr _ _ hi
        have := hr _ _ hj
        omega
    · by_cases h1 : k9 < W1.length
      · rw [List.getElem?_append_left h1] at hx
        exact hD1.2 k9 x hx
      · rw [List.getElem?_append_right (by omega)] at hx
        have := hr _ _ hx
        exact hA _ (by have := hS.1; omega)
  have hAr : ArrOfT s cA (.array ty) := fun N9 z9 => by
    obtain ⟨-, k9, hk9, cm9, hkk9⟩ := (hO 0 0 0).1
    exact ⟨(fun q hq => by cases hq), k9, hk9, cm9, hkk9⟩
  have hK2 : va_K D cl (tys ++ [(cA, .array ty)]) s := ⟨hK.1, fun k9 x hx => by
    by_cases hl : k9 < tys.length
    · rw [List.getElem?_append_left hl] at hx
      exact hK.2 k9 x hx
    · rw [List.getElem?_append_right (by omega)] at hx
      have h0 : k9 - tys.length < 1 := (List.getElem?_eq_some_iff.mp hx).1
      rw [show k9 - tys.length = 0 by omega] at hx
      cases hx
      exact ⟨hAr, fA⟩⟩
  obtain ⟨t, a1, b1⟩ := kk H.size (fun i => H.size + 1 + i) cA F.heap (fun i j _ _ h => by have h9 : H.size + 1 + i = H.size + 1 + j := h; omega) hnl hK2 (by rw [← vr_rows hnm]; exact vr_lay hP2) (by rw [← vr_rows hnm]; exact vr_layD hD2) ⟨by rw [f1]; have := hS.1; omega, fun x h1 h2 => (hold x (Nat.lt_of_lt_of_le h1 hS.1)).trans (hS.2.1 x h1 h2), hS.2.2⟩ F rfl X'
  refine ⟨t, step t ?_, b1⟩
  have e : T.heap.size = H.size := by rw [hT]
  rw [e]
  exact a1
end VGM
/-! ===== END ===== -/
end
section
/-! arrays of arrays; longs -/
def x_rws (b : Nat) : Nat → xA
  | 0 => []
  | n + 1 => x_rws b n ++ [(n, (1, ((b + n : Nat) : Int), 0))]
theorem x_get_app (d : xV) (q : Nat × xV) (k : Nat) : ∀ l : xA, (∀ p ∈ l, p.1 ≠ q.1) → x_get d (l ++ [q]) k = if k = q.1 then q.2 else x_get d l k
  | [], _ => by
    simp only [List.nil_append, x_get]
    by_cases h : k = q.1
    · rw [if_pos h, h]; simp
    · rw [if_neg h, x_nb (Ne.symm h)]; rfl
  | p :: l, hp => by
    simp only [List.cons_append, x_get]
    by_cases hk : p.1 = k
    · have hb : Nat.beq p.1 k = true := Nat.beq_eq.mpr hk
      have hn : ¬ k = q.1 := fun e => hp p List.mem_cons_self (hk.trans e)
      rw [hb, if_neg hn]; rfl
    · rw [x_nb hk]
      exact x_get_app d q k l (fun x hx => hp x (List.mem_cons_of_mem _ hx))
theorem x_rws_lt (b : Nat) : ∀ n, ∀ p ∈ x_rws b n, p.1 < n
  | 0, p, h => absurd h List.not_mem_nil
  | n + 1, p, h => by
    rcases List.mem_append.mp h with h | h
    · exact Nat.lt_succ_of_lt (x_rws_lt b n p h)
    · rw [List.mem_singleton] at h
      subst h
      exact Nat.lt_succ_self n
theorem x_rws_get (b : Nat) (d : xV) : ∀ n k, k < n → x_get d (x_rws b n) k = (1, ((b + k : Nat) : Int), 0)
  | 0, k, h => by omega
  | n + 1, k, h => by
    unfold x_rws
    rw [x_get_app d _ k _ (fun p hp => by have := x_rws_lt b n p hp; simp only; omega)]
    by_cases e : k = n
    · subst e; simp
    · simp only [e, if_false]
      exact x_rws_get b d n k (by omega)
def xi_mna (MC MS nx : Nat) : xS → Option (List xS) := fun t => match t.2.2.1 with
  | k :: n :: r => match x_bi t.2.2.2.2.1 k, x_bi t.2.2.2.2.1 n with
    | some kb, some nb => bif decide (kb.1 = kb.2) && (decide (nb.1 = nb.2) && (decide (0 ≤ kb.1) && (decide (0 ≤ nb.1) && (decide (kb.1 ≤ 1000000) && (decide (nb.1 ≤ 1000000) && (t.2.2.2.1.any (fun x => Nat.beq x.1 1) && (Nat.ble (t.2.2.2.2.2.1 + (1 + nb.1.toNat)) MC && Nat.ble (t.2.2.2.2.2.2 + (nb.1.toNat + nb.1.toNat * kb.1.toNat)) MS))))))) then
        some [(nx, t.2.1, (1, t.2.2.2.1.length, 0) :: r, t.2.2.2.1 ++ ((6, 0, nb.1.toNat, (2, 0, 0), x_rws (t.2.2.2.1.length + 1) nb.1.toNat) :: List.replicate nb.1.toNat (1, 0, kb.1.toNat, (0, 0, 0), [])), t.2.2.2.2.1, t.2.2.2.2.2.1 + 1 + nb.1.toNat, t.2.2.2.2.2.2 + nb.1.toNat + nb.1.toNat * kb.1.toNat)] else none
    | _, _ => none
  | _ => none
section X12b
variable {cl : List vw_C} {K : xKx} {cc : ByteArray} {own : String} {nL : Nat} {nm : String} {MC MS pc : Nat}
theorem xr_mna {ix : Nat} {C : String} (hs : C = "[" ++ (FieldType.array .int).toString) (hl : Cond.classLink own ix C ∈ x_tbl) (harr : Cond.arrayClass .int ∈ x_tbl) (d : decode cc pc = .ok (.multianewarray ix 2, 4)) : x_Snd cl K cc own nL nm MC MS pc (xi_mna MC MS (pc + 4)) := by
  subst hs
  intro V sc p l e R s m args below meth c D A H0 Q C hA hK t ts hpc hf hg
  unfold xi_mna at hf
  split at hf
  · rename_i k n r hst
    split at hf
    · rename_i kb nb hkb hnb
      cases hb : (decide (kb.1 = kb.2) && (decide (nb.1 = nb.2) && (decide (0 ≤ kb.1) && (decide (0 ≤ nb.1) && (decide (kb.1 ≤ 1000000) && (decide (nb.1 ≤ 1000000) && (t.2.2.2.1.any (fun x => Nat.beq x.1 1) && (Nat.ble (t.2.2.2.2.2.1 + (1 + nb.1.toNat)) MC && Nat.ble (t.2.2.2.2.2.2 + (nb.1.toNat + nb.1.toNat * kb.1.toNat)) MS)))))))) with
      | false => rw [hb] at hf; cases hf
      | true =>
        rw [hb] at hf
        cases hf
        subst hpc
        simp only [Bool.and_eq_true, decide_eq_true_eq, List.any_eq_true] at hb
        obtain ⟨b1, b2, b3, b4, b5, b6, ⟨x9, hx9, k9⟩, b8, b9⟩ := hb
        have b8 := Nat.le_of_ble_eq_true b8
        have b9 := Nat.le_of_ble_eq_true b9
        intro ls stk H locs ⟨lv, ws, tys, h1, h2, h3, h4, h5, h6, h7, h8, h9⟩
        rw [hst] at h3
        match stk, h3 with
        | v1 :: v2 :: rest, h3 =>
          obtain ⟨kk, rfl, i1, i2⟩ := x_bi_ok h9 hkb h3.1
          obtain ⟨nn, rfl, j1, j2⟩ := x_bi_ok h9 hnb h3.2.1
          obtain ⟨c1, c2⟩ := x_const b1 b3 i1 i2
          obtain ⟨d1, d2⟩ := x_const b2 b4 j1 j2
          obtain ⟨i9, hi9⟩ := List.getElem?_of_mem hx9
          have hl9 : i9 < ws.length := by rw [← h4.1]; exact (List.getElem?_eq_some_iff.mp hi9).1
          have hc9 := h4.2.2 i9 x9 ws[i9] hi9 (List.getElem?_eq_getElem hl9)
          obtain ⟨x9a, x9b⟩ := x9
          have e9 : x9a = 1 := Nat.eq_of_beq_eq_true k9
          subst e9
          obtain ⟨t9, cy, f9, ht9, -, -, -⟩ := hc9
          have hcy : s.vm.findClass (FieldType.array .int).toString = some cy := (h5.2 t9 _ ht9).2
          refine va_mna (X := ws) (L := []) (f := fun _ => .inl (cy, 0, .inl (fun _ => 0))) C.1.1 C.1.2.1 C.1.2.2.2.1 (C.1.2.2.2.2 _ hl) C.2.2.2.2.2.2.2.1 (C.1.2.2.2.2 _ harr) hcy h5 (by show va_P D cl (ws ++ []) H; rw [List.append_nil]; exact h6) (by show va_D A (ws ++ []); rw [List.append_nil]; exact h7) h8 hA (z := (kb.1.toNat, .inl (fun _ => 0))) d1 c1 d2 c2 (by omega) (by show kb.1.toNat * 4 ≤ 536870912; omega) (by omega) rfl rfl (by rw [C.2.2.1]; exact b8) (by rw [C.2.2.2.1]; exact b9) (fun c => by
            rw [vp_cell_i]
            show ({ cls := c, slots := Array.replicate kb.1.toNat (.int 0), vm := .none } : Cell) = _
            rw [arrV_new]) d (fun q rr cA H1 hinj hnl hK1 hP1 hD1 hS1 => ?_)
          have ew : (ws ++ [(q, .inl (cA, nb.1.toNat, .inr (.inr (.inr (.inr (fun i => if i < nb.1.toNat then some (rr i) else none))))))]) ++ va_pl ([] ++ (List.range nb.1.toNat).map rr) (vr_up (fun _ => .inl (cy, 0, .inl (fun _ => 0))) ((List.range nb.1.toNat).map rr) (.inl (cy, kb.1.toNat, .inl (fun _ => 0)))) = ws ++ ((q, .inl (cA, nb.1.toNat, .inr (.inr (.inr (.inr (fun i => if i < nb.1.toNat then some (rr i) else none)))))) :: (List.range nb.1.toNat).map (fun i => ((rr i, .inl (cy, kb.1.toNat, .inl (fun _ => 0))) : Nat × va_E))) := by
            rw [List.append_assoc, List.nil_append]
            unfold va_pl
            rw [List.map_map]
            congr 1
            show (q, _) :: _ = (q, _) :: _
            congr 1
            apply List.map_congr_left
            intro i hi
            simp only [Function.comp]
            rw [vr_up_in (List.mem_map_of_mem hi)]
          rw [ew] at hP1 hD1
          refine hg _ List.mem_cons_self ls (.ref q :: rest) H1 locs ⟨lv, _, _, h1, ?_, ⟨?_, ?_⟩, ?_, hK1, hP1, hD1, hS1, h9⟩
          · rw [List.map_append]; exact x_lv_app h2
          · refine ⟨q, ?_, rfl⟩
            simp only [Int.toNat_natCast]
            rw [h4.1]
            simp
          · rw [List.map_append]; exact x_stk_app h3.2.2
          · refine x_world_app h4 (by simp) (fun j x y hx hy => ?_)
            cases j with
            | zero =>
              cases hx
              cases hy
              refine ⟨tys.length, cA, _, by simp, rfl, by show nb.1.toNat < 2147483648; omega, fun i hi => ?_⟩
              have hi : i < nb.1.toNat := hi
              show x_rel _ V sc (x_get (2, 0, 0) (x_rws (t.2.2.2.1.length + 1) nb.1.toNat) i) (va_rf (if i < nb.1.toNat then some (rr i) else none))
              rw [x_rws_get _ _ _ _ hi, if_pos hi]
              refine ⟨rr i, ?_, rfl⟩
              simp only [Int.toNat_natCast]
              rw [h4.1, List.map_append, List.getElem?_append_right (by rw [List.length_map]; omega), List.length_map]
              rw [show ws.length + 1 + i - ws.length = i + 1 by omega]
              simp only [List.map_cons, List.getElem?_cons_succ, List.map_map]
              rw [List.getElem?_map, List.getElem?_range hi]
              rfl
            | succ j =>
              simp only [List.getElem?_cons_succ] at hx hy
              have hj : j < nb.1.toNat := by
                have := (List.getElem?_eq_some_iff.mp hx).1
                simpa using this
              rw [List.getElem?_replicate, if_pos hj] at hx
              cases hx
              rw [List.getElem?_map, List.getElem?_range hj] at hy
              cases hy
              refine ⟨t9, cy, _, by rw [List.getElem?_append_left (List.getElem?_eq_some_iff.mp ht9).1]; exact ht9, rfl, by show kb.1.toNat < 2147483648; omega, fun i hi => ⟨0, rfl, by show (0 : Int) ≤ Int32.toInt 0; decide, by show Int32.toInt 0 ≤ (0 : Int); decide⟩⟩
    · cases hf
  · cases hf
def xF_anyL (_ _ : Int × Int) : Option xV := some x_anyL
theorem xr_lshl (d : decode cc pc = .ok (.lshl, 1)) : x_Snd cl K cc own nL nm MC MS pc (xi_shL xF_anyL (pc + 1)) := xi_shL_ok (g := fun x y => x <<< (y.toInt64 &&& 63)) (fun x y => (fun S => fun k => lv_lshl S.1 S.2.1 d rfl k)) (fun a b z x y h h1 h2 h3 h4 ad V sc => by cases h; exact x_anyL_ok _)
def xF_mulL (a b : Int × Int) : Option xV := some (x_J (x_min (x_min (a.1 * b.1) (a.2 * b.1)) (x_min (a.1 * b.2) (a.2 * b.2))) (x_max (x_max (a.1 * b.1) (a.2 * b.1)) (x_max (a.1 * b.2) (a.2 * b.2))))
theorem xr_lmul (d : decode cc pc = .ok (.lmul, 1)) : x_Snd cl K cc own nL nm MC MS pc (xi_binL xF_mulL (pc + 1)) := xi_binL_ok (g := fun x y => x * y) (fun _ => True) (fun x y _ => (fun S => fun k => lv_lmul S.1 S.2.1 d k)) (fun a b z x y h h1 h2 h3 h4 => ⟨trivial, fun ad V sc => by cases h; exact x_J_ok (Int64.toInt_mul x y) (x_corner h1 h2 h3 h4).1 (x_corner h1 h2 h3 h4).2⟩)
def xF_negL (a : Int × Int) : xV := x_J (-a.2) (-a.1)
theorem xr_lneg (d : decode cc pc = .ok (.lneg, 1)) : x_Snd cl K cc own nL nm MC MS pc (xi_unL xF_negL (pc + 1)) := xi_unL_ok (g := fun x => .long (-x)) (fun x => (fun S => fun k => lv_lneg S.1 S.2.1 d k)) (fun a x h1 h2 ad V sc => x_J_ok (Int64.toInt_neg x) (by omega) (by omega))
def xF_l2i (a : Int × Int) : xV := x_I a.1 a.2
theorem xr_l2i (d : decode cc pc = .ok (.l2i, 1)) : x_Snd cl K cc own nL nm MC MS pc (xi_unL xF_l2i (pc + 1)) := xi_unL_ok (g := fun x => .int x.toInt32) (fun x => (fun S => fun k => lv_l2i S.1 S.2.1 d rfl k)) (fun a x h1 h2 ad V sc => x_I_ok (Int64.toInt_toInt32 x) h1 h2)
end X12b
end
section
/-! tables as trees -/
def x_nof : xS → Option (List xS) := fun _ => none
def x_e7 : xE := (7, x_nof, 0, 0)
def x_T (k : Nat) (a b : Nat → xE) : Nat → xE := fun pc => bif Nat.ble pc k then a pc else b pc
def x_L (k : Nat) (e : xE) : Nat → xE := fun pc => bif Nat.beq pc k then e else x_e7
theorem x_Tok {P : Nat → xE → Prop} {k : Nat} {a b : Nat → xE} (ha : ∀ pc, P pc (a pc)) (hb : ∀ pc, P pc (b pc)) : ∀ pc, P pc (x_T k a b pc) := fun pc => by
  unfold x_T
  cases Nat.ble pc k with
  | true => exact ha pc
  | false => exact hb pc
theorem x_Lok {cl : List vw_C} {K : xKx} {I : Nat → xM} {q : xM} {k : Nat} {e : xE} (h : x_EOq cl K I q k e) : ∀ pc, x_EOq cl K I q pc (x_L k e pc) := fun pc => by
  unfold x_L
  cases hb : Nat.beq pc k with
  | true =>
    have := Nat.eq_of_beq_eq_true hb
    subst this
    exact h
  | false => exact trivial
theorem x_Tok2 {cl : List vw_C} {K : xKx} {I : Nat → xM} {q : xM} {k : Nat} {a b : Nat → xE} (ha : ∀ pc, x_EOq cl K I q pc (a pc)) (hb : ∀ pc, x_EOq cl K I q pc (b pc)) : ∀ pc, x_EOq cl K I q pc (x_T k a b pc) := x_Tok (P := fun pc e => x_EOq cl K I q pc e) ha hb
/-- words by their places, in one walk -/
def x_walk : List Nat → List Cond → List Cond
  | [], _ => []
  | g :: gs, l => match l.drop g with
    | w :: r => w :: x_walk gs r
    | [] => []
theorem x_walk_in : ∀ (gs : List Nat) (l : List Cond), ∀ w ∈ x_walk gs l, w ∈ l
  | [], _, w, h => absurd h List.not_mem_nil
  | g :: gs, l, w, h => by
    unfold x_walk at h
    split at h
    · rename_i w0 r hd
      have hr : ∀ x, x ∈ w0 :: r → x ∈ l := fun x hx => List.mem_of_mem_drop (hd ▸ hx)
      rcases List.mem_cons.mp h with rfl | h
      · exact hr _ List.mem_cons_self
      · exact hr _ (List.mem_cons_of_mem _ (x_walk_in gs r w h))
    · exact absurd h List.not_mem_nil
theorem x_words {gs : List Nat} {ws big : List Cond} (h : x_walk gs big = ws) : ∀ w ∈ ws, w ∈ big := fun w hw => x_walk_in gs big w (h ▸ hw)
theorem x_pick {ws big : List Cond} {w : Cond} (hin : ∀ w ∈ ws, w ∈ big) (i : Nat) (h : ws[i]? = some w) : w ∈ big := hin w (List.mem_of_getElem? h)
theorem x_all_pieces {f : Cond → Bool} {a b : List Cond} (ha : a.all f = true) (hb : b.all f = true) : (a ++ b).all f = true := by rw [List.all_append, ha, hb]; rfl
theorem x_places {big ws : List Cond} (ps : List Nat) (hp : ws = ps.filterMap (fun i => big[i]?)) : ∀ w ∈ ws, w ∈ big := fun w hw => by
  rw [hp] at hw
  obtain ⟨i, -, hi⟩ := List.mem_filterMap.mp hw
  exact List.mem_of_getElem? hi
/-- many decodings in one check -/
theorem x_dk {c : ByteArray} {L : List (Nat × Instr × Nat)} (h : L.all (fun q => decide (decode c q.1 = .ok (q.2.1, q.2.2))) = true) (i : Nat) {pc len : Nat} {ins : Instr} (hi : L[i]? = some (pc, ins, len)) : decode c pc = .ok (ins, len) := by
  have := List.all_eq_true.mp h _ (List.mem_of_getElem? hi)
  simpa using this
def x_TI (k : Nat) (a b : Nat → xM) : Nat → xM := fun M => bif Nat.ble M k then a M else b M
def x_TC (k : Nat) (a b : Nat → Nat → xE) : Nat → Nat → xE := fun M => bif Nat.ble M k then a M else b M
theorem x_st {cl : List vw_C} {K : xKx} {I : Nat → xM} {q : xM} {pc : Nat} {f : xS → Option (List xS)} (h : x_Snd cl K (xm_b q) (xm_y q).cls (xm_l q) (xm_y q).name (xm_c q) (xm_s q) pc f) : x_EOq cl K I q pc (0, f, 0, 0) := h
theorem x_rt {cl : List vw_C} {K : xKx} {I : Nat → xM} {q : xM} {pc k : Nat} (h : x_Rt (xm_b q) (xm_r q) pc k) : x_EOq cl K I q pc (1, x_nof, k, 0) := h
theorem x_ca {cl : List vw_C} {K : xKx} {I : Nat → xM} {q q' : xM} {pc M' na : Nat} (e : I M' = q') (h : x_Cl (xm_b q) (xm_y q).cls (xm_l q) (xm_y q).name (xm_c q) (xm_s q) pc q' na) : x_EOq cl K I q pc (2, x_nof, M', na) := by
  show x_Cl _ _ _ _ _ _ _ (I M') na
  rw [e]
  exact h
/-- a tableswitch's ranges, checked -/
def x_tswB (pc : Nat) (dflt lo : Int) (n : Nat) (offs : Array Int) (l : List (Int × Int × Nat)) : Bool :=
  l.any (fun q => decide (q.1 = -2147483648) && (decide (q.2.1 = lo - 1) && decide ((pc : Int) + dflt = (q.2.2 : Int)))) &&
  (l.any (fun q => decide (q.1 = lo + n) && (decide (q.2.1 = 2147483647) && decide ((pc : Int) + dflt = (q.2.2 : Int)))) &&
  (List.range n).all (fun j => l.any (fun q => decide (q.1 = lo + j) && (decide (q.2.1 = lo + j) && decide (offs[j]?.map (fun o => (pc : Int) + o) = some (q.2.2 : Int))))))
theorem xr_tswB {cl : List vw_C} {K : xKx} {cc : ByteArray} {own : String} {nL : Nat} {nm : String} {MC MS pc : Nat} {dflt lo hi : Int} {offs : Array Int} {len n : Nat} {l : List (Int × Int × Nat)} (d : decode cc pc = .ok (.tableswitch dflt lo hi offs, len)) (hn : hi + 1 = lo + n) (h : x_tswB pc dflt lo n offs l = true) : x_Snd cl K cc own nL nm MC MS pc (xi_sw l) := by
  unfold x_tswB at h
  simp only [Bool.and_eq_true, List.any_eq_true, List.all_eq_true, decide_eq_true_eq] at h
  obtain ⟨⟨q1, h1, a1, a2, a3⟩, ⟨q2, h2, b1, b2, b3⟩, h3⟩ := h
  refine xr_tsw d ⟨q1, h1, a1, a2, a3⟩ ⟨q2, h2, by omega, b2, b3⟩ (fun j hj => ?_)
  obtain ⟨q, hq, c1, c2, c3⟩ := h3 j (List.mem_range.mpr (by omega))
  cases ho : offs[j]? with
  | none => rw [ho] at c3; cases c3
  | some off =>
    rw [ho] at c3
    exact ⟨q, hq, c1, c2, off, rfl, Option.some.inj c3⟩
end
section
/-! names and words (the names of classes, fields and methods are those of the printed list) -/
def RX0 : String := "RobotCellHouse$Arm"
def TX0 : u_T := fun k => match k with
  | 0 => ("RobotCellHouse$Arm", "joint", "[LRobotCellHouse$Joint;", true)
  | 1 => ("RobotCellHouse$Arm", "x", "[I", true)
  | 2 => ("RobotCellHouse$Arm", "y", "[I", true)
  | 3 => ("RobotCellHouse$Arm", "oldX", "[I", true)
  | 4 => ("RobotCellHouse$Arm", "oldY", "[I", true)
  | 5 => ("RobotCellHouse$Arm", "spared", "[I", true)
  | 6 => ("RobotCellHouse$Arm", "variable", "[I", true)
  | 7 => ("RobotCellHouse$Arm", "code", "LRobotCellHouse$Code;", false)
  | 8 => ("RobotCellHouse$Arm", "joints", "I", false)
  | 9 => ("RobotCellHouse$Arm", "direction", "I", false)
  | 10 => ("RobotCellHouse$Arm", "reach", "I", false)
  | 11 => ("RobotCellHouse$Arm", "state", "I", false)
  | 12 => ("RobotCellHouse$Arm", "ticks", "I", false)
  | 13 => ("RobotCellHouse$Arm", "owner", "I", false)
  | 14 => ("RobotCellHouse$Arm", "held", "I", false)
  | 15 => ("RobotCellHouse$Arm", "heldRadius", "I", false)
  | 16 => ("RobotCellHouse$Arm", "faulted", "I", false)
  | 17 => ("RobotCellHouse$Arm", "way", "I", false)
  | 18 => ("RobotCellHouse$Arm", "at", "I", false)
  | _ => ("RobotCellHouse$Arm", "moved", "I", false)
def tyX0 : Nat → FieldType := fun k => match k with
  | 0 => .array (.object "RobotCellHouse$Joint")
  | 1 => .array .int
  | 2 => .array .int
  | 3 => .array .int
  | 4 => .array .int
  | 5 => .array .int
  | 6 => .array .int
  | 7 => .object "RobotCellHouse$Code"
  | 8 => .int
  | 9 => .int
  | 10 => .int
  | 11 => .int
  | 12 => .int
  | 13 => .int
  | 14 => .int
  | 15 => .int
  | 16 => .int
  | 17 => .int
  | 18 => .int
  | _ => .int
theorem nmX0 : ∀ a, a < 20 → ∀ b, b < 20 → a ≠ b → (TX0 a).2.1 ≠ (TX0 b).2.1 := by decide +kernel
theorem tyX0_ok : ∀ k, k < 20 → parseFieldDescriptor (TX0 k).2.2.1 = some (tyX0 k) := by decide +kernel
def RX1 : String := "RobotCellHouse$Code"
def TX1 : u_T := fun k => match k with
  | 0 => ("RobotCellHouse$Code", "length", "I", false)
  | 1 => ("RobotCellHouse$Code", "routines", "I", false)
  | 2 => ("RobotCellHouse$Code", "variables", "I", false)
  | 3 => ("RobotCellHouse$Code", "entry", "[I", true)
  | _ => ("RobotCellHouse$Code", "rows", "[I", true)
def tyX1 : Nat → FieldType := fun k => match k with
  | 0 => .int
  | 1 => .int
  | 2 => .int
  | 3 => .array .int
  | _ => .array .int
theorem nmX1 : ∀ a, a < 5 → ∀ b, b < 5 → a ≠ b → (TX1 a).2.1 ≠ (TX1 b).2.1 := by decide +kernel
theorem tyX1_ok : ∀ k, k < 5 → parseFieldDescriptor (TX1 k).2.2.1 = some (tyX1 k) := by decide +kernel
def RX2 : String := "RobotCellHouse$Core"
def TX2 : u_T := fun k => match k with
  | 0 => ("RobotCellHouse$Core", "time", "I", false)
  | 1 => ("RobotCellHouse$Core", "events", "I", false)
  | 2 => ("RobotCellHouse$Core", "inputs", "I", false)
  | 3 => ("RobotCellHouse$Core", "power", "Z", false)
  | 4 => ("RobotCellHouse$Core", "causeKind", "I", false)
  | 5 => ("RobotCellHouse$Core", "causeNumber", "I", false)
  | 6 => ("RobotCellHouse$Core", "causeTick", "I", false)
  | 7 => ("RobotCellHouse$Core", "apart", "Z", false)
  | 8 => ("RobotCellHouse$Core", "log", "[I", true)
  | 9 => ("RobotCellHouse$Core", "differ", "[I", true)
  | 10 => ("RobotCellHouse$Core", "may", "[Z", true)
  | 11 => ("RobotCellHouse$Core", "one", "[Z", true)
  | 12 => ("RobotCellHouse$Core", "other", "[Z", true)
  | 13 => ("RobotCellHouse$Core", "faulty", "[Z", true)
  | _ => ("RobotCellHouse$Core", "differed", "[I", true)
def tyX2 : Nat → FieldType := fun k => match k with
  | 0 => .int
  | 1 => .int
  | 2 => .int
  | 3 => .boolean
  | 4 => .int
  | 5 => .int
  | 6 => .int
  | 7 => .boolean
  | 8 => .array .int
  | 9 => .array .int
  | 10 => .array .boolean
  | 11 => .array .boolean
  | 12 => .array .boolean
  | 13 => .array .boolean
  | _ => .array .int
theorem nmX2 : ∀ a, a < 15 → ∀ b, b < 15 → a ≠ b → (TX2 a).2.1 ≠ (TX2 b).2.1 := by decide +kernel
theorem tyX2_ok : ∀ k, k < 15 → parseFieldDescriptor (TX2 k).2.2.1 = some (tyX2 k) := by decide +kernel
def RX3 : String := "RobotCellHouse$Doer"
def TX3 : u_T := fun k => match k with
  | 0 => ("RobotCellHouse$Doer", "arms", "[LRobotCellHouse$Arm;", true)
  | 1 => ("RobotCellHouse$Doer", "points", "LRobotCellHouse$Points;", true)
  | 2 => ("RobotCellHouse$Doer", "floor", "LRobotCellHouse$Floor;", true)
  | 3 => ("RobotCellHouse$Doer", "core", "LRobotCellHouse$Core;", true)
  | 4 => ("RobotCellHouse$Doer", "tasks", "[LRobotCellHouse$Task;", true)
  | 5 => ("RobotCellHouse$Doer", "locks", "[I", true)
  | 6 => ("RobotCellHouse$Doer", "stack", "[I", true)
  | 7 => ("RobotCellHouse$Doer", "goals", "[I", true)
  | 8 => ("RobotCellHouse$Doer", "top", "I", false)
  | 9 => ("RobotCellHouse$Doer", "waits", "I", false)
  | 10 => ("RobotCellHouse$Doer", "raisedError", "I", false)
  | _ => ("RobotCellHouse$Doer", "raised", "Z", false)
def tyX3 : Nat → FieldType := fun k => match k with
  | 0 => .array (.object "RobotCellHouse$Arm")
  | 1 => .object "RobotCellHouse$Points"
  | 2 => .object "RobotCellHouse$Floor"
  | 3 => .object "RobotCellHouse$Core"
  | 4 => .array (.object "RobotCellHouse$Task")
  | 5 => .array .int
  | 6 => .array .int
  | 7 => .array .int
  | 8 => .int
  | 9 => .int
  | 10 => .int
  | _ => .boolean
theorem nmX3 : ∀ a, a < 12 → ∀ b, b < 12 → a ≠ b → (TX3 a).2.1 ≠ (TX3 b).2.1 := by decide +kernel
theorem tyX3_ok : ∀ k, k < 12 → parseFieldDescriptor (TX3 k).2.2.1 = some (tyX3 k) := by decide +kernel
def RX4 : String := "RobotCellHouse$Floor"
def TX4 : u_T := fun k => match k with
  | 0 => ("RobotCellHouse$Floor", "belts", "I", false)
  | 1 => ("RobotCellHouse$Floor", "parts", "I", false)
  | 2 => ("RobotCellHouse$Floor", "length", "[I", true)
  | 3 => ("RobotCellHouse$Floor", "speed", "[I", true)
  | 4 => ("RobotCellHouse$Floor", "point", "[I", true)
  | 5 => ("RobotCellHouse$Floor", "from", "[I", true)
  | 6 => ("RobotCellHouse$Floor", "to", "[I", true)
  | 7 => ("RobotCellHouse$Floor", "x", "[I", true)
  | 8 => ("RobotCellHouse$Floor", "y", "[I", true)
  | 9 => ("RobotCellHouse$Floor", "stepX", "[I", true)
  | 10 => ("RobotCellHouse$Floor", "stepY", "[I", true)
  | 11 => ("RobotCellHouse$Floor", "width", "[I", true)
  | 12 => ("RobotCellHouse$Floor", "order", "[[I", true)
  | 13 => ("RobotCellHouse$Floor", "ordered", "[I", true)
  | 14 => ("RobotCellHouse$Floor", "where", "[I", true)
  | 15 => ("RobotCellHouse$Floor", "way", "[I", true)
  | 16 => ("RobotCellHouse$Floor", "radius", "[I", true)
  | 17 => ("RobotCellHouse$Floor", "placeX", "[I", true)
  | 18 => ("RobotCellHouse$Floor", "placeY", "[I", true)
  | _ => ("RobotCellHouse$Floor", "first", "[[I", true)
def tyX4 : Nat → FieldType := fun k => match k with
  | 0 => .int
  | 1 => .int
  | 2 => .array .int
  | 3 => .array .int
  | 4 => .array .int
  | 5 => .array .int
  | 6 => .array .int
  | 7 => .array .int
  | 8 => .array .int
  | 9 => .array .int
  | 10 => .array .int
  | 11 => .array .int
  | 12 => .array (.array .int)
  | 13 => .array .int
  | 14 => .array .int
  | 15 => .array .int
  | 16 => .array .int
  | 17 => .array .int
  | 18 => .array .int
  | _ => .array (.array .int)
theorem nmX4 : ∀ a, a < 20 → ∀ b, b < 20 → a ≠ b → (TX4 a).2.1 ≠ (TX4 b).2.1 := by decide +kernel
theorem tyX4_ok : ∀ k, k < 20 → parseFieldDescriptor (TX4 k).2.2.1 = some (tyX4 k) := by decide +kernel
def RX5 : String := "RobotCellHouse$Joint"
def TX5 : u_T := fun k => match k with
  | 0 => ("RobotCellHouse$Joint", "kind", "I", false)
  | 1 => ("RobotCellHouse$Joint", "low", "I", false)
  | 2 => ("RobotCellHouse$Joint", "high", "I", false)
  | 3 => ("RobotCellHouse$Joint", "length", "I", false)
  | 4 => ("RobotCellHouse$Joint", "radius", "I", false)
  | 5 => ("RobotCellHouse$Joint", "speed", "I", false)
  | 6 => ("RobotCellHouse$Joint", "gain", "I", false)
  | 7 => ("RobotCellHouse$Joint", "value", "I", false)
  | 8 => ("RobotCellHouse$Joint", "step", "I", false)
  | 9 => ("RobotCellHouse$Joint", "goal", "I", false)
  | 10 => ("RobotCellHouse$Joint", "begun", "I", false)
  | _ => ("RobotCellHouse$Joint", "before", "I", false)
def tyX5 : Nat → FieldType := fun k => match k with
  | 0 => .int
  | 1 => .int
  | 2 => .int
  | 3 => .int
  | 4 => .int
  | 5 => .int
  | 6 => .int
  | 7 => .int
  | 8 => .int
  | 9 => .int
  | 10 => .int
  | _ => .int
theorem nmX5 : ∀ a, a < 12 → ∀ b, b < 12 → a ≠ b → (TX5 a).2.1 ≠ (TX5 b).2.1 := by decide +kernel
theorem tyX5_ok : ∀ k, k < 12 → parseFieldDescriptor (TX5 k).2.2.1 = some (tyX5 k) := by decide +kernel
def RX6 : String := "RobotCellHouse$Planner"
def TX6 : u_T := fun k => match k with
  | 0 => ("RobotCellHouse$Planner", "plans", "I", false)
  | 1 => ("RobotCellHouse$Planner", "wide", "I", false)
  | 2 => ("RobotCellHouse$Planner", "margin", "I", false)
  | 3 => ("RobotCellHouse$Planner", "origin", "I", false)
  | 4 => ("RobotCellHouse$Planner", "values", "[I", true)
  | 5 => ("RobotCellHouse$Planner", "down", "[I", true)
  | 6 => ("RobotCellHouse$Planner", "size", "[I", true)
  | 7 => ("RobotCellHouse$Planner", "stride", "[I", true)
  | 8 => ("RobotCellHouse$Planner", "queue", "[I", true)
  | 9 => ("RobotCellHouse$Planner", "came", "[I", true)
  | 10 => ("RobotCellHouse$Planner", "steps", "[B", true)
  | 11 => ("RobotCellHouse$Planner", "lengths", "[I", true)
  | _ => ("RobotCellHouse$Planner", "widths", "[I", true)
def tyX6 : Nat → FieldType := fun k => match k with
  | 0 => .int
  | 1 => .int
  | 2 => .int
  | 3 => .int
  | 4 => .array .int
  | 5 => .array .int
  | 6 => .array .int
  | 7 => .array .int
  | 8 => .array .int
  | 9 => .array .int
  | 10 => .array .byte
  | 11 => .array .int
  | _ => .array .int
theorem nmX6 : ∀ a, a < 13 → ∀ b, b < 13 → a ≠ b → (TX6 a).2.1 ≠ (TX6 b).2.1 := by decide +kernel
theorem tyX6_ok : ∀ k, k < 13 → parseFieldDescriptor (TX6 k).2.2.1 = some (tyX6 k) := by decide +kernel
def RX7 : String := "RobotCellHouse$Points"
def TX7 : u_T := fun k => match k with
  | 0 => ("RobotCellHouse$Points", "own", "[I", true)
  | 1 => ("RobotCellHouse$Points", "value", "[I", true)
  | 2 => ("RobotCellHouse$Points", "rises", "[I", true)
  | 3 => ("RobotCellHouse$Points", "forcedTo", "[I", true)
  | 4 => ("RobotCellHouse$Points", "source", "[I", true)
  | 5 => ("RobotCellHouse$Points", "forced", "[Z", true)
  | 6 => ("RobotCellHouse$Points", "turned", "[Z", true)
  | _ => ("RobotCellHouse$Points", "order", "[I", true)
def tyX7 : Nat → FieldType := fun k => match k with
  | 0 => .array .int
  | 1 => .array .int
  | 2 => .array .int
  | 3 => .array .int
  | 4 => .array .int
  | 5 => .array .boolean
  | 6 => .array .boolean
  | _ => .array .int
theorem nmX7 : ∀ a, a < 8 → ∀ b, b < 8 → a ≠ b → (TX7 a).2.1 ≠ (TX7 b).2.1 := by decide +kernel
theorem tyX7_ok : ∀ k, k < 8 → parseFieldDescriptor (TX7 k).2.2.1 = some (tyX7 k) := by decide +kernel
def RX8 : String := "RobotCellHouse$Reader"
def TX8 : u_T := fun k => match k with
  | 0 => ("RobotCellHouse$Reader", "length", "I", false)
  | 1 => ("RobotCellHouse$Reader", "fault", "I", false)
  | 2 => ("RobotCellHouse$Reader", "place", "I", false)
  | 3 => ("RobotCellHouse$Reader", "code", "LRobotCellHouse$Code;", false)
  | 4 => ("RobotCellHouse$Reader", "text", "[B", true)
  | 5 => ("RobotCellHouse$Reader", "kind", "I", false)
  | 6 => ("RobotCellHouse$Reader", "at", "I", false)
  | 7 => ("RobotCellHouse$Reader", "next", "I", false)
  | 8 => ("RobotCellHouse$Reader", "number", "I", false)
  | 9 => ("RobotCellHouse$Reader", "sense", "I", false)
  | 10 => ("RobotCellHouse$Reader", "sensePlace", "I", false)
  | 11 => ("RobotCellHouse$Reader", "open", "I", false)
  | 12 => ("RobotCellHouse$Reader", "tries", "I", false)
  | 13 => ("RobotCellHouse$Reader", "loop", "I", false)
  | 14 => ("RobotCellHouse$Reader", "routines", "I", false)
  | 15 => ("RobotCellHouse$Reader", "variableAt", "[I", true)
  | _ => ("RobotCellHouse$Reader", "routineAt", "[I", true)
def tyX8 : Nat → FieldType := fun k => match k with
  | 0 => .int
  | 1 => .int
  | 2 => .int
  | 3 => .object "RobotCellHouse$Code"
  | 4 => .array .byte
  | 5 => .int
  | 6 => .int
  | 7 => .int
  | 8 => .int
  | 9 => .int
  | 10 => .int
  | 11 => .int
  | 12 => .int
  | 13 => .int
  | 14 => .int
  | 15 => .array .int
  | _ => .array .int
theorem nmX8 : ∀ a, a < 17 → ∀ b, b < 17 → a ≠ b → (TX8 a).2.1 ≠ (TX8 b).2.1 := by decide +kernel
theorem tyX8_ok : ∀ k, k < 17 → parseFieldDescriptor (TX8 k).2.2.1 = some (tyX8 k) := by decide +kernel
def RX9 : String := "RobotCellHouse$Shapes"
def TX9 : u_T := fun k => match k with
  | 0 => ("RobotCellHouse$Shapes", "solids", "I", false)
  | 1 => ("RobotCellHouse$Shapes", "zones", "I", false)
  | 2 => ("RobotCellHouse$Shapes", "x", "[I", true)
  | 3 => ("RobotCellHouse$Shapes", "y", "[I", true)
  | 4 => ("RobotCellHouse$Shapes", "w", "[I", true)
  | 5 => ("RobotCellHouse$Shapes", "h", "[I", true)
  | 6 => ("RobotCellHouse$Shapes", "\x72", "[I", true)
  | 7 => ("RobotCellHouse$Shapes", "zoneArm", "[I", true)
  | 8 => ("RobotCellHouse$Shapes", "most", "[I", true)
  | 9 => ("RobotCellHouse$Shapes", "left", "[I", true)
  | 10 => ("RobotCellHouse$Shapes", "low", "[I", true)
  | 11 => ("RobotCellHouse$Shapes", "right", "[I", true)
  | 12 => ("RobotCellHouse$Shapes", "high", "[I", true)
  | 13 => ("RobotCellHouse$Shapes", "ax", "I", false)
  | 14 => ("RobotCellHouse$Shapes", "ay", "I", false)
  | 15 => ("RobotCellHouse$Shapes", "bx", "I", false)
  | _ => ("RobotCellHouse$Shapes", "by", "I", false)
def tyX9 : Nat → FieldType := fun k => match k with
  | 0 => .int
  | 1 => .int
  | 2 => .array .int
  | 3 => .array .int
  | 4 => .array .int
  | 5 => .array .int
  | 6 => .array .int
  | 7 => .array .int
  | 8 => .array .int
  | 9 => .array .int
  | 10 => .array .int
  | 11 => .array .int
  | 12 => .array .int
  | 13 => .int
  | 14 => .int
  | 15 => .int
  | _ => .int
theorem nmX9 : ∀ a, a < 17 → ∀ b, b < 17 → a ≠ b → (TX9 a).2.1 ≠ (TX9 b).2.1 := by decide +kernel
theorem tyX9_ok : ∀ k, k < 17 → parseFieldDescriptor (TX9 k).2.2.1 = some (tyX9 k) := by decide +kernel
def RX10 : String := "RobotCellHouse$Task"
def TX10 : u_T := fun k => match k with
  | 0 => ("RobotCellHouse$Task", "number", "I", true)
  | 1 => ("RobotCellHouse$Task", "state", "I", false)
  | 2 => ("RobotCellHouse$Task", "arm", "I", false)
  | 3 => ("RobotCellHouse$Task", "pc", "I", false)
  | 4 => ("RobotCellHouse$Task", "frames", "I", false)
  | 5 => ("RobotCellHouse$Task", "error", "I", false)
  | 6 => ("RobotCellHouse$Task", "caught", "I", false)
  | 7 => ("RobotCellHouse$Task", "born", "I", false)
  | 8 => ("RobotCellHouse$Task", "awaited", "I", false)
  | 9 => ("RobotCellHouse$Task", "since", "I", false)
  | 10 => ("RobotCellHouse$Task", "broken", "Z", false)
  | 11 => ("RobotCellHouse$Task", "watched", "I", false)
  | 12 => ("RobotCellHouse$Task", "watcher", "I", false)
  | 13 => ("RobotCellHouse$Task", "kept", "I", false)
  | 14 => ("RobotCellHouse$Task", "watchFrame", "I", false)
  | 15 => ("RobotCellHouse$Task", "tries", "I", false)
  | 16 => ("RobotCellHouse$Task", "returnTo", "[I", true)
  | 17 => ("RobotCellHouse$Task", "triesBelow", "[I", true)
  | 18 => ("RobotCellHouse$Task", "tryAt", "[I", true)
  | 19 => ("RobotCellHouse$Task", "tryPart", "[I", true)
  | _ => ("RobotCellHouse$Task", "tryValue", "[I", true)
def tyX10 : Nat → FieldType := fun k => match k with
  | 0 => .int
  | 1 => .int
  | 2 => .int
  | 3 => .int
  | 4 => .int
  | 5 => .int
  | 6 => .int
  | 7 => .int
  | 8 => .int
  | 9 => .int
  | 10 => .boolean
  | 11 => .int
  | 12 => .int
  | 13 => .int
  | 14 => .int
  | 15 => .int
  | 16 => .array .int
  | 17 => .array .int
  | 18 => .array .int
  | 19 => .array .int
  | _ => .array .int
theorem nmX10 : ∀ a, a < 21 → ∀ b, b < 21 → a ≠ b → (TX10 a).2.1 ≠ (TX10 b).2.1 := by decide +kernel
theorem tyX10_ok : ∀ k, k < 21 → parseFieldDescriptor (TX10 k).2.2.1 = some (tyX10 k) := by decide +kernel
def RX11 : String := "RobotCellHouse"
def TX11 : u_T := fun k => match k with
  | 0 => ("RobotCellHouse", "reader", "LRobotCellHouse$Reader;", true)
  | 1 => ("RobotCellHouse", "doer", "LRobotCellHouse$Doer;", true)
  | 2 => ("RobotCellHouse", "arms", "[LRobotCellHouse$Arm;", true)
  | 3 => ("RobotCellHouse", "points", "LRobotCellHouse$Points;", true)
  | 4 => ("RobotCellHouse", "floor", "LRobotCellHouse$Floor;", true)
  | 5 => ("RobotCellHouse", "core", "LRobotCellHouse$Core;", true)
  | 6 => ("RobotCellHouse", "shapes", "LRobotCellHouse$Shapes;", true)
  | 7 => ("RobotCellHouse", "planner", "LRobotCellHouse$Planner;", true)
  | 8 => ("RobotCellHouse", "aims", "[I", true)
  | 9 => ("RobotCellHouse", "book", "[I", true)
  | 10 => ("RobotCellHouse", "never", "[I", true)
  | 11 => ("RobotCellHouse", "armCount", "I", false)
  | 12 => ("RobotCellHouse", "rows", "I", false)
  | 13 => ("RobotCellHouse", "isOpen", "Z", false)
  | _ => ("RobotCellHouse", "counting", "Z", false)
def tyX11 : Nat → FieldType := fun k => match k with
  | 0 => .object "RobotCellHouse$Reader"
  | 1 => .object "RobotCellHouse$Doer"
  | 2 => .array (.object "RobotCellHouse$Arm")
  | 3 => .object "RobotCellHouse$Points"
  | 4 => .object "RobotCellHouse$Floor"
  | 5 => .object "RobotCellHouse$Core"
  | 6 => .object "RobotCellHouse$Shapes"
  | 7 => .object "RobotCellHouse$Planner"
  | 8 => .array .int
  | 9 => .array .int
  | 10 => .array .int
  | 11 => .int
  | 12 => .int
  | 13 => .boolean
  | _ => .boolean
theorem nmX11 : ∀ a, a < 15 → ∀ b, b < 15 → a ≠ b → (TX11 a).2.1 ≠ (TX11 b).2.1 := by decide +kernel
theorem tyX11_ok : ∀ k, k < 15 → parseFieldDescriptor (TX11 k).2.2.1 = some (tyX11 k) := by decide +kernel
def RX12 : String := "RobotCellHouseModel"
def TX12 : u_T := fun k => match k with
  | 0 => ("RobotCellHouseModel", "now", "[I", true)
  | 1 => ("RobotCellHouseModel", "opened", "[I", true)
  | 2 => ("RobotCellHouseModel", "shots", "[I", true)
  | 3 => ("RobotCellHouseModel", "isOpen", "Z", false)
  | 4 => ("RobotCellHouseModel", "book", "[I", true)
  | 5 => ("RobotCellHouseModel", "rows", "I", false)
  | 6 => ("RobotCellHouseModel", "isAgain", "Z", false)
  | 7 => ("RobotCellHouseModel", "counted", "[I", true)
  | 8 => ("RobotCellHouseModel", "tape", "[B", true)
  | 9 => ("RobotCellHouseModel", "taped", "I", false)
  | 10 => ("RobotCellHouseModel", "arms", "I", false)
  | 11 => ("RobotCellHouseModel", "baseX", "[I", true)
  | 12 => ("RobotCellHouseModel", "baseY", "[I", true)
  | 13 => ("RobotCellHouseModel", "direction", "[I", true)
  | 14 => ("RobotCellHouseModel", "reach", "[I", true)
  | 15 => ("RobotCellHouseModel", "joints", "[I", true)
  | 16 => ("RobotCellHouseModel", "turns", "[I", true)
  | 17 => ("RobotCellHouseModel", "low", "[I", true)
  | 18 => ("RobotCellHouseModel", "high", "[I", true)
  | 19 => ("RobotCellHouseModel", "speed", "[I", true)
  | 20 => ("RobotCellHouseModel", "gain", "[I", true)
  | 21 => ("RobotCellHouseModel", "length", "[I", true)
  | 22 => ("RobotCellHouseModel", "radius", "[I", true)
  | 23 => ("RobotCellHouseModel", "solids", "I", false)
  | 24 => ("RobotCellHouseModel", "isBox", "[Z", true)
  | 25 => ("RobotCellHouseModel", "solidX", "[I", true)
  | 26 => ("RobotCellHouseModel", "solidY", "[I", true)
  | 27 => ("RobotCellHouseModel", "solidW", "[I", true)
  | 28 => ("RobotCellHouseModel", "solidH", "[I", true)
  | 29 => ("RobotCellHouseModel", "spared", "[Z", true)
  | 30 => ("RobotCellHouseModel", "belts", "I", false)
  | 31 => ("RobotCellHouseModel", "beltX", "[I", true)
  | 32 => ("RobotCellHouseModel", "beltY", "[I", true)
  | 33 => ("RobotCellHouseModel", "quarter", "[I", true)
  | 34 => ("RobotCellHouseModel", "beltLength", "[I", true)
  | 35 => ("RobotCellHouseModel", "beltSpeed", "[I", true)
  | 36 => ("RobotCellHouseModel", "beltWidth", "[I", true)
  | 37 => ("RobotCellHouseModel", "sensorPoint", "[I", true)
  | 38 => ("RobotCellHouseModel", "sensorFrom", "[I", true)
  | 39 => ("RobotCellHouseModel", "sensorTo", "[I", true)
  | 40 => ("RobotCellHouseModel", "parts", "I", false)
  | 41 => ("RobotCellHouseModel", "partRadius", "[I", true)
  | 42 => ("RobotCellHouseModel", "zones", "I", false)
  | 43 => ("RobotCellHouseModel", "zoneArm", "[I", true)
  | 44 => ("RobotCellHouseModel", "zoneX", "[I", true)
  | 45 => ("RobotCellHouseModel", "zoneY", "[I", true)
  | 46 => ("RobotCellHouseModel", "zoneW", "[I", true)
  | 47 => ("RobotCellHouseModel", "zoneH", "[I", true)
  | 48 => ("RobotCellHouseModel", "zoneMost", "[I", true)
  | 49 => ("RobotCellHouseModel", "inputs", "I", false)
  | 50 => ("RobotCellHouseModel", "differ", "[I", true)
  | 51 => ("RobotCellHouseModel", "may", "[Z", true)
  | 52 => ("RobotCellHouseModel", "wireFrom", "[I", true)
  | 53 => ("RobotCellHouseModel", "isTurned", "[Z", true)
  | 54 => ("RobotCellHouseModel", "sines", "[I", true)
  | 55 => ("RobotCellHouseModel", "pointX", "[I", true)
  | 56 => ("RobotCellHouseModel", "pointY", "[I", true)
  | 57 => ("RobotCellHouseModel", "trial", "[I", true)
  | 58 => ("RobotCellHouseModel", "lineFrom", "I", false)
  | 59 => ("RobotCellHouseModel", "lineTo", "I", false)
  | 60 => ("RobotCellHouseModel", "lineRadius", "I", false)
  | 61 => ("RobotCellHouseModel", "one", "[I", true)
  | 62 => ("RobotCellHouseModel", "two", "[I", true)
  | 63 => ("RobotCellHouseModel", "path", "[I", true)
  | 64 => ("RobotCellHouseModel", "wasNought", "[Z", true)
  | 65 => ("RobotCellHouseModel", "ops", "[I", true)
  | 66 => ("RobotCellHouseModel", "args", "[I", true)
  | 67 => ("RobotCellHouseModel", "regions", "[I", true)
  | 68 => ("RobotCellHouseModel", "tryIn", "[I", true)
  | 69 => ("RobotCellHouseModel", "tryCatch", "[I", true)
  | 70 => ("RobotCellHouseModel", "tryFinally", "[I", true)
  | 71 => ("RobotCellHouseModel", "tryEnd", "[I", true)
  | 72 => ("RobotCellHouseModel", "whileIn", "[I", true)
  | 73 => ("RobotCellHouseModel", "whileEnd", "[I", true)
  | 74 => ("RobotCellHouseModel", "routineAt", "[I", true)
  | 75 => ("RobotCellHouseModel", "routines", "[I", true)
  | 76 => ("RobotCellHouseModel", "variables", "[I", true)
  | 77 => ("RobotCellHouseModel", "hasProgram", "[Z", true)
  | 78 => ("RobotCellHouseModel", "size", "I", false)
  | 79 => ("RobotCellHouseModel", "tries", "I", false)
  | 80 => ("RobotCellHouseModel", "whiles", "I", false)
  | 81 => ("RobotCellHouseModel", "region", "I", false)
  | 82 => ("RobotCellHouseModel", "inWhile", "I", false)
  | 83 => ("RobotCellHouseModel", "opens", "I", false)
  | 84 => ("RobotCellHouseModel", "kind", "I", false)
  | 85 => ("RobotCellHouseModel", "what", "I", false)
  | 86 => ("RobotCellHouseModel", "tokenAt", "I", false)
  | 87 => ("RobotCellHouseModel", "tokenEnd", "I", false)
  | 88 => ("RobotCellHouseModel", "faultKind", "I", false)
  | 89 => ("RobotCellHouseModel", "faultPlace", "I", false)
  | 90 => ("RobotCellHouseModel", "nameKind", "[I", true)
  | 91 => ("RobotCellHouseModel", "nameAt", "[I", true)
  | 92 => ("RobotCellHouseModel", "nameSize", "[I", true)
  | 93 => ("RobotCellHouseModel", "nameCode", "[I", true)
  | 94 => ("RobotCellHouseModel", "names", "I", false)
  | 95 => ("RobotCellHouseModel", "hasRead", "Z", false)
  | 96 => ("RobotCellHouseModel", "turn", "I", false)
  | 97 => ("RobotCellHouseModel", "at", "I", false)
  | 98 => ("RobotCellHouseModel", "its", "I", false)
  | 99 => ("RobotCellHouseModel", "begun", "I", false)
  | 100 => ("RobotCellHouseModel", "isOver", "Z", false)
  | 101 => ("RobotCellHouseModel", "stack", "[I", true)
  | 102 => ("RobotCellHouseModel", "depth", "I", false)
  | 103 => ("RobotCellHouseModel", "stepBefore", "[I", true)
  | 104 => ("RobotCellHouseModel", "nodes", "[I", true)
  | 105 => ("RobotCellHouseModel", "first", "[I", true)
  | 106 => ("RobotCellHouseModel", "far", "[I", true)
  | 107 => ("RobotCellHouseModel", "queue", "[I", true)
  | 108 => ("RobotCellHouseModel", "isFree", "[I", true)
  | 109 => ("RobotCellHouseModel", "edges", "[I", true)
  | 110 => ("RobotCellHouseModel", "planArm", "I", false)
  | 111 => ("RobotCellHouseModel", "planWide", "I", false)
  | 112 => ("RobotCellHouseModel", "planMargin", "I", false)
  | 113 => ("RobotCellHouseModel", "found", "[I", true)
  | 114 => ("RobotCellHouseModel", "ways", "[I", true)
  | 115 => ("RobotCellHouseModel", "wayFrom", "[I", true)
  | 116 => ("RobotCellHouseModel", "wayEnd", "[I", true)
  | 117 => ("RobotCellHouseModel", "againRow", "I", false)
  | _ => ("RobotCellHouseModel", "plans", "I", false)
def tyX12 : Nat → FieldType := fun k => match k with
  | 0 => .array .int
  | 1 => .array .int
  | 2 => .array .int
  | 3 => .boolean
  | 4 => .array .int
  | 5 => .int
  | 6 => .boolean
  | 7 => .array .int
  | 8 => .array .byte
  | 9 => .int
  | 10 => .int
  | 11 => .array .int
  | 12 => .array .int
  | 13 => .array .int
  | 14 => .array .int
  | 15 => .array .int
  | 16 => .array .int
  | 17 => .array .int
  | 18 => .array .int
  | 19 => .array .int
  | 20 => .array .int
  | 21 => .array .int
  | 22 => .array .int
  | 23 => .int
  | 24 => .array .boolean
  | 25 => .array .int
  | 26 => .array .int
  | 27 => .array .int
  | 28 => .array .int
  | 29 => .array .boolean
  | 30 => .int
  | 31 => .array .int
  | 32 => .array .int
  | 33 => .array .int
  | 34 => .array .int
  | 35 => .array .int
  | 36 => .array .int
  | 37 => .array .int
  | 38 => .array .int
  | 39 => .array .int
  | 40 => .int
  | 41 => .array .int
  | 42 => .int
  | 43 => .array .int
  | 44 => .array .int
  | 45 => .array .int
  | 46 => .array .int
  | 47 => .array .int
  | 48 => .array .int
  | 49 => .int
  | 50 => .array .int
  | 51 => .array .boolean
  | 52 => .array .int
  | 53 => .array .boolean
  | 54 => .array .int
  | 55 => .array .int
  | 56 => .array .int
  | 57 => .array .int
  | 58 => .int
  | 59 => .int
  | 60 => .int
  | 61 => .array .int
  | 62 => .array .int
  | 63 => .array .int
  | 64 => .array .boolean
  | 65 => .array .int
  | 66 => .array .int
  | 67 => .array .int
  | 68 => .array .int
  | 69 => .array .int
  | 70 => .array .int
  | 71 => .array .int
  | 72 => .array .int
  | 73 => .array .int
  | 74 => .array .int
  | 75 => .array .int
  | 76 => .array .int
  | 77 => .array .boolean
  | 78 => .int
  | 79 => .int
  | 80 => .int
  | 81 => .int
  | 82 => .int
  | 83 => .int
  | 84 => .int
  | 85 => .int
  | 86 => .int
  | 87 => .int
  | 88 => .int
  | 89 => .int
  | 90 => .array .int
  | 91 => .array .int
  | 92 => .array .int
  | 93 => .array .int
  | 94 => .int
  | 95 => .boolean
  | 96 => .int
  | 97 => .int
  | 98 => .int
  | 99 => .int
  | 100 => .boolean
  | 101 => .array .int
  | 102 => .int
  | 103 => .array .int
  | 104 => .array .int
  | 105 => .array .int
  | 106 => .array .int
  | 107 => .array .int
  | 108 => .array .int
  | 109 => .array .int
  | 110 => .int
  | 111 => .int
  | 112 => .int
  | 113 => .array .int
  | 114 => .array .int
  | 115 => .array .int
  | 116 => .array .int
  | 117 => .int
  | _ => .int
theorem nmX12 : ∀ a, a < 119 → ∀ b, b < 119 → a ≠ b → (TX12 a).2.1 ≠ (TX12 b).2.1 := by decide +kernel
theorem tyX12_ok : ∀ k, k < 119 → parseFieldDescriptor (TX12 k).2.2.1 = some (tyX12 k) := by decide +kernel
def RJ7 : String := "java/util/Arrays"
abbrev cls : List vw_C := [(RX0, TX0, 20), (RX1, TX1, 5), (RX2, TX2, 15), (RX3, TX3, 12), (RX4, TX4, 20), (RX5, TX5, 12), (RX6, TX6, 13), (RX7, TX7, 8), (RX8, TX8, 17), (RX9, TX9, 17), (RX10, TX10, 21), (RX11, TX11, 15), (RX12, TX12, 119)]
theorem in_t1 : ∀ {w : Cond}, w ∈ tables_1_1 → goodWord w = true → w ∈ x_tbl := fun h hg => x_tb (List.mem_append_right _ (show _ ∈ tables_1 from (List.mem_append_left _ h))) hg
theorem in_t2 : ∀ {w : Cond}, w ∈ tables_1_2 → goodWord w = true → w ∈ x_tbl := fun h hg => x_tb (List.mem_append_right _ (show _ ∈ tables_1 from (List.mem_append_right _ (List.mem_append_left _ h)))) hg
theorem in_t3 : ∀ {w : Cond}, w ∈ tables_1_3 → goodWord w = true → w ∈ x_tbl := fun h hg => x_tb (List.mem_append_right _ (show _ ∈ tables_1 from (List.mem_append_right _ (List.mem_append_right _ (List.mem_append_left _ h))))) hg
theorem in_t4 : ∀ {w : Cond}, w ∈ tables_1_4 → goodWord w = true → w ∈ x_tbl := fun h hg => x_tb (List.mem_append_right _ (show _ ∈ tables_1 from (List.mem_append_right _ (List.mem_append_right _ (List.mem_append_right _ (List.mem_append_left _ h)))))) hg
theorem in_t5 : ∀ {w : Cond}, w ∈ tables_1_5 → goodWord w = true → w ∈ x_tbl := fun h hg => x_tb (List.mem_append_right _ (show _ ∈ tables_1 from (List.mem_append_right _ (List.mem_append_right _ (List.mem_append_right _ (List.mem_append_right _ (List.mem_append_left _ h))))))) hg
theorem in_t6 : ∀ {w : Cond}, w ∈ tables_1_6 → goodWord w = true → w ∈ x_tbl := fun h hg => x_tb (List.mem_append_right _ (show _ ∈ tables_1 from (List.mem_append_right _ (List.mem_append_right _ (List.mem_append_right _ (List.mem_append_right _ (List.mem_append_right _ (List.mem_append_left _ h)))))))) hg
theorem in_t7 : ∀ {w : Cond}, w ∈ tables_1_7 → goodWord w = true → w ∈ x_tbl := fun h hg => x_tb (List.mem_append_right _ (show _ ∈ tables_1 from (List.mem_append_right _ (List.mem_append_right _ (List.mem_append_right _ (List.mem_append_right _ (List.mem_append_right _ (List.mem_append_right _ (List.mem_append_left _ h))))))))) hg
theorem in_t8 : ∀ {w : Cond}, w ∈ tables_1_8 → goodWord w = true → w ∈ x_tbl := fun h hg => x_tb (List.mem_append_right _ (show _ ∈ tables_1 from (List.mem_append_right _ (List.mem_append_right _ (List.mem_append_right _ (List.mem_append_right _ (List.mem_append_right _ (List.mem_append_right _ (List.mem_append_right _ (List.mem_append_left _ h)))))))))) hg
theorem in_t9 : ∀ {w : Cond}, w ∈ tables_1_9 → goodWord w = true → w ∈ x_tbl := fun h hg => x_tb (List.mem_append_right _ (show _ ∈ tables_1 from (List.mem_append_right _ (List.mem_append_right _ (List.mem_append_right _ (List.mem_append_right _ (List.mem_append_right _ (List.mem_append_right _ (List.mem_append_right _ (List.mem_append_right _ (List.mem_append_left _ h))))))))))) hg
theorem in_t10 : ∀ {w : Cond}, w ∈ tables_1_10 → goodWord w = true → w ∈ x_tbl := fun h hg => x_tb (List.mem_append_right _ (show _ ∈ tables_1 from (List.mem_append_right _ (List.mem_append_right _ (List.mem_append_right _ (List.mem_append_right _ (List.mem_append_right _ (List.mem_append_right _ (List.mem_append_right _ (List.mem_append_right _ (List.mem_append_right _ (List.mem_append_left _ h)))))))))))) hg
theorem in_t11 : ∀ {w : Cond}, w ∈ tables_1_11 → goodWord w = true → w ∈ x_tbl := fun h hg => x_tb (List.mem_append_right _ (show _ ∈ tables_1 from (List.mem_append_right _ (List.mem_append_right _ (List.mem_append_right _ (List.mem_append_right _ (List.mem_append_right _ (List.mem_append_right _ (List.mem_append_right _ (List.mem_append_right _ (List.mem_append_right _ (List.mem_append_right _ (List.mem_append_left _ h))))))))))))) hg
theorem in_t12 : ∀ {w : Cond}, w ∈ tables_1_12 → goodWord w = true → w ∈ x_tbl := fun h hg => x_tb (List.mem_append_right _ (show _ ∈ tables_1 from (List.mem_append_right _ (List.mem_append_right _ (List.mem_append_right _ (List.mem_append_right _ (List.mem_append_right _ (List.mem_append_right _ (List.mem_append_right _ (List.mem_append_right _ (List.mem_append_right _ (List.mem_append_right _ (List.mem_append_right _ (List.mem_append_left _ h)))))))))))))) hg
theorem in_t13 : ∀ {w : Cond}, w ∈ tables_1_13 → goodWord w = true → w ∈ x_tbl := fun h hg => x_tb (List.mem_append_right _ (show _ ∈ tables_1 from (List.mem_append_right _ (List.mem_append_right _ (List.mem_append_right _ (List.mem_append_right _ (List.mem_append_right _ (List.mem_append_right _ (List.mem_append_right _ (List.mem_append_right _ (List.mem_append_right _ (List.mem_append_right _ (List.mem_append_right _ (List.mem_append_right _ (List.mem_append_left _ h))))))))))))))) hg
theorem in_t14 : ∀ {w : Cond}, w ∈ tables_1_14 → goodWord w = true → w ∈ x_tbl := fun h hg => x_tb (List.mem_append_right _ (show _ ∈ tables_1 from (List.mem_append_right _ (List.mem_append_right _ (List.mem_append_right _ (List.mem_append_right _ (List.mem_append_right _ (List.mem_append_right _ (List.mem_append_right _ (List.mem_append_right _ (List.mem_append_right _ (List.mem_append_right _ (List.mem_append_right _ (List.mem_append_right _ (List.mem_append_right _ h))))))))))))))) hg
theorem in_s1 {q : MethodName × Nat} (h : q ∈ lw_privs_1) : Cond.selects q.1.cls q.1 q.1 ∈ x_tbl := x_tb (List.mem_append_left _ (List.mem_map.mpr ⟨q, (show q ∈ lw_privs from (List.mem_append_left _ h)), rfl⟩)) rfl
theorem in_s2 {q : MethodName × Nat} (h : q ∈ lw_privs_2) : Cond.selects q.1.cls q.1 q.1 ∈ x_tbl := x_tb (List.mem_append_left _ (List.mem_map.mpr ⟨q, (show q ∈ lw_privs from (List.mem_append_right _ (List.mem_append_left _ h))), rfl⟩)) rfl
theorem in_s3 {q : MethodName × Nat} (h : q ∈ lw_privs_3) : Cond.selects q.1.cls q.1 q.1 ∈ x_tbl := x_tb (List.mem_append_left _ (List.mem_map.mpr ⟨q, (show q ∈ lw_privs from (List.mem_append_right _ (List.mem_append_right _ (List.mem_append_left _ h)))), rfl⟩)) rfl
theorem in_s4 {q : MethodName × Nat} (h : q ∈ lw_privs_4) : Cond.selects q.1.cls q.1 q.1 ∈ x_tbl := x_tb (List.mem_append_left _ (List.mem_map.mpr ⟨q, (show q ∈ lw_privs from (List.mem_append_right _ (List.mem_append_right _ (List.mem_append_right _ (List.mem_append_left _ h))))), rfl⟩)) rfl
theorem in_s5 {q : MethodName × Nat} (h : q ∈ lw_privs_5) : Cond.selects q.1.cls q.1 q.1 ∈ x_tbl := x_tb (List.mem_append_left _ (List.mem_map.mpr ⟨q, (show q ∈ lw_privs from (List.mem_append_right _ (List.mem_append_right _ (List.mem_append_right _ (List.mem_append_right _ (List.mem_append_left _ h)))))), rfl⟩)) rfl
theorem in_s6 {q : MethodName × Nat} (h : q ∈ lw_privs_6) : Cond.selects q.1.cls q.1 q.1 ∈ x_tbl := x_tb (List.mem_append_left _ (List.mem_map.mpr ⟨q, (show q ∈ lw_privs from (List.mem_append_right _ (List.mem_append_right _ (List.mem_append_right _ (List.mem_append_right _ (List.mem_append_right _ (List.mem_append_left _ h))))))), rfl⟩)) rfl
theorem in_s7 {q : MethodName × Nat} (h : q ∈ lw_privs_7) : Cond.selects q.1.cls q.1 q.1 ∈ x_tbl := x_tb (List.mem_append_left _ (List.mem_map.mpr ⟨q, (show q ∈ lw_privs from (List.mem_append_right _ (List.mem_append_right _ (List.mem_append_right _ (List.mem_append_right _ (List.mem_append_right _ (List.mem_append_right _ (List.mem_append_left _ h)))))))), rfl⟩)) rfl
theorem in_s8 {q : MethodName × Nat} (h : q ∈ lw_privs_8) : Cond.selects q.1.cls q.1 q.1 ∈ x_tbl := x_tb (List.mem_append_left _ (List.mem_map.mpr ⟨q, (show q ∈ lw_privs from (List.mem_append_right _ (List.mem_append_right _ (List.mem_append_right _ (List.mem_append_right _ (List.mem_append_right _ (List.mem_append_right _ (List.mem_append_right _ (List.mem_append_left _ h))))))))), rfl⟩)) rfl
theorem in_s9 {q : MethodName × Nat} (h : q ∈ lw_privs_9) : Cond.selects q.1.cls q.1 q.1 ∈ x_tbl := x_tb (List.mem_append_left _ (List.mem_map.mpr ⟨q, (show q ∈ lw_privs from (List.mem_append_right _ (List.mem_append_right _ (List.mem_append_right _ (List.mem_append_right _ (List.mem_append_right _ (List.mem_append_right _ (List.mem_append_right _ (List.mem_append_right _ (List.mem_append_left _ h)))))))))), rfl⟩)) rfl
theorem in_s10 {q : MethodName × Nat} (h : q ∈ lw_privs_10) : Cond.selects q.1.cls q.1 q.1 ∈ x_tbl := x_tb (List.mem_append_left _ (List.mem_map.mpr ⟨q, (show q ∈ lw_privs from (List.mem_append_right _ (List.mem_append_right _ (List.mem_append_right _ (List.mem_append_right _ (List.mem_append_right _ (List.mem_append_right _ (List.mem_append_right _ (List.mem_append_right _ (List.mem_append_right _ (List.mem_append_left _ h))))))))))), rfl⟩)) rfl
theorem in_s11 {q : MethodName × Nat} (h : q ∈ lw_privs_11) : Cond.selects q.1.cls q.1 q.1 ∈ x_tbl := x_tb (List.mem_append_left _ (List.mem_map.mpr ⟨q, (show q ∈ lw_privs from (List.mem_append_right _ (List.mem_append_right _ (List.mem_append_right _ (List.mem_append_right _ (List.mem_append_right _ (List.mem_append_right _ (List.mem_append_right _ (List.mem_append_right _ (List.mem_append_right _ (List.mem_append_right _ (List.mem_append_left _ h)))))))))))), rfl⟩)) rfl
theorem in_s12 {q : MethodName × Nat} (h : q ∈ lw_privs_12) : Cond.selects q.1.cls q.1 q.1 ∈ x_tbl := x_tb (List.mem_append_left _ (List.mem_map.mpr ⟨q, (show q ∈ lw_privs from (List.mem_append_right _ (List.mem_append_right _ (List.mem_append_right _ (List.mem_append_right _ (List.mem_append_right _ (List.mem_append_right _ (List.mem_append_right _ (List.mem_append_right _ (List.mem_append_right _ (List.mem_append_right _ (List.mem_append_right _ (List.mem_append_left _ h))))))))))))), rfl⟩)) rfl
theorem in_s13 {q : MethodName × Nat} (h : q ∈ lw_privs_13) : Cond.selects q.1.cls q.1 q.1 ∈ x_tbl := x_tb (List.mem_append_left _ (List.mem_map.mpr ⟨q, (show q ∈ lw_privs from (List.mem_append_right _ (List.mem_append_right _ (List.mem_append_right _ (List.mem_append_right _ (List.mem_append_right _ (List.mem_append_right _ (List.mem_append_right _ (List.mem_append_right _ (List.mem_append_right _ (List.mem_append_right _ (List.mem_append_right _ (List.mem_append_right _ (List.mem_append_left _ h)))))))))))))), rfl⟩)) rfl
theorem in_s14 {q : MethodName × Nat} (h : q ∈ lw_privs_14) : Cond.selects q.1.cls q.1 q.1 ∈ x_tbl := x_tb (List.mem_append_left _ (List.mem_map.mpr ⟨q, (show q ∈ lw_privs from (List.mem_append_right _ (List.mem_append_right _ (List.mem_append_right _ (List.mem_append_right _ (List.mem_append_right _ (List.mem_append_right _ (List.mem_append_right _ (List.mem_append_right _ (List.mem_append_right _ (List.mem_append_right _ (List.mem_append_right _ (List.mem_append_right _ (List.mem_append_right _ (List.mem_append_left _ h))))))))))))))), rfl⟩)) rfl
theorem in_s15 {q : MethodName × Nat} (h : q ∈ lw_privs_15) : Cond.selects q.1.cls q.1 q.1 ∈ x_tbl := x_tb (List.mem_append_left _ (List.mem_map.mpr ⟨q, (show q ∈ lw_privs from (List.mem_append_right _ (List.mem_append_right _ (List.mem_append_right _ (List.mem_append_right _ (List.mem_append_right _ (List.mem_append_right _ (List.mem_append_right _ (List.mem_append_right _ (List.mem_append_right _ (List.mem_append_right _ (List.mem_append_right _ (List.mem_append_right _ (List.mem_append_right _ (List.mem_append_right _ h))))))))))))))), rfl⟩)) rfl
set_option maxRecDepth 20000 in
theorem in_X0 : ∀ w ∈ u_ws RX0 TX0 20, w ∈ x_tbl := fun w h => x_tb (x_places [669, 671, 673, 675, 677, 679, 681, 683, 685, 687, 689, 691, 693, 695, 697, 699, 701, 703, 705, 707] (by decide +kernel) w h) (List.all_eq_true.mp (show (u_ws RX0 TX0 20).all goodWord = true by decide +kernel) w h)
set_option maxRecDepth 20000 in
theorem in_X1 : ∀ w ∈ u_ws RX1 TX1 5, w ∈ x_tbl := fun w h => x_tb (x_places [279, 281, 283, 285, 287] (by decide +kernel) w h) (List.all_eq_true.mp (show (u_ws RX1 TX1 5).all goodWord = true by decide +kernel) w h)
set_option maxRecDepth 20000 in
theorem in_X2 : ∀ w ∈ u_ws RX2 TX2 15, w ∈ x_tbl := fun w h => x_tb (x_places [507, 509, 511, 513, 515, 517, 519, 521, 523, 525, 527, 529, 531, 533, 535] (by decide +kernel) w h) (List.all_eq_true.mp (show (u_ws RX2 TX2 15).all goodWord = true by decide +kernel) w h)
set_option maxRecDepth 20000 in
theorem in_X3 : ∀ w ∈ u_ws RX3 TX3 12, w ∈ x_tbl := fun w h => x_tb (x_places [812, 814, 816, 818, 820, 822, 824, 826, 828, 830, 832, 834] (by decide +kernel) w h) (List.all_eq_true.mp (show (u_ws RX3 TX3 12).all goodWord = true by decide +kernel) w h)
set_option maxRecDepth 20000 in
theorem in_X4 : ∀ w ∈ u_ws RX4 TX4 20, w ∈ x_tbl := fun w h => x_tb (x_places [431, 433, 435, 437, 439, 441, 443, 445, 447, 449, 451, 453, 455, 457, 459, 461, 463, 465, 467, 469] (by decide +kernel) w h) (List.all_eq_true.mp (show (u_ws RX4 TX4 20).all goodWord = true by decide +kernel) w h)
set_option maxRecDepth 20000 in
theorem in_X5 : ∀ w ∈ u_ws RX5 TX5 12, w ∈ x_tbl := fun w h => x_tb (x_places [585, 587, 589, 591, 593, 595, 597, 599, 601, 603, 605, 607] (by decide +kernel) w h) (List.all_eq_true.mp (show (u_ws RX5 TX5 12).all goodWord = true by decide +kernel) w h)
set_option maxRecDepth 20000 in
theorem in_X6 : ∀ w ∈ u_ws RX6 TX6 13, w ∈ x_tbl := fun w h => x_tb (x_places [918, 920, 922, 924, 926, 928, 930, 932, 934, 936, 938, 940, 942] (by decide +kernel) w h) (List.all_eq_true.mp (show (u_ws RX6 TX6 13).all goodWord = true by decide +kernel) w h)
set_option maxRecDepth 20000 in
theorem in_X7 : ∀ w ∈ u_ws RX7 TX7 8, w ∈ x_tbl := fun w h => x_tb (x_places [375, 377, 379, 381, 383, 385, 387, 389] (by decide +kernel) w h) (List.all_eq_true.mp (show (u_ws RX7 TX7 8).all goodWord = true by decide +kernel) w h)
set_option maxRecDepth 20000 in
theorem in_X8 : ∀ w ∈ u_ws RX8 TX8 17, w ∈ x_tbl := fun w h => x_tb (x_places [312, 314, 316, 318, 320, 322, 324, 326, 328, 330, 332, 334, 336, 338, 340, 342, 344] (by decide +kernel) w h) (List.all_eq_true.mp (show (u_ws RX8 TX8 17).all goodWord = true by decide +kernel) w h)
set_option maxRecDepth 20000 in
theorem in_X9 : ∀ w ∈ u_ws RX9 TX9 17, w ∈ x_tbl := fun w h => x_tb (x_places [863, 865, 867, 869, 871, 873, 875, 877, 879, 881, 883, 885, 887, 889, 891, 893, 895] (by decide +kernel) w h) (List.all_eq_true.mp (show (u_ws RX9 TX9 17).all goodWord = true by decide +kernel) w h)
set_option maxRecDepth 20000 in
theorem in_X10 : ∀ w ∈ u_ws RX10 TX10 21, w ∈ x_tbl := fun w h => x_tb (x_places [751, 753, 755, 757, 759, 761, 763, 765, 767, 769, 771, 773, 775, 777, 779, 781, 783, 785, 787, 789, 791] (by decide +kernel) w h) (List.all_eq_true.mp (show (u_ws RX10 TX10 21).all goodWord = true by decide +kernel) w h)
set_option maxRecDepth 20000 in
theorem in_X11 : ∀ w ∈ u_ws RX11 TX11 15, w ∈ x_tbl := fun w h => x_tb (x_places [1069, 1071, 1073, 1075, 1077, 1079, 1081, 1083, 1085, 1087, 1089, 1091, 1093, 1095, 1097] (by decide +kernel) w h) (List.all_eq_true.mp (show (u_ws RX11 TX11 15).all goodWord = true by decide +kernel) w h)
set_option maxRecDepth 20000 in
theorem in_X12 : ∀ w ∈ u_ws RX12 TX12 119, w ∈ x_tbl := fun w h => x_tb (x_places [2380, 2382, 2384, 2386, 2388, 2390, 2392, 2394, 2396, 2398, 2400, 2402, 2404, 2406, 2408, 2410, 2412, 2414, 2416, 2418, 2420, 2422, 2424, 2426, 2428, 2430, 2432, 2434, 2436, 2438, 2440, 2442, 2444, 2446, 2448, 2450, 2452, 2454, 2456, 2458, 2460, 2462, 2464, 2466, 2468, 2470, 2472, 2474, 2476, 2478, 2480, 2482, 2484, 2486, 2488, 2490, 2492, 2494, 2496, 2498, 2500, 2502, 2504, 2506, 2508, 2510, 2512, 2514, 2516, 2518, 2520, 2522, 2524, 2526, 2528, 2530, 2532, 2534, 2536, 2538, 2540, 2542, 2544, 2546, 2548, 2550, 2552, 2554, 2556, 2558, 2560, 2562, 2564, 2566, 2568, 2570, 2572, 2574, 2576, 2578, 2580, 2582, 2584, 2586, 2588, 2590, 2592, 2594, 2596, 2598, 2600, 2602, 2604, 2606, 2608, 2610, 2612, 2614, 2616] (by decide +kernel) w h) (List.all_eq_true.mp (show (u_ws RX12 TX12 119).all goodWord = true by decide +kernel) w h)
end
section
/-! methods by number -/
def ks_X0 : List Nat := [1, 1, 1, 1, 1, 1, 1, 1, 0, 0, 0, 0, 0, 0, 0, 0, 0, 0, 0, 0]
set_option maxRecDepth 20000 in
theorem df_X0 : ∀ j, j < 20 → defaultValue (tyX0 j) = vp_V (ks_X0.map x_fv) j := by decide +kernel
def ks_X1 : List Nat := [0, 0, 0, 1, 1]
set_option maxRecDepth 20000 in
theorem df_X1 : ∀ j, j < 5 → defaultValue (tyX1 j) = vp_V (ks_X1.map x_fv) j := by decide +kernel
def ks_X2 : List Nat := [0, 0, 0, 0, 0, 0, 0, 0, 1, 1, 1, 1, 1, 1, 1]
set_option maxRecDepth 20000 in
theorem df_X2 : ∀ j, j < 15 → defaultValue (tyX2 j) = vp_V (ks_X2.map x_fv) j := by decide +kernel
def ks_X3 : List Nat := [1, 1, 1, 1, 1, 1, 1, 1, 0, 0, 0, 0]
set_option maxRecDepth 20000 in
theorem df_X3 : ∀ j, j < 12 → defaultValue (tyX3 j) = vp_V (ks_X3.map x_fv) j := by decide +kernel
def ks_X4 : List Nat := [0, 0, 1, 1, 1, 1, 1, 1, 1, 1, 1, 1, 1, 1, 1, 1, 1, 1, 1, 1]
set_option maxRecDepth 20000 in
theorem df_X4 : ∀ j, j < 20 → defaultValue (tyX4 j) = vp_V (ks_X4.map x_fv) j := by decide +kernel
def ks_X5 : List Nat := [0, 0, 0, 0, 0, 0, 0, 0, 0, 0, 0, 0]
set_option maxRecDepth 20000 in
theorem df_X5 : ∀ j, j < 12 → defaultValue (tyX5 j) = vp_V (ks_X5.map x_fv) j := by decide +kernel
def ks_X6 : List Nat := [0, 0, 0, 0, 1, 1, 1, 1, 1, 1, 1, 1, 1]
set_option maxRecDepth 20000 in
theorem df_X6 : ∀ j, j < 13 → defaultValue (tyX6 j) = vp_V (ks_X6.map x_fv) j := by decide +kernel
def ks_X7 : List Nat := [1, 1, 1, 1, 1, 1, 1, 1]
set_option maxRecDepth 20000 in
theorem df_X7 : ∀ j, j < 8 → defaultValue (tyX7 j) = vp_V (ks_X7.map x_fv) j := by decide +kernel
def ks_X8 : List Nat := [0, 0, 0, 1, 1, 0, 0, 0, 0, 0, 0, 0, 0, 0, 0, 1, 1]
set_option maxRecDepth 20000 in
theorem df_X8 : ∀ j, j < 17 → defaultValue (tyX8 j) = vp_V (ks_X8.map x_fv) j := by decide +kernel
def ks_X9 : List Nat := [0, 0, 1, 1, 1, 1, 1, 1, 1, 1, 1, 1, 1, 0, 0, 0, 0]
set_option maxRecDepth 20000 in
theorem df_X9 : ∀ j, j < 17 → defaultValue (tyX9 j) = vp_V (ks_X9.map x_fv) j := by decide +kernel
def ks_X10 : List Nat := [0, 0, 0, 0, 0, 0, 0, 0, 0, 0, 0, 0, 0, 0, 0, 0, 1, 1, 1, 1, 1]
set_option maxRecDepth 20000 in
theorem df_X10 : ∀ j, j < 21 → defaultValue (tyX10 j) = vp_V (ks_X10.map x_fv) j := by decide +kernel
def ks_X11 : List Nat := [1, 1, 1, 1, 1, 1, 1, 1, 1, 1, 1, 0, 0, 0, 0]
set_option maxRecDepth 20000 in
theorem df_X11 : ∀ j, j < 15 → defaultValue (tyX11 j) = vp_V (ks_X11.map x_fv) j := by decide +kernel
def ks_X12 : List Nat := [1, 1, 1, 0, 1, 0, 0, 1, 1, 0, 0, 1, 1, 1, 1, 1, 1, 1, 1, 1, 1, 1, 1, 0, 1, 1, 1, 1, 1, 1, 0, 1, 1, 1, 1, 1, 1, 1, 1, 1, 0, 1, 0, 1, 1, 1, 1, 1, 1, 0, 1, 1, 1, 1, 1, 1, 1, 1, 0, 0, 0, 1, 1, 1, 1, 1, 1, 1, 1, 1, 1, 1, 1, 1, 1, 1, 1, 1, 0, 0, 0, 0, 0, 0, 0, 0, 0, 0, 0, 0, 1, 1, 1, 1, 0, 0, 0, 0, 0, 0, 0, 1, 0, 1, 1, 1, 1, 1, 1, 1, 0, 0, 0, 1, 1, 1, 1, 0, 0]
set_option maxRecDepth 20000 in
theorem df_X12 : ∀ j, j < 119 → defaultValue (tyX12 j) = vp_V (ks_X12.map x_fv) j := by decide +kernel
def m_0 : xM := (x, code, 4, some .boolean, 600000, 7302250, 999)
def m_1 : xM := (⟨"RobotCellHouse$Arm", "<init>", "()V"⟩, prog_2_method_1_code, 2, none, 16, 4184, 0)
def m_2 : xM := (⟨"RobotCellHouse$Arm", "make", "(IIII)V"⟩, prog_2_method_2_code, 5, none, 0, 0, 0)
def m_3 : xM := (⟨"RobotCellHouse$Arm", "rewind", "()V"⟩, prog_2_method_4_code, 2, none, 0, 0, 0)
def m_4 : xM := (⟨"RobotCellHouse$Arm", "place", "()V"⟩, prog_2_method_11_code, 8, none, 0, 0, 0)
def m_5 : xM := (⟨"RobotCellHouse$Arm", "keepPoints", "()V"⟩, prog_2_method_12_code, 2, none, 0, 0, 0)
def m_6 : xM := (⟨"RobotCellHouse$Arm", "stand", "()V"⟩, prog_2_method_18_code, 2, none, 0, 0, 0)
def m_7 : xM := (⟨"RobotCellHouse$Code", "<init>", "()V"⟩, prog_3_method_1_code, 1, none, 2, 4032, 1)
def m_8 : xM := (⟨"RobotCellHouse$Code", "clear", "()V"⟩, prog_3_method_2_code, 1, none, 0, 0, 1)
def m_9 : xM := (⟨"RobotCellHouse$Core", "<init>", "()V"⟩, prog_4_method_1_code, 1, none, 7, 8048, 2)
def m_10 : xM := (⟨"RobotCellHouse$Core", "clear", "()V"⟩, prog_4_method_2_code, 2, none, 0, 0, 2)
def m_11 : xM := (⟨"RobotCellHouse$Core", "rewind", "()V"⟩, prog_4_method_3_code, 2, none, 0, 0, 2)
def m_12 : xM := (⟨"RobotCellHouse$Doer", "<init>", "()V"⟩, prog_5_method_1_code, 2, none, 241, 55853, 3)
def m_13 : xM := (⟨"RobotCellHouse$Doer", "rewind", "()V"⟩, prog_5_method_2_code, 2, none, 0, 0, 3)
def m_14 : xM := (⟨"RobotCellHouse$Floor", "<init>", "()V"⟩, prog_6_method_1_code, 1, none, 54, 496, 4)
def m_15 : xM := (⟨"RobotCellHouse$Floor", "rewind", "()V"⟩, prog_6_method_6_code, 2, none, 0, 0, 4)
def m_16 : xM := (⟨"RobotCellHouse$Joint", "<init>", "()V"⟩, prog_7_method_1_code, 1, none, 0, 0, 5)
def m_17 : xM := (⟨"RobotCellHouse$Planner", "<init>", "()V"⟩, prog_8_method_1_code, 1, none, 9, 62144, 6)
def m_18 : xM := (⟨"RobotCellHouse$Points", "<init>", "()V"⟩, prog_9_method_1_code, 1, none, 8, 512, 7)
def m_19 : xM := (⟨"RobotCellHouse$Points", "clear", "()V"⟩, prog_9_method_2_code, 1, none, 0, 0, 7)
def m_20 : xM := (⟨"RobotCellHouse$Points", "rewind", "()V"⟩, prog_9_method_3_code, 2, none, 0, 0, 7)
def m_21 : xM := (⟨"RobotCellHouse$Points", "arrange", "()V"⟩, prog_9_method_8_code, 4, none, 0, 0, 7)
def m_22 : xM := (⟨"RobotCellHouse$Points", "settle", "()V"⟩, prog_9_method_9_code, 4, none, 0, 0, 7)
def m_23 : xM := (⟨"RobotCellHouse$Points", "reckon", "(I)I"⟩, prog_9_method_10_code, 3, (some .int), 0, 0, 7)
def m_24 : xM := (⟨"RobotCellHouse$Reader", "<init>", "()V"⟩, prog_10_method_1_code, 1, none, 6, 8569, 8)
def m_25 : xM := (⟨"RobotCellHouse$Shapes", "<init>", "()V"⟩, prog_11_method_1_code, 1, none, 11, 128, 9)
def m_26 : xM := (⟨"RobotCellHouse$Task", "<init>", "(I)V"⟩, prog_12_method_1_code, 2, none, 5, 1840, 10)
def m_27 : xM := (⟨"RobotCellHouse$Task", "vanish", "()V"⟩, prog_12_method_2_code, 1, none, 0, 0, 10)
def m_28 : xM := (⟨"RobotCellHouse$Task", "begin", "(III)V"⟩, prog_12_method_3_code, 4, none, 0, 0, 10)
def m_29 : xM := (⟨"RobotCellHouse$Task", "enter", "(I)Z"⟩, prog_12_method_5_code, 2, (some .boolean), 0, 0, 10)
def m_30 : xM := (⟨"RobotCellHouse", "<init>", "()V"⟩, prog_1_method_1_code, 1, none, 274, 134763, 11)
def m_31 : xM := (⟨"RobotCellHouse", "clear", "()V"⟩, prog_1_method_63_code, 2, none, 0, 0, 11)
def m_32 : xM := (⟨"RobotCellHouse", "rewind", "()V"⟩, prog_1_method_64_code, 2, none, 0, 0, 11)
def m_33 : xM := (⟨"java/util/Arrays", "fill", "([II)V"⟩, prog_20_method_103_code, 4, none, 0, 0, 999)
def xI : Nat → xM := (x_TI 16 (x_TI 7 (x_TI 3 (x_TI 1 (x_TI 0 (fun _ => m_0) (fun _ => m_1)) (x_TI 2 (fun _ => m_2) (fun _ => m_3))) (x_TI 5 (x_TI 4 (fun _ => m_4) (fun _ => m_5)) (x_TI 6 (fun _ => m_6) (fun _ => m_7)))) (x_TI 11 (x_TI 9 (x_TI 8 (fun _ => m_8) (fun _ => m_9)) (x_TI 10 (fun _ => m_10) (fun _ => m_11))) (x_TI 13 (x_TI 12 (fun _ => m_12) (fun _ => m_13)) (x_TI 14 (fun _ => m_14) (x_TI 15 (fun _ => m_15) (fun _ => m_16)))))) (x_TI 24 (x_TI 20 (x_TI 18 (x_TI 17 (fun _ => m_17) (fun _ => m_18)) (x_TI 19 (fun _ => m_19) (fun _ => m_20))) (x_TI 22 (x_TI 21 (fun _ => m_21) (fun _ => m_22)) (x_TI 23 (fun _ => m_23) (fun _ => m_24)))) (x_TI 28 (x_TI 26 (x_TI 25 (fun _ => m_25) (fun _ => m_26)) (x_TI 27 (fun _ => m_27) (fun _ => m_28))) (x_TI 30 (x_TI 29 (fun _ => m_29) (fun _ => m_30)) (x_TI 31 (fun _ => m_31) (x_TI 32 (fun _ => m_32) (fun _ => m_33)))))))
end
section
def dl_1 : List (Nat × Instr × Nat) := [(0, .aload_n 0, 1), (1, .invokespecial 3, 3), (4, .aload_n 0, 1), (5, .bipush 6, 2), (7, .anewarray 9, 3), (10, .putfield 11, 3), (13, .aload_n 0, 1), (14, .bipush 8, 2), (16, .newarray .int, 2), (18, .putfield 17, 3), (21, .aload_n 0, 1), (22, .bipush 8, 2), (24, .newarray .int, 2), (26, .putfield 21, 3), (29, .aload_n 0, 1), (30, .bipush 7, 2), (32, .newarray .int, 2), (34, .putfield 24, 3), (37, .aload_n 0, 1), (38, .bipush 7, 2), (40, .newarray .int, 2), (42, .putfield 27, 3), (45, .aload_n 0, 1), (46, .bipush 7, 2), (48, .newarray .int, 2), (50, .putfield 30, 3), (53, .aload_n 0, 1), (54, .bipush 32, 2), (56, .newarray .int, 2), (58, .putfield 33, 3), (61, .aload_n 0, 1), (62, .new 36, 3), (65, .dup, 1), (66, .invokespecial 38, 3), (69, .putfield 39, 3), (72, .iconst 0, 1), (73, .istore_n 1, 1), (74, .iload_n 1, 1), (75, .bipush 6, 2), (77, .if_icmp .ge 22, 3), (80, .aload_n 0, 1), (81, .getfield 11, 3), (84, .iload_n 1, 1), (85, .new 9, 3), (88, .dup, 1), (89, .invokespecial 43, 3), (92, .aastore, 1), (93, .iinc 1 1, 3), (96, .goto (-22), 3), (99, .return_, 1)]
set_option maxRecDepth 20000 in
theorem dl_1_ok : dl_1.all (fun q => decide (decode prog_2_method_1_code q.1 = .ok (q.2.1, q.2.2))) = true := by decide +kernel
def tb_1_0 : Nat → xE := (x_T 22 (x_T 10 (x_T 4 (x_T 0 (x_L 0 (0, xi_load 0 2 1, 0, 0)) (x_T 1 (x_L 1 (0, xi_oi 4, 0, 0)) (x_L 4 (0, xi_load 0 2 5, 0, 0)))) (x_T 5 (x_L 5 (0, xi_push (0, 6, 6) 7, 0, 0)) (x_T 7 (x_L 7 (0, xi_newa 5 5 (2, 0, 0) (xm_c m_1) (xm_s m_1) 10, 0, 0)) (x_L 10 (0, xi_putf 0 0 2 13, 0, 0))))) (x_T 16 (x_T 13 (x_L 13 (0, xi_load 0 2 14, 0, 0)) (x_T 14 (x_L 14 (0, xi_push (0, 8, 8) 16, 0, 0)) (x_L 16 (0, xi_newa 1 0 (0, 0, 0) (xm_c m_1) (xm_s m_1) 18, 0, 0)))) (x_T 18 (x_L 18 (0, xi_putf 0 1 2 21, 0, 0)) (x_T 21 (x_L 21 (0, xi_load 0 2 22, 0, 0)) (x_L 22 (0, xi_push (0, 8, 8) 24, 0, 0)))))) (x_T 34 (x_T 29 (x_T 24 (x_L 24 (0, xi_newa 1 0 (0, 0, 0) (xm_c m_1) (xm_s m_1) 26, 0, 0)) (x_T 26 (x_L 26 (0, xi_putf 0 2 2 29, 0, 0)) (x_L 29 (0, xi_load 0 2 30, 0, 0)))) (x_T 30 (x_L 30 (0, xi_push (0, 7, 7) 32, 0, 0)) (x_T 32 (x_L 32 (0, xi_newa 1 0 (0, 0, 0) (xm_c m_1) (xm_s m_1) 34, 0, 0)) (x_L 34 (0, xi_putf 0 3 2 37, 0, 0))))) (x_T 40 (x_T 37 (x_L 37 (0, xi_load 0 2 38, 0, 0)) (x_T 38 (x_L 38 (0, xi_push (0, 7, 7) 40, 0, 0)) (x_L 40 (0, xi_newa 1 0 (0, 0, 0) (xm_c m_1) (xm_s m_1) 42, 0, 0)))) (x_T 45 (x_T 42 (x_L 42 (0, xi_putf 0 4 2 45, 0, 0)) (x_L 45 (0, xi_load 0 2 46, 0, 0))) (x_T 46 (x_L 46 (0, xi_push (0, 7, 7) 48, 0, 0)) (x_L 48 (0, xi_newa 1 0 (0, 0, 0) (xm_c m_1) (xm_s m_1) 50, 0, 0)))))))
set_option maxRecDepth 20000 in
set_option maxHeartbeats 4000000 in
theorem tb_1_0_ok (K : xKx) : ∀ pc, x_EOq cls K xI m_1 pc (tb_1_0 pc) :=
  (x_Tok2
  (x_Tok2
  (x_Tok2
  (x_Tok2
  (x_Lok (x_st (I := xI) (xr_aload_n (i := 0) (x_dk dl_1_ok 0 rfl))))
  (x_Tok2
  (x_Lok (x_st (I := xI) (xr_oi (ix := 3) (in_t2 (List.mem_of_getElem? (i := 78) rfl) rfl) (in_t1 (List.mem_of_getElem? (i := 27) rfl) rfl) (in_t1 (List.mem_of_getElem? (i := 28) rfl) rfl) (x_dk dl_1_ok 1 rfl))))
  (x_Lok (x_st (I := xI) (xr_aload_n (i := 0) (x_dk dl_1_ok 2 rfl))))))
  (x_Tok2
  (x_Lok (x_st (I := xI) (xr_bipush (n := 6) (z := 6) (v := 6) (x_dk dl_1_ok 3 rfl) (by decide) (by decide))))
  (x_Tok2
  (x_Lok (x_st (I := xI) (xr_newq (ci := 5) (ix := 9) (r := (RX5, TX5, 12)) rfl (in_t2 (List.mem_of_getElem? (i := 79) rfl) rfl) (fun U h => h.1.1) (x_dk dl_1_ok 4 rfl))))
  (x_Lok (x_st (I := xI) (xr_putF (ci := 0) (k := 0) (ix := 11) (N := 20) (fk := 2) (C := RX0) (T := TX0) (ty0 := tyX0) (ty := .array (.object "RobotCellHouse$Joint")) rfl in_X0 tyX0_ok nmX0 (by decide) (in_t2 (List.mem_of_getElem? (i := 144) rfl) rfl) rfl rfl rfl rfl x_fit_arr (x_dk dl_1_ok 5 rfl)))))))
  (x_Tok2
  (x_Tok2
  (x_Lok (x_st (I := xI) (xr_aload_n (i := 0) (x_dk dl_1_ok 6 rfl))))
  (x_Tok2
  (x_Lok (x_st (I := xI) (xr_bipush (n := 8) (z := 8) (v := 8) (x_dk dl_1_ok 7 rfl) (by decide) (by decide))))
  (x_Lok (x_st (I := xI) (xr_newa (kd := 1) (b := false) (ty := .int) rfl rfl (in_t1 (List.mem_of_getElem? (i := 64) rfl) rfl) (x_dk dl_1_ok 8 rfl))))))
  (x_Tok2
  (x_Lok (x_st (I := xI) (xr_putF (ci := 0) (k := 1) (ix := 17) (N := 20) (fk := 2) (C := RX0) (T := TX0) (ty0 := tyX0) (ty := .array .int) rfl in_X0 tyX0_ok nmX0 (by decide) (in_t2 (List.mem_of_getElem? (i := 148) rfl) rfl) rfl rfl rfl rfl x_fit_arr (x_dk dl_1_ok 9 rfl))))
  (x_Tok2
  (x_Lok (x_st (I := xI) (xr_aload_n (i := 0) (x_dk dl_1_ok 10 rfl))))
  (x_Lok (x_st (I := xI) (xr_bipush (n := 8) (z := 8) (v := 8) (x_dk dl_1_ok 11 rfl) (by decide) (by decide))))))))
  (x_Tok2
  (x_Tok2
  (x_Tok2
  (x_Lok (x_st (I := xI) (xr_newa (kd := 1) (b := false) (ty := .int) rfl rfl (in_t1 (List.mem_of_getElem? (i := 64) rfl) rfl) (x_dk dl_1_ok 12 rfl))))
  (x_Tok2
  (x_Lok (x_st (I := xI) (xr_putF (ci := 0) (k := 2) (ix := 21) (N := 20) (fk := 2) (C := RX0) (T := TX0) (ty0 := tyX0) (ty := .array .int) rfl in_X0 tyX0_ok nmX0 (by decide) (in_t2 (List.mem_of_getElem? (i := 152) rfl) rfl) rfl rfl rfl rfl x_fit_arr (x_dk dl_1_ok 13 rfl))))
  (x_Lok (x_st (I := xI) (xr_aload_n (i := 0) (x_dk dl_1_ok 14 rfl))))))
  (x_Tok2
  (x_Lok (x_st (I := xI) (xr_bipush (n := 7) (z := 7) (v := 7) (x_dk dl_1_ok 15 rfl) (by decide) (by decide))))
  (x_Tok2
  (x_Lok (x_st (I := xI) (xr_newa (kd := 1) (b := false) (ty := .int) rfl rfl (in_t1 (List.mem_of_getElem? (i := 64) rfl) rfl) (x_dk dl_1_ok 16 rfl))))
  (x_Lok (x_st (I := xI) (xr_putF (ci := 0) (k := 3) (ix := 24) (N := 20) (fk := 2) (C := RX0) (T := TX0) (ty0 := tyX0) (ty := .array .int) rfl in_X0 tyX0_ok nmX0 (by decide) (in_t2 (List.mem_of_getElem? (i := 156) rfl) rfl) rfl rfl rfl rfl x_fit_arr (x_dk dl_1_ok 17 rfl)))))))
  (x_Tok2
  (x_Tok2
  (x_Lok (x_st (I := xI) (xr_aload_n (i := 0) (x_dk dl_1_ok 18 rfl))))
  (x_Tok2
  (x_Lok (x_st (I := xI) (xr_bipush (n := 7) (z := 7) (v := 7) (x_dk dl_1_ok 19 rfl) (by decide) (by decide))))
  (x_Lok (x_st (I := xI) (xr_newa (kd := 1) (b := false) (ty := .int) rfl rfl (in_t1 (List.mem_of_getElem? (i := 64) rfl) rfl) (x_dk dl_1_ok 20 rfl))))))
  (x_Tok2
  (x_Tok2
  (x_Lok (x_st (I := xI) (xr_putF (ci := 0) (k := 4) (ix := 27) (N := 20) (fk := 2) (C := RX0) (T := TX0) (ty0 := tyX0) (ty := .array .int) rfl in_X0 tyX0_ok nmX0 (by decide) (in_t2 (List.mem_of_getElem? (i := 158) rfl) rfl) rfl rfl rfl rfl x_fit_arr (x_dk dl_1_ok 21 rfl))))
  (x_Lok (x_st (I := xI) (xr_aload_n (i := 0) (x_dk dl_1_ok 22 rfl)))))
  (x_Tok2
  (x_Lok (x_st (I := xI) (xr_bipush (n := 7) (z := 7) (v := 7) (x_dk dl_1_ok 23 rfl) (by decide) (by decide))))
  (x_Lok (x_st (I := xI) (xr_newa (kd := 1) (b := false) (ty := .int) rfl rfl (in_t1 (List.mem_of_getElem? (i := 64) rfl) rfl) (x_dk dl_1_ok 24 rfl)))))))))
def tb_1_25 : Nat → xE := (x_T 73 (x_T 61 (x_T 54 (x_T 50 (x_L 50 (0, xi_putf 0 5 2 53, 0, 0)) (x_T 53 (x_L 53 (0, xi_load 0 2 54, 0, 0)) (x_L 54 (0, xi_push (0, 32, 32) 56, 0, 0)))) (x_T 56 (x_L 56 (0, xi_newa 1 0 (0, 0, 0) (xm_c m_1) (xm_s m_1) 58, 0, 0)) (x_T 58 (x_L 58 (0, xi_putf 0 6 2 61, 0, 0)) (x_L 61 (0, xi_load 0 2 62, 0, 0))))) (x_T 66 (x_T 62 (x_L 62 (0, xi_new (x_nc 1 ks_X1) (xm_c m_1) (xm_s m_1) 65, 0, 0)) (x_T 65 (x_L 65 (0, xi_stk xf_dup 66, 0, 0)) (x_L 66 (2, x_nof, 7, 1)))) (x_T 69 (x_L 69 (0, xi_putf 0 7 2 72, 0, 0)) (x_T 72 (x_L 72 (0, xi_push (0, 0, 0) 73, 0, 0)) (x_L 73 (0, xi_stor 1 0 74, 0, 0)))))) (x_T 84 (x_T 77 (x_T 74 (x_L 74 (0, xi_load 1 0 75, 0, 0)) (x_T 75 (x_L 75 (0, xi_push (0, 6, 6) 77, 0, 0)) (x_L 77 (0, xi_if2 3 99 80, 0, 0)))) (x_T 80 (x_L 80 (0, xi_load 0 2 81, 0, 0)) (x_T 81 (x_L 81 (0, xi_getf 0 0 84, 0, 0)) (x_L 84 (0, xi_load 1 0 85, 0, 0))))) (x_T 89 (x_T 85 (x_L 85 (0, xi_new (x_nc 5 ks_X5) (xm_c m_1) (xm_s m_1) 88, 0, 0)) (x_T 88 (x_L 88 (0, xi_stk xf_dup 89, 0, 0)) (x_L 89 (2, x_nof, 16, 1)))) (x_T 93 (x_T 92 (x_L 92 (0, xi_aast 93, 0, 0)) (x_L 93 (0, xi_inc 1 1 96, 0, 0))) (x_T 96 (x_L 96 (0, xi_goto 74, 0, 0)) (x_L 99 (1, x_nof, 0, 0)))))))
set_option maxRecDepth 20000 in
set_option maxHeartbeats 4000000 in
theorem tb_1_25_ok (K : xKx) : ∀ pc, x_EOq cls K xI m_1 pc (tb_1_25 pc) :=
  (x_Tok2
  (x_Tok2
  (x_Tok2
  (x_Tok2
  (x_Lok (x_st (I := xI) (xr_putF (ci := 0) (k := 5) (ix := 30) (N := 20) (fk := 2) (C := RX0) (T := TX0) (ty0 := tyX0) (ty := .array .int) rfl in_X0 tyX0_ok nmX0 (by decide) (in_t2 (List.mem_of_getElem? (i := 160) rfl) rfl) rfl rfl rfl rfl x_fit_arr (x_dk dl_1_ok 25 rfl))))
  (x_Tok2
  (x_Lok (x_st (I := xI) (xr_aload_n (i := 0) (x_dk dl_1_ok 26 rfl))))
  (x_Lok (x_st (I := xI) (xr_bipush (n := 32) (z := 32) (v := 32) (x_dk dl_1_ok 27 rfl) (by decide) (by decide))))))
  (x_Tok2
  (x_Lok (x_st (I := xI) (xr_newa (kd := 1) (b := false) (ty := .int) rfl rfl (in_t1 (List.mem_of_getElem? (i := 64) rfl) rfl) (x_dk dl_1_ok 28 rfl))))
  (x_Tok2
  (x_Lok (x_st (I := xI) (xr_putF (ci := 0) (k := 6) (ix := 33) (N := 20) (fk := 2) (C := RX0) (T := TX0) (ty0 := tyX0) (ty := .array .int) rfl in_X0 tyX0_ok nmX0 (by decide) (in_t2 (List.mem_of_getElem? (i := 162) rfl) rfl) rfl rfl rfl rfl x_fit_arr (x_dk dl_1_ok 29 rfl))))
  (x_Lok (x_st (I := xI) (xr_aload_n (i := 0) (x_dk dl_1_ok 30 rfl)))))))
  (x_Tok2
  (x_Tok2
  (x_Lok (x_st (I := xI) (xr_new (ci := 1) (ix := 36) (N := 5) (C := RX1) (T := TX1) (ty0 := tyX1) (ks := ks_X1) rfl in_X1 tyX1_ok (in_t2 (List.mem_of_getElem? (i := 81) rfl) rfl) (in_t1 (List.mem_of_getElem? (i := 36) rfl) rfl) (in_t1 (List.mem_of_getElem? (i := 3) rfl) rfl) rfl df_X1 (x_dk dl_1_ok 31 rfl))))
  (x_Tok2
  (x_Lok (x_st (I := xI) (xr_dup (x_dk dl_1_ok 32 rfl))))
  (x_Lok (x_ca (I := xI) (q' := m_7) rfl (xr_callIN (q' := m_7) (ix := 38) (n := 0) (host := "RobotCellHouse") (in_t1 (List.mem_of_getElem? (i := 39) rfl) rfl) good_w (in_t1 (List.mem_of_getElem? (i := 3) rfl) rfl) (List.mem_of_getElem? (i := 5) rfl) (in_t1 (List.mem_of_getElem? (i := 38) rfl) rfl) rfl rfl (by decide +kernel) (by decide +kernel) (by decide +kernel) (x_dk dl_1_ok 33 rfl))))))
  (x_Tok2
  (x_Lok (x_st (I := xI) (xr_putf (ci := 0) (k := 7) (ix := 39) (N := 20) (fk := 2) (C := RX0) (T := TX0) (ty0 := tyX0) (ty := .object "RobotCellHouse$Code") rfl in_X0 tyX0_ok nmX0 (by decide) (in_t2 (List.mem_of_getElem? (i := 165) rfl) rfl) rfl rfl x_fit_obj (x_dk dl_1_ok 34 rfl))))
  (x_Tok2
  (x_Lok (x_st (I := xI) (xr_iconst (n := 0) (z := 0) (v := 0) (x_dk dl_1_ok 35 rfl) (by decide) (by decide))))
  (x_Lok (x_st (I := xI) (xr_istore_n (i := 1) (x_dk dl_1_ok 36 rfl) (by decide +kernel))))))))
  (x_Tok2
  (x_Tok2
  (x_Tok2
  (x_Lok (x_st (I := xI) (xr_iload_n (i := 1) (x_dk dl_1_ok 37 rfl))))
  (x_Tok2
  (x_Lok (x_st (I := xI) (xr_bipush (n := 6) (z := 6) (v := 6) (x_dk dl_1_ok 38 rfl) (by decide) (by decide))))
  (x_Lok (x_st (I := xI) (xr_icmpge (off := 22) (tg := 99) (x_dk dl_1_ok 39 rfl) (by decide))))))
  (x_Tok2
  (x_Lok (x_st (I := xI) (xr_aload_n (i := 0) (x_dk dl_1_ok 40 rfl))))
  (x_Tok2
  (x_Lok (x_st (I := xI) (xr_getf (ci := 0) (k := 0) (ix := 11) (N := 20) (C := RX0) (T := TX0) rfl in_X0 (by decide) (in_t2 (List.mem_of_getElem? (i := 144) rfl) rfl) (x_dk dl_1_ok 41 rfl))))
  (x_Lok (x_st (I := xI) (xr_iload_n (i := 1) (x_dk dl_1_ok 42 rfl)))))))
  (x_Tok2
  (x_Tok2
  (x_Lok (x_st (I := xI) (xr_new (ci := 5) (ix := 9) (N := 12) (C := RX5) (T := TX5) (ty0 := tyX5) (ks := ks_X5) rfl in_X5 tyX5_ok (in_t2 (List.mem_of_getElem? (i := 79) rfl) rfl) (in_t2 (List.mem_of_getElem? (i := 83) rfl) rfl) (in_t1 (List.mem_of_getElem? (i := 9) rfl) rfl) rfl df_X5 (x_dk dl_1_ok 43 rfl))))
  (x_Tok2
  (x_Lok (x_st (I := xI) (xr_dup (x_dk dl_1_ok 44 rfl))))
  (x_Lok (x_ca (I := xI) (q' := m_16) rfl (xr_callIN (q' := m_16) (ix := 43) (n := 0) (host := "RobotCellHouse") (in_t2 (List.mem_of_getElem? (i := 86) rfl) rfl) good_w (in_t1 (List.mem_of_getElem? (i := 9) rfl) rfl) (List.mem_of_getElem? (i := 6) rfl) (in_t2 (List.mem_of_getElem? (i := 85) rfl) rfl) rfl rfl (by decide +kernel) (by decide +kernel) (by decide +kernel) (x_dk dl_1_ok 45 rfl))))))
  (x_Tok2
  (x_Tok2
  (x_Lok (x_st (I := xI) (xr_aastore (x_dk dl_1_ok 46 rfl))))
  (x_Lok (x_st (I := xI) (xr_iinc (i := 1) (n := 1) (x_dk dl_1_ok 47 rfl) (by decide +kernel) (by decide)))))
  (x_Tok2
  (x_Lok (x_st (I := xI) (xr_goto (off := (-22)) (tg := 74) (x_dk dl_1_ok 48 rfl) (by decide))))
  (x_Lok (x_rt (I := xI) (k := 0) ⟨(x_dk dl_1_ok 49 rfl), rfl⟩)))))))
def tb_1 : Nat → xE := (x_T 48 tb_1_0 tb_1_25)
theorem tb_1_ok (K : xKx) : ∀ pc, x_EOq cls K xI m_1 pc (tb_1 pc) := (x_Tok2 (tb_1_0_ok K) (tb_1_25_ok K))
def dl_2 : List (Nat × Instr × Nat) := [(0, .aload_n 0, 1), (1, .iconst 0, 1), (2, .putfield 44, 3), (5, .aload_n 0, 1), (6, .getfield 17, 3), (9, .iconst 0, 1), (10, .iload_n 1, 1), (11, .iastore, 1), (12, .aload_n 0, 1), (13, .getfield 21, 3), (16, .iconst 0, 1), (17, .iload_n 2, 1), (18, .iastore, 1), (19, .aload_n 0, 1), (20, .iload_n 3, 1), (21, .putfield 48, 3), (24, .aload_n 0, 1), (25, .iload 4, 2), (27, .putfield 51, 3), (30, .aload_n 0, 1), (31, .getfield 30, 3), (34, .iconst 0, 1), (35, .invokestatic 54, 3), (38, .aload_n 0, 1), (39, .getfield 39, 3), (42, .invokevirtual 60, 3), (45, .aload_n 0, 1), (46, .invokevirtual 63, 3), (49, .return_, 1)]
set_option maxRecDepth 20000 in
theorem dl_2_ok : dl_2.all (fun q => decide (decode prog_2_method_2_code q.1 = .ok (q.2.1, q.2.2))) = true := by decide +kernel
def tb_2_0 : Nat → xE := (x_T 19 (x_T 10 (x_T 2 (x_T 0 (x_L 0 (0, xi_load 0 2 1, 0, 0)) (x_T 1 (x_L 1 (0, xi_push (0, 0, 0) 2, 0, 0)) (x_L 2 (0, xi_putf 0 8 0 5, 0, 0)))) (x_T 6 (x_T 5 (x_L 5 (0, xi_load 0 2 6, 0, 0)) (x_L 6 (0, xi_getf 0 1 9, 0, 0))) (x_T 9 (x_L 9 (0, xi_push (0, 0, 0) 10, 0, 0)) (x_L 10 (0, xi_load 1 0 11, 0, 0))))) (x_T 13 (x_T 11 (x_L 11 (0, xi_ast false 12, 0, 0)) (x_T 12 (x_L 12 (0, xi_load 0 2 13, 0, 0)) (x_L 13 (0, xi_getf 0 2 16, 0, 0)))) (x_T 17 (x_T 16 (x_L 16 (0, xi_push (0, 0, 0) 17, 0, 0)) (x_L 17 (0, xi_load 2 0 18, 0, 0))) (x_T 18 (x_L 18 (0, xi_ast false 19, 0, 0)) (x_L 19 (0, xi_load 0 2 20, 0, 0)))))) (x_T 31 (x_T 24 (x_T 20 (x_L 20 (0, xi_load 3 0 21, 0, 0)) (x_T 21 (x_L 21 (0, xi_putf 0 9 0 24, 0, 0)) (x_L 24 (0, xi_load 0 2 25, 0, 0)))) (x_T 27 (x_T 25 (x_L 25 (0, xi_load 4 0 27, 0, 0)) (x_L 27 (0, xi_putf 0 10 0 30, 0, 0))) (x_T 30 (x_L 30 (0, xi_load 0 2 31, 0, 0)) (x_L 31 (0, xi_getf 0 5 34, 0, 0))))) (x_T 39 (x_T 35 (x_T 34 (x_L 34 (0, xi_push (0, 0, 0) 35, 0, 0)) (x_L 35 (2, x_nof, 33, 2))) (x_T 38 (x_L 38 (0, xi_load 0 2 39, 0, 0)) (x_L 39 (0, xi_getf 0 7 42, 0, 0)))) (x_T 45 (x_T 42 (x_L 42 (2, x_nof, 8, 1)) (x_L 45 (0, xi_load 0 2 46, 0, 0))) (x_T 46 (x_L 46 (2, x_nof, 3, 1)) (x_L 49 (1, x_nof, 0, 0)))))))
set_option maxRecDepth 20000 in
set_option maxHeartbeats 4000000 in
theorem tb_2_0_ok (K : xKx) : ∀ pc, x_EOq cls K xI m_2 pc (tb_2_0 pc) :=
  (x_Tok2
  (x_Tok2
  (x_Tok2
  (x_Tok2
  (x_Lok (x_st (I := xI) (xr_aload_n (i := 0) (x_dk dl_2_ok 0 rfl))))
  (x_Tok2
  (x_Lok (x_st (I := xI) (xr_iconst (n := 0) (z := 0) (v := 0) (x_dk dl_2_ok 1 rfl) (by decide) (by decide))))
  (x_Lok (x_st (I := xI) (xr_putf (ci := 0) (k := 8) (ix := 44) (N := 20) (fk := 0) (C := RX0) (T := TX0) (ty0 := tyX0) (ty := .int) rfl in_X0 tyX0_ok nmX0 (by decide) (in_t2 (List.mem_of_getElem? (i := 168) rfl) rfl) rfl rfl x_fit_int (x_dk dl_2_ok 2 rfl))))))
  (x_Tok2
  (x_Tok2
  (x_Lok (x_st (I := xI) (xr_aload_n (i := 0) (x_dk dl_2_ok 3 rfl))))
  (x_Lok (x_st (I := xI) (xr_getf (ci := 0) (k := 1) (ix := 17) (N := 20) (C := RX0) (T := TX0) rfl in_X0 (by decide) (in_t2 (List.mem_of_getElem? (i := 148) rfl) rfl) (x_dk dl_2_ok 4 rfl)))))
  (x_Tok2
  (x_Lok (x_st (I := xI) (xr_iconst (n := 0) (z := 0) (v := 0) (x_dk dl_2_ok 5 rfl) (by decide) (by decide))))
  (x_Lok (x_st (I := xI) (xr_iload_n (i := 1) (x_dk dl_2_ok 6 rfl)))))))
  (x_Tok2
  (x_Tok2
  (x_Lok (x_st (I := xI) (xr_iastore (x_dk dl_2_ok 7 rfl))))
  (x_Tok2
  (x_Lok (x_st (I := xI) (xr_aload_n (i := 0) (x_dk dl_2_ok 8 rfl))))
  (x_Lok (x_st (I := xI) (xr_getf (ci := 0) (k := 2) (ix := 21) (N := 20) (C := RX0) (T := TX0) rfl in_X0 (by decide) (in_t2 (List.mem_of_getElem? (i := 152) rfl) rfl) (x_dk dl_2_ok 9 rfl))))))
  (x_Tok2
  (x_Tok2
  (x_Lok (x_st (I := xI) (xr_iconst (n := 0) (z := 0) (v := 0) (x_dk dl_2_ok 10 rfl) (by decide) (by decide))))
  (x_Lok (x_st (I := xI) (xr_iload_n (i := 2) (x_dk dl_2_ok 11 rfl)))))
  (x_Tok2
  (x_Lok (x_st (I := xI) (xr_iastore (x_dk dl_2_ok 12 rfl))))
  (x_Lok (x_st (I := xI) (xr_aload_n (i := 0) (x_dk dl_2_ok 13 rfl))))))))
  (x_Tok2
  (x_Tok2
  (x_Tok2
  (x_Lok (x_st (I := xI) (xr_iload_n (i := 3) (x_dk dl_2_ok 14 rfl))))
  (x_Tok2
  (x_Lok (x_st (I := xI) (xr_putf (ci := 0) (k := 9) (ix := 48) (N := 20) (fk := 0) (C := RX0) (T := TX0) (ty0 := tyX0) (ty := .int) rfl in_X0 tyX0_ok nmX0 (by decide) (in_t2 (List.mem_of_getElem? (i := 173) rfl) rfl) rfl rfl x_fit_int (x_dk dl_2_ok 15 rfl))))
  (x_Lok (x_st (I := xI) (xr_aload_n (i := 0) (x_dk dl_2_ok 16 rfl))))))
  (x_Tok2
  (x_Tok2
  (x_Lok (x_st (I := xI) (xr_iload (i := 4) (x_dk dl_2_ok 17 rfl))))
  (x_Lok (x_st (I := xI) (xr_putf (ci := 0) (k := 10) (ix := 51) (N := 20) (fk := 0) (C := RX0) (T := TX0) (ty0 := tyX0) (ty := .int) rfl in_X0 tyX0_ok nmX0 (by decide) (in_t2 (List.mem_of_getElem? (i := 174) rfl) rfl) rfl rfl x_fit_int (x_dk dl_2_ok 18 rfl)))))
  (x_Tok2
  (x_Lok (x_st (I := xI) (xr_aload_n (i := 0) (x_dk dl_2_ok 19 rfl))))
  (x_Lok (x_st (I := xI) (xr_getf (ci := 0) (k := 5) (ix := 30) (N := 20) (C := RX0) (T := TX0) rfl in_X0 (by decide) (in_t2 (List.mem_of_getElem? (i := 160) rfl) rfl) (x_dk dl_2_ok 20 rfl)))))))
  (x_Tok2
  (x_Tok2
  (x_Tok2
  (x_Lok (x_st (I := xI) (xr_iconst (n := 0) (z := 0) (v := 0) (x_dk dl_2_ok 21 rfl) (by decide) (by decide))))
  (x_Lok (x_ca (I := xI) (q' := m_33) rfl (xr_callS (q' := m_33) (ix := 54) (n := 2) (in_t4 (List.mem_of_getElem? (i := 9) rfl) rfl) good_w (in_t1 (List.mem_of_getElem? (i := 13) rfl) rfl) (in_t4 (List.mem_of_getElem? (i := 7) rfl) rfl) (in_t4 (List.mem_of_getElem? (i := 8) rfl) rfl) (by decide +kernel) (by decide +kernel) (x_dk dl_2_ok 22 rfl)))))
  (x_Tok2
  (x_Lok (x_st (I := xI) (xr_aload_n (i := 0) (x_dk dl_2_ok 23 rfl))))
  (x_Lok (x_st (I := xI) (xr_getf (ci := 0) (k := 7) (ix := 39) (N := 20) (C := RX0) (T := TX0) rfl in_X0 (by decide) (in_t2 (List.mem_of_getElem? (i := 165) rfl) rfl) (x_dk dl_2_ok 24 rfl))))))
  (x_Tok2
  (x_Tok2
  (x_Lok (x_ca (I := xI) (q' := m_8) rfl (xr_callV (q' := m_8) (ix := 60) (n := 0) (in_t4 (List.mem_of_getElem? (i := 13) rfl) rfl) good_w (in_t1 (List.mem_of_getElem? (i := 3) rfl) rfl) (in_t4 (List.mem_of_getElem? (i := 10) rfl) rfl) (in_t4 (List.mem_of_getElem? (i := 11) rfl) rfl) (in_t4 (List.mem_of_getElem? (i := 12) rfl) rfl) (by decide +kernel) (by decide +kernel) (by decide +kernel) (x_dk dl_2_ok 25 rfl))))
  (x_Lok (x_st (I := xI) (xr_aload_n (i := 0) (x_dk dl_2_ok 26 rfl)))))
  (x_Tok2
  (x_Lok (x_ca (I := xI) (q' := m_3) rfl (xr_callV (q' := m_3) (ix := 63) (n := 0) (in_t4 (List.mem_of_getElem? (i := 17) rfl) rfl) good_w (in_t1 (List.mem_of_getElem? (i := 8) rfl) rfl) (in_t4 (List.mem_of_getElem? (i := 14) rfl) rfl) (in_t4 (List.mem_of_getElem? (i := 15) rfl) rfl) (in_t4 (List.mem_of_getElem? (i := 16) rfl) rfl) (by decide +kernel) (by decide +kernel) (by decide +kernel) (x_dk dl_2_ok 27 rfl))))
  (x_Lok (x_rt (I := xI) (k := 0) ⟨(x_dk dl_2_ok 28 rfl), rfl⟩)))))))
def tb_2 : Nat → xE := tb_2_0
theorem tb_2_ok (K : xKx) : ∀ pc, x_EOq cls K xI m_2 pc (tb_2 pc) := tb_2_0_ok K
def dl_3 : List (Nat × Instr × Nat) := [(0, .iconst 0, 1), (1, .istore_n 1, 1), (2, .iload_n 1, 1), (3, .bipush 6, 2), (5, .if_icmp .ge 29, 3), (8, .aload_n 0, 1), (9, .getfield 11, 3), (12, .iload_n 1, 1), (13, .aaload, 1), (14, .iconst 0, 1), (15, .putfield 90, 3), (18, .aload_n 0, 1), (19, .getfield 11, 3), (22, .iload_n 1, 1), (23, .aaload, 1), (24, .iconst 0, 1), (25, .putfield 93, 3), (28, .iinc 1 1, 3), (31, .goto (-29), 3), (34, .aload_n 0, 1), (35, .getfield 33, 3), (38, .iconst 0, 1), (39, .invokestatic 54, 3), (42, .aload_n 0, 1), (43, .invokevirtual 96, 3), (46, .aload_n 0, 1), (47, .iconst (-1), 1), (48, .putfield 99, 3), (51, .aload_n 0, 1), (52, .iconst 0, 1), (53, .putfield 102, 3), (56, .aload_n 0, 1), (57, .iconst (-1), 1), (58, .putfield 105, 3), (61, .aload_n 0, 1), (62, .iconst (-1), 1), (63, .putfield 108, 3), (66, .aload_n 0, 1), (67, .iconst 0, 1), (68, .putfield 111, 3), (71, .aload_n 0, 1), (72, .invokevirtual 87, 3), (75, .aload_n 0, 1), (76, .invokevirtual 114, 3), (79, .return_, 1)]
set_option maxRecDepth 20000 in
theorem dl_3_ok : dl_3.all (fun q => decide (decode prog_2_method_4_code q.1 = .ok (q.2.1, q.2.2))) = true := by decide +kernel
def tb_3_0 : Nat → xE := (x_T 15 (x_T 5 (x_T 1 (x_T 0 (x_L 0 (0, xi_push (0, 0, 0) 1, 0, 0)) (x_L 1 (0, xi_stor 1 0 2, 0, 0))) (x_T 2 (x_L 2 (0, xi_load 1 0 3, 0, 0)) (x_T 3 (x_L 3 (0, xi_push (0, 6, 6) 5, 0, 0)) (x_L 5 (0, xi_if2 3 34 8, 0, 0))))) (x_T 12 (x_T 8 (x_L 8 (0, xi_load 0 2 9, 0, 0)) (x_T 9 (x_L 9 (0, xi_getf 0 0 12, 0, 0)) (x_L 12 (0, xi_load 1 0 13, 0, 0)))) (x_T 13 (x_L 13 (0, xi_aald 14, 0, 0)) (x_T 14 (x_L 14 (0, xi_push (0, 0, 0) 15, 0, 0)) (x_L 15 (0, xi_putf 5 7 0 18, 0, 0)))))) (x_T 24 (x_T 19 (x_T 18 (x_L 18 (0, xi_load 0 2 19, 0, 0)) (x_L 19 (0, xi_getf 0 0 22, 0, 0))) (x_T 22 (x_L 22 (0, xi_load 1 0 23, 0, 0)) (x_T 23 (x_L 23 (0, xi_aald 24, 0, 0)) (x_L 24 (0, xi_push (0, 0, 0) 25, 0, 0))))) (x_T 31 (x_T 25 (x_L 25 (0, xi_putf 5 9 0 28, 0, 0)) (x_T 28 (x_L 28 (0, xi_inc 1 1 31, 0, 0)) (x_L 31 (0, xi_goto 2, 0, 0)))) (x_T 34 (x_L 34 (0, xi_load 0 2 35, 0, 0)) (x_T 35 (x_L 35 (0, xi_getf 0 6 38, 0, 0)) (x_L 38 (0, xi_push (0, 0, 0) 39, 0, 0)))))))
set_option maxRecDepth 20000 in
set_option maxHeartbeats 4000000 in
theorem tb_3_0_ok (K : xKx) : ∀ pc, x_EOq cls K xI m_3 pc (tb_3_0 pc) :=
  (x_Tok2
  (x_Tok2
  (x_Tok2
  (x_Tok2
  (x_Lok (x_st (I := xI) (xr_iconst (n := 0) (z := 0) (v := 0) (x_dk dl_3_ok 0 rfl) (by decide) (by decide))))
  (x_Lok (x_st (I := xI) (xr_istore_n (i := 1) (x_dk dl_3_ok 1 rfl) (by decide +kernel)))))
  (x_Tok2
  (x_Lok (x_st (I := xI) (xr_iload_n (i := 1) (x_dk dl_3_ok 2 rfl))))
  (x_Tok2
  (x_Lok (x_st (I := xI) (xr_bipush (n := 6) (z := 6) (v := 6) (x_dk dl_3_ok 3 rfl) (by decide) (by decide))))
  (x_Lok (x_st (I := xI) (xr_icmpge (off := 29) (tg := 34) (x_dk dl_3_ok 4 rfl) (by decide)))))))
  (x_Tok2
  (x_Tok2
  (x_Lok (x_st (I := xI) (xr_aload_n (i := 0) (x_dk dl_3_ok 5 rfl))))
  (x_Tok2
  (x_Lok (x_st (I := xI) (xr_getf (ci := 0) (k := 0) (ix := 11) (N := 20) (C := RX0) (T := TX0) rfl in_X0 (by decide) (in_t2 (List.mem_of_getElem? (i := 144) rfl) rfl) (x_dk dl_3_ok 6 rfl))))
  (x_Lok (x_st (I := xI) (xr_iload_n (i := 1) (x_dk dl_3_ok 7 rfl))))))
  (x_Tok2
  (x_Lok (x_st (I := xI) (xr_aaload (x_dk dl_3_ok 8 rfl))))
  (x_Tok2
  (x_Lok (x_st (I := xI) (xr_iconst (n := 0) (z := 0) (v := 0) (x_dk dl_3_ok 9 rfl) (by decide) (by decide))))
  (x_Lok (x_st (I := xI) (xr_putf (ci := 5) (k := 7) (ix := 90) (N := 12) (fk := 0) (C := RX5) (T := TX5) (ty0 := tyX5) (ty := .int) rfl in_X5 tyX5_ok nmX5 (by decide) (in_t2 (List.mem_of_getElem? (i := 105) rfl) rfl) rfl rfl x_fit_int (x_dk dl_3_ok 10 rfl))))))))
  (x_Tok2
  (x_Tok2
  (x_Tok2
  (x_Lok (x_st (I := xI) (xr_aload_n (i := 0) (x_dk dl_3_ok 11 rfl))))
  (x_Lok (x_st (I := xI) (xr_getf (ci := 0) (k := 0) (ix := 11) (N := 20) (C := RX0) (T := TX0) rfl in_X0 (by decide) (in_t2 (List.mem_of_getElem? (i := 144) rfl) rfl) (x_dk dl_3_ok 12 rfl)))))
  (x_Tok2
  (x_Lok (x_st (I := xI) (xr_iload_n (i := 1) (x_dk dl_3_ok 13 rfl))))
  (x_Tok2
  (x_Lok (x_st (I := xI) (xr_aaload (x_dk dl_3_ok 14 rfl))))
  (x_Lok (x_st (I := xI) (xr_iconst (n := 0) (z := 0) (v := 0) (x_dk dl_3_ok 15 rfl) (by decide) (by decide)))))))
  (x_Tok2
  (x_Tok2
  (x_Lok (x_st (I := xI) (xr_putf (ci := 5) (k := 9) (ix := 93) (N := 12) (fk := 0) (C := RX5) (T := TX5) (ty0 := tyX5) (ty := .int) rfl in_X5 tyX5_ok nmX5 (by decide) (in_t2 (List.mem_of_getElem? (i := 112) rfl) rfl) rfl rfl x_fit_int (x_dk dl_3_ok 16 rfl))))
  (x_Tok2
  (x_Lok (x_st (I := xI) (xr_iinc (i := 1) (n := 1) (x_dk dl_3_ok 17 rfl) (by decide +kernel) (by decide))))
  (x_Lok (x_st (I := xI) (xr_goto (off := (-29)) (tg := 2) (x_dk dl_3_ok 18 rfl) (by decide))))))
  (x_Tok2
  (x_Lok (x_st (I := xI) (xr_aload_n (i := 0) (x_dk dl_3_ok 19 rfl))))
  (x_Tok2
  (x_Lok (x_st (I := xI) (xr_getf (ci := 0) (k := 6) (ix := 33) (N := 20) (C := RX0) (T := TX0) rfl in_X0 (by decide) (in_t2 (List.mem_of_getElem? (i := 162) rfl) rfl) (x_dk dl_3_ok 20 rfl))))
  (x_Lok (x_st (I := xI) (xr_iconst (n := 0) (z := 0) (v := 0) (x_dk dl_3_ok 21 rfl) (by decide) (by decide)))))))))
def tb_3_22 : Nat → xE := (x_T 57 (x_T 47 (x_T 42 (x_T 39 (x_L 39 (2, x_nof, 33, 2)) (x_L 42 (0, xi_load 0 2 43, 0, 0))) (x_T 43 (x_L 43 (2, x_nof, 6, 1)) (x_T 46 (x_L 46 (0, xi_load 0 2 47, 0, 0)) (x_L 47 (0, xi_push (0, (-1), (-1)) 48, 0, 0))))) (x_T 52 (x_T 48 (x_L 48 (0, xi_putf 0 14 0 51, 0, 0)) (x_T 51 (x_L 51 (0, xi_load 0 2 52, 0, 0)) (x_L 52 (0, xi_push (0, 0, 0) 53, 0, 0)))) (x_T 53 (x_L 53 (0, xi_putf 0 15 0 56, 0, 0)) (x_T 56 (x_L 56 (0, xi_load 0 2 57, 0, 0)) (x_L 57 (0, xi_push (0, (-1), (-1)) 58, 0, 0)))))) (x_T 67 (x_T 62 (x_T 58 (x_L 58 (0, xi_putf 0 16 0 61, 0, 0)) (x_T 61 (x_L 61 (0, xi_load 0 2 62, 0, 0)) (x_L 62 (0, xi_push (0, (-1), (-1)) 63, 0, 0)))) (x_T 63 (x_L 63 (0, xi_putf 0 17 0 66, 0, 0)) (x_T 66 (x_L 66 (0, xi_load 0 2 67, 0, 0)) (x_L 67 (0, xi_push (0, 0, 0) 68, 0, 0))))) (x_T 72 (x_T 68 (x_L 68 (0, xi_putf 0 19 0 71, 0, 0)) (x_T 71 (x_L 71 (0, xi_load 0 2 72, 0, 0)) (x_L 72 (2, x_nof, 4, 1)))) (x_T 75 (x_L 75 (0, xi_load 0 2 76, 0, 0)) (x_T 76 (x_L 76 (2, x_nof, 5, 1)) (x_L 79 (1, x_nof, 0, 0)))))))
set_option maxRecDepth 20000 in
set_option maxHeartbeats 4000000 in
theorem tb_3_22_ok (K : xKx) : ∀ pc, x_EOq cls K xI m_3 pc (tb_3_22 pc) :=
  (x_Tok2
  (x_Tok2
  (x_Tok2
  (x_Tok2
  (x_Lok (x_ca (I := xI) (q' := m_33) rfl (xr_callS (q' := m_33) (ix := 54) (n := 2) (in_t4 (List.mem_of_getElem? (i := 9) rfl) rfl) good_w (in_t1 (List.mem_of_getElem? (i := 13) rfl) rfl) (in_t4 (List.mem_of_getElem? (i := 7) rfl) rfl) (in_t4 (List.mem_of_getElem? (i := 8) rfl) rfl) (by decide +kernel) (by decide +kernel) (x_dk dl_3_ok 22 rfl))))
  (x_Lok (x_st (I := xI) (xr_aload_n (i := 0) (x_dk dl_3_ok 23 rfl)))))
  (x_Tok2
  (x_Lok (x_ca (I := xI) (q' := m_6) rfl (xr_callV (q' := m_6) (ix := 96) (n := 0) (in_t4 (List.mem_of_getElem? (i := 21) rfl) rfl) good_w (in_t1 (List.mem_of_getElem? (i := 8) rfl) rfl) (in_t4 (List.mem_of_getElem? (i := 18) rfl) rfl) (in_t4 (List.mem_of_getElem? (i := 19) rfl) rfl) (in_t4 (List.mem_of_getElem? (i := 20) rfl) rfl) (by decide +kernel) (by decide +kernel) (by decide +kernel) (x_dk dl_3_ok 24 rfl))))
  (x_Tok2
  (x_Lok (x_st (I := xI) (xr_aload_n (i := 0) (x_dk dl_3_ok 25 rfl))))
  (x_Lok (x_st (I := xI) (xr_iconst (n := (-1)) (z := (-1)) (v := (-1)) (x_dk dl_3_ok 26 rfl) (by decide) (by decide)))))))
  (x_Tok2
  (x_Tok2
  (x_Lok (x_st (I := xI) (xr_putf (ci := 0) (k := 14) (ix := 99) (N := 20) (fk := 0) (C := RX0) (T := TX0) (ty0 := tyX0) (ty := .int) rfl in_X0 tyX0_ok nmX0 (by decide) (in_t2 (List.mem_of_getElem? (i := 183) rfl) rfl) rfl rfl x_fit_int (x_dk dl_3_ok 27 rfl))))
  (x_Tok2
  (x_Lok (x_st (I := xI) (xr_aload_n (i := 0) (x_dk dl_3_ok 28 rfl))))
  (x_Lok (x_st (I := xI) (xr_iconst (n := 0) (z := 0) (v := 0) (x_dk dl_3_ok 29 rfl) (by decide) (by decide))))))
  (x_Tok2
  (x_Lok (x_st (I := xI) (xr_putf (ci := 0) (k := 15) (ix := 102) (N := 20) (fk := 0) (C := RX0) (T := TX0) (ty0 := tyX0) (ty := .int) rfl in_X0 tyX0_ok nmX0 (by decide) (in_t2 (List.mem_of_getElem? (i := 187) rfl) rfl) rfl rfl x_fit_int (x_dk dl_3_ok 30 rfl))))
  (x_Tok2
  (x_Lok (x_st (I := xI) (xr_aload_n (i := 0) (x_dk dl_3_ok 31 rfl))))
  (x_Lok (x_st (I := xI) (xr_iconst (n := (-1)) (z := (-1)) (v := (-1)) (x_dk dl_3_ok 32 rfl) (by decide) (by decide))))))))
  (x_Tok2
  (x_Tok2
  (x_Tok2
  (x_Lok (x_st (I := xI) (xr_putf (ci := 0) (k := 16) (ix := 105) (N := 20) (fk := 0) (C := RX0) (T := TX0) (ty0 := tyX0) (ty := .int) rfl in_X0 tyX0_ok nmX0 (by decide) (in_t2 (List.mem_of_getElem? (i := 189) rfl) rfl) rfl rfl x_fit_int (x_dk dl_3_ok 33 rfl))))
  (x_Tok2
  (x_Lok (x_st (I := xI) (xr_aload_n (i := 0) (x_dk dl_3_ok 34 rfl))))
  (x_Lok (x_st (I := xI) (xr_iconst (n := (-1)) (z := (-1)) (v := (-1)) (x_dk dl_3_ok 35 rfl) (by decide) (by decide))))))
  (x_Tok2
  (x_Lok (x_st (I := xI) (xr_putf (ci := 0) (k := 17) (ix := 108) (N := 20) (fk := 0) (C := RX0) (T := TX0) (ty0 := tyX0) (ty := .int) rfl in_X0 tyX0_ok nmX0 (by decide) (in_t2 (List.mem_of_getElem? (i := 193) rfl) rfl) rfl rfl x_fit_int (x_dk dl_3_ok 36 rfl))))
  (x_Tok2
  (x_Lok (x_st (I := xI) (xr_aload_n (i := 0) (x_dk dl_3_ok 37 rfl))))
  (x_Lok (x_st (I := xI) (xr_iconst (n := 0) (z := 0) (v := 0) (x_dk dl_3_ok 38 rfl) (by decide) (by decide)))))))
  (x_Tok2
  (x_Tok2
  (x_Lok (x_st (I := xI) (xr_putf (ci := 0) (k := 19) (ix := 111) (N := 20) (fk := 0) (C := RX0) (T := TX0) (ty0 := tyX0) (ty := .int) rfl in_X0 tyX0_ok nmX0 (by decide) (in_t2 (List.mem_of_getElem? (i := 200) rfl) rfl) rfl rfl x_fit_int (x_dk dl_3_ok 39 rfl))))
  (x_Tok2
  (x_Lok (x_st (I := xI) (xr_aload_n (i := 0) (x_dk dl_3_ok 40 rfl))))
  (x_Lok (x_ca (I := xI) (q' := m_4) rfl (xr_callV (q' := m_4) (ix := 87) (n := 0) (in_t4 (List.mem_of_getElem? (i := 25) rfl) rfl) good_w (in_t1 (List.mem_of_getElem? (i := 8) rfl) rfl) (in_t4 (List.mem_of_getElem? (i := 22) rfl) rfl) (in_t4 (List.mem_of_getElem? (i := 23) rfl) rfl) (in_t4 (List.mem_of_getElem? (i := 24) rfl) rfl) (by decide +kernel) (by decide +kernel) (by decide +kernel) (x_dk dl_3_ok 41 rfl))))))
  (x_Tok2
  (x_Lok (x_st (I := xI) (xr_aload_n (i := 0) (x_dk dl_3_ok 42 rfl))))
  (x_Tok2
  (x_Lok (x_ca (I := xI) (q' := m_5) rfl (xr_callV (q' := m_5) (ix := 114) (n := 0) (in_t4 (List.mem_of_getElem? (i := 39) rfl) rfl) good_w (in_t1 (List.mem_of_getElem? (i := 8) rfl) rfl) (in_t4 (List.mem_of_getElem? (i := 36) rfl) rfl) (in_t4 (List.mem_of_getElem? (i := 37) rfl) rfl) (in_t4 (List.mem_of_getElem? (i := 38) rfl) rfl) (by decide +kernel) (by decide +kernel) (by decide +kernel) (x_dk dl_3_ok 43 rfl))))
  (x_Lok (x_rt (I := xI) (k := 0) ⟨(x_dk dl_3_ok 44 rfl), rfl⟩)))))))
def tb_3 : Nat → xE := (x_T 38 tb_3_0 tb_3_22)
theorem tb_3_ok (K : xKx) : ∀ pc, x_EOq cls K xI m_3 pc (tb_3 pc) := (x_Tok2 (tb_3_0_ok K) (tb_3_22_ok K))
def dl_4 : List (Nat × Instr × Nat) := [(0, .aload_n 0, 1), (1, .getfield 17, 3), (4, .iconst 0, 1), (5, .iaload, 1), (6, .i2l, 1), (7, .bipush 20, 2), (9, .lshl, 1), (10, .lstore_n 1, 1), (11, .aload_n 0, 1), (12, .getfield 21, 3), (15, .iconst 0, 1), (16, .iaload, 1), (17, .i2l, 1), (18, .bipush 20, 2), (20, .lshl, 1), (21, .lstore_n 3, 1), (22, .aload_n 0, 1), (23, .getfield 48, 3), (26, .istore 5, 2), (28, .iconst 0, 1), (29, .istore 6, 2), (31, .iload 6, 2), (33, .aload_n 0, 1), (34, .getfield 44, 3), (37, .if_icmp .ge 129, 3), (166, .aload_n 0, 1), (167, .getfield 17, 3), (170, .aload_n 0, 1), (171, .getfield 44, 3), (174, .iconst 1, 1), (175, .iadd, 1), (176, .aload_n 0, 1), (177, .getfield 17, 3), (180, .aload_n 0, 1), (181, .getfield 44, 3), (184, .iaload, 1), (185, .iastore, 1), (186, .aload_n 0, 1), (187, .getfield 21, 3), (190, .aload_n 0, 1), (191, .getfield 44, 3), (194, .iconst 1, 1), (195, .iadd, 1), (196, .aload_n 0, 1), (197, .getfield 21, 3), (200, .aload_n 0, 1), (201, .getfield 44, 3), (204, .iaload, 1), (205, .iastore, 1), (206, .return_, 1)]
set_option maxRecDepth 20000 in
theorem dl_4_ok : dl_4.all (fun q => decide (decode prog_2_method_11_code q.1 = .ok (q.2.1, q.2.2))) = true := by decide +kernel
def tb_4_0 : Nat → xE := (x_T 16 (x_T 7 (x_T 4 (x_T 0 (x_L 0 (0, xi_load 0 2 1, 0, 0)) (x_T 1 (x_L 1 (0, xi_getf 0 1 4, 0, 0)) (x_L 4 (0, xi_push (0, 0, 0) 5, 0, 0)))) (x_T 5 (x_L 5 (0, xi_ald false 6, 0, 0)) (x_T 6 (x_L 6 (0, xi_i2l 7, 0, 0)) (x_L 7 (0, xi_push (0, 20, 20) 9, 0, 0))))) (x_T 11 (x_T 9 (x_L 9 (0, xi_shL xF_anyL 10, 0, 0)) (x_T 10 (x_L 10 (0, xi_stor 1 1 11, 0, 0)) (x_L 11 (0, xi_load 0 2 12, 0, 0)))) (x_T 12 (x_L 12 (0, xi_getf 0 2 15, 0, 0)) (x_T 15 (x_L 15 (0, xi_push (0, 0, 0) 16, 0, 0)) (x_L 16 (0, xi_ald false 17, 0, 0)))))) (x_T 23 (x_T 20 (x_T 17 (x_L 17 (0, xi_i2l 18, 0, 0)) (x_T 18 (x_L 18 (0, xi_push (0, 20, 20) 20, 0, 0)) (x_L 20 (0, xi_shL xF_anyL 21, 0, 0)))) (x_T 21 (x_L 21 (0, xi_stor 3 1 22, 0, 0)) (x_T 22 (x_L 22 (0, xi_load 0 2 23, 0, 0)) (x_L 23 (0, xi_getf 0 9 26, 0, 0))))) (x_T 29 (x_T 26 (x_L 26 (0, xi_stor 5 0 28, 0, 0)) (x_T 28 (x_L 28 (0, xi_push (0, 0, 0) 29, 0, 0)) (x_L 29 (0, xi_stor 6 0 31, 0, 0)))) (x_T 33 (x_T 31 (x_L 31 (0, xi_load 6 0 33, 0, 0)) (x_L 33 (0, xi_load 0 2 34, 0, 0))) (x_T 34 (x_L 34 (0, xi_getf 0 8 37, 0, 0)) (x_L 37 (0, xi_if2 3 166 40, 0, 0)))))))
set_option maxRecDepth 20000 in
set_option maxHeartbeats 4000000 in
theorem tb_4_0_ok (K : xKx) : ∀ pc, x_EOq cls K xI m_4 pc (tb_4_0 pc) :=
  (x_Tok2
  (x_Tok2
  (x_Tok2
  (x_Tok2
  (x_Lok (x_st (I := xI) (xr_aload_n (i := 0) (x_dk dl_4_ok 0 rfl))))
  (x_Tok2
  (x_Lok (x_st (I := xI) (xr_getf (ci := 0) (k := 1) (ix := 17) (N := 20) (C := RX0) (T := TX0) rfl in_X0 (by decide) (in_t2 (List.mem_of_getElem? (i := 148) rfl) rfl) (x_dk dl_4_ok 1 rfl))))
  (x_Lok (x_st (I := xI) (xr_iconst (n := 0) (z := 0) (v := 0) (x_dk dl_4_ok 2 rfl) (by decide) (by decide))))))
  (x_Tok2
  (x_Lok (x_st (I := xI) (xr_iaload (x_dk dl_4_ok 3 rfl))))
  (x_Tok2
  (x_Lok (x_st (I := xI) (xr_i2l (x_dk dl_4_ok 4 rfl))))
  (x_Lok (x_st (I := xI) (xr_bipush (n := 20) (z := 20) (v := 20) (x_dk dl_4_ok 5 rfl) (by decide) (by decide)))))))
  (x_Tok2
  (x_Tok2
  (x_Lok (x_st (I := xI) (xr_lshl (x_dk dl_4_ok 6 rfl))))
  (x_Tok2
  (x_Lok (x_st (I := xI) (xr_lstore_n (i := 1) (x_dk dl_4_ok 7 rfl) (by decide +kernel))))
  (x_Lok (x_st (I := xI) (xr_aload_n (i := 0) (x_dk dl_4_ok 8 rfl))))))
  (x_Tok2
  (x_Lok (x_st (I := xI) (xr_getf (ci := 0) (k := 2) (ix := 21) (N := 20) (C := RX0) (T := TX0) rfl in_X0 (by decide) (in_t2 (List.mem_of_getElem? (i := 152) rfl) rfl) (x_dk dl_4_ok 9 rfl))))
  (x_Tok2
  (x_Lok (x_st (I := xI) (xr_iconst (n := 0) (z := 0) (v := 0) (x_dk dl_4_ok 10 rfl) (by decide) (by decide))))
  (x_Lok (x_st (I := xI) (xr_iaload (x_dk dl_4_ok 11 rfl))))))))
  (x_Tok2
  (x_Tok2
  (x_Tok2
  (x_Lok (x_st (I := xI) (xr_i2l (x_dk dl_4_ok 12 rfl))))
  (x_Tok2
  (x_Lok (x_st (I := xI) (xr_bipush (n := 20) (z := 20) (v := 20) (x_dk dl_4_ok 13 rfl) (by decide) (by decide))))
  (x_Lok (x_st (I := xI) (xr_lshl (x_dk dl_4_ok 14 rfl))))))
  (x_Tok2
  (x_Lok (x_st (I := xI) (xr_lstore_n (i := 3) (x_dk dl_4_ok 15 rfl) (by decide +kernel))))
  (x_Tok2
  (x_Lok (x_st (I := xI) (xr_aload_n (i := 0) (x_dk dl_4_ok 16 rfl))))
  (x_Lok (x_st (I := xI) (xr_getf (ci := 0) (k := 9) (ix := 48) (N := 20) (C := RX0) (T := TX0) rfl in_X0 (by decide) (in_t2 (List.mem_of_getElem? (i := 173) rfl) rfl) (x_dk dl_4_ok 17 rfl)))))))
  (x_Tok2
  (x_Tok2
  (x_Lok (x_st (I := xI) (xr_istore (i := 5) (x_dk dl_4_ok 18 rfl) (by decide +kernel))))
  (x_Tok2
  (x_Lok (x_st (I := xI) (xr_iconst (n := 0) (z := 0) (v := 0) (x_dk dl_4_ok 19 rfl) (by decide) (by decide))))
  (x_Lok (x_st (I := xI) (xr_istore (i := 6) (x_dk dl_4_ok 20 rfl) (by decide +kernel))))))
  (x_Tok2
  (x_Tok2
  (x_Lok (x_st (I := xI) (xr_iload (i := 6) (x_dk dl_4_ok 21 rfl))))
  (x_Lok (x_st (I := xI) (xr_aload_n (i := 0) (x_dk dl_4_ok 22 rfl)))))
  (x_Tok2
  (x_Lok (x_st (I := xI) (xr_getf (ci := 0) (k := 8) (ix := 44) (N := 20) (C := RX0) (T := TX0) rfl in_X0 (by decide) (in_t2 (List.mem_of_getElem? (i := 168) rfl) rfl) (x_dk dl_4_ok 23 rfl))))
  (x_Lok (x_st (I := xI) (xr_icmpge (off := 129) (tg := 166) (x_dk dl_4_ok 24 rfl) (by decide)))))))))
def tb_4_25 : Nat → xE := (x_T 185 (x_T 175 (x_T 170 (x_T 166 (x_L 166 (0, xi_load 0 2 167, 0, 0)) (x_T 167 (x_L 167 (0, xi_getf 0 1 170, 0, 0)) (x_L 170 (0, xi_load 0 2 171, 0, 0)))) (x_T 171 (x_L 171 (0, xi_getf 0 8 174, 0, 0)) (x_T 174 (x_L 174 (0, xi_push (0, 1, 1) 175, 0, 0)) (x_L 175 (0, xi_bin xF_add 176, 0, 0))))) (x_T 180 (x_T 176 (x_L 176 (0, xi_load 0 2 177, 0, 0)) (x_T 177 (x_L 177 (0, xi_getf 0 1 180, 0, 0)) (x_L 180 (0, xi_load 0 2 181, 0, 0)))) (x_T 181 (x_L 181 (0, xi_getf 0 8 184, 0, 0)) (x_T 184 (x_L 184 (0, xi_ald false 185, 0, 0)) (x_L 185 (0, xi_ast false 186, 0, 0)))))) (x_T 195 (x_T 190 (x_T 186 (x_L 186 (0, xi_load 0 2 187, 0, 0)) (x_T 187 (x_L 187 (0, xi_getf 0 2 190, 0, 0)) (x_L 190 (0, xi_load 0 2 191, 0, 0)))) (x_T 191 (x_L 191 (0, xi_getf 0 8 194, 0, 0)) (x_T 194 (x_L 194 (0, xi_push (0, 1, 1) 195, 0, 0)) (x_L 195 (0, xi_bin xF_add 196, 0, 0))))) (x_T 200 (x_T 196 (x_L 196 (0, xi_load 0 2 197, 0, 0)) (x_T 197 (x_L 197 (0, xi_getf 0 2 200, 0, 0)) (x_L 200 (0, xi_load 0 2 201, 0, 0)))) (x_T 204 (x_T 201 (x_L 201 (0, xi_getf 0 8 204, 0, 0)) (x_L 204 (0, xi_ald false 205, 0, 0))) (x_T 205 (x_L 205 (0, xi_ast false 206, 0, 0)) (x_L 206 (1, x_nof, 0, 0)))))))
set_option maxRecDepth 20000 in
set_option maxHeartbeats 4000000 in
theorem tb_4_25_ok (K : xKx) : ∀ pc, x_EOq cls K xI m_4 pc (tb_4_25 pc) :=
  (x_Tok2
  (x_Tok2
  (x_Tok2
  (x_Tok2
  (x_Lok (x_st (I := xI) (xr_aload_n (i := 0) (x_dk dl_4_ok 25 rfl))))
  (x_Tok2
  (x_Lok (x_st (I := xI) (xr_getf (ci := 0) (k := 1) (ix := 17) (N := 20) (C := RX0) (T := TX0) rfl in_X0 (by decide) (in_t2 (List.mem_of_getElem? (i := 148) rfl) rfl) (x_dk dl_4_ok 26 rfl))))
  (x_Lok (x_st (I := xI) (xr_aload_n (i := 0) (x_dk dl_4_ok 27 rfl))))))
  (x_Tok2
  (x_Lok (x_st (I := xI) (xr_getf (ci := 0) (k := 8) (ix := 44) (N := 20) (C := RX0) (T := TX0) rfl in_X0 (by decide) (in_t2 (List.mem_of_getElem? (i := 168) rfl) rfl) (x_dk dl_4_ok 28 rfl))))
  (x_Tok2
  (x_Lok (x_st (I := xI) (xr_iconst (n := 1) (z := 1) (v := 1) (x_dk dl_4_ok 29 rfl) (by decide) (by decide))))
  (x_Lok (x_st (I := xI) (xr_iadd (x_dk dl_4_ok 30 rfl)))))))
  (x_Tok2
  (x_Tok2
  (x_Lok (x_st (I := xI) (xr_aload_n (i := 0) (x_dk dl_4_ok 31 rfl))))
  (x_Tok2
  (x_Lok (x_st (I := xI) (xr_getf (ci := 0) (k := 1) (ix := 17) (N := 20) (C := RX0) (T := TX0) rfl in_X0 (by decide) (in_t2 (List.mem_of_getElem? (i := 148) rfl) rfl) (x_dk dl_4_ok 32 rfl))))
  (x_Lok (x_st (I := xI) (xr_aload_n (i := 0) (x_dk dl_4_ok 33 rfl))))))
  (x_Tok2
  (x_Lok (x_st (I := xI) (xr_getf (ci := 0) (k := 8) (ix := 44) (N := 20) (C := RX0) (T := TX0) rfl in_X0 (by decide) (in_t2 (List.mem_of_getElem? (i := 168) rfl) rfl) (x_dk dl_4_ok 34 rfl))))
  (x_Tok2
  (x_Lok (x_st (I := xI) (xr_iaload (x_dk dl_4_ok 35 rfl))))
  (x_Lok (x_st (I := xI) (xr_iastore (x_dk dl_4_ok 36 rfl))))))))
  (x_Tok2
  (x_Tok2
  (x_Tok2
  (x_Lok (x_st (I := xI) (xr_aload_n (i := 0) (x_dk dl_4_ok 37 rfl))))
  (x_Tok2
  (x_Lok (x_st (I := xI) (xr_getf (ci := 0) (k := 2) (ix := 21) (N := 20) (C := RX0) (T := TX0) rfl in_X0 (by decide) (in_t2 (List.mem_of_getElem? (i := 152) rfl) rfl) (x_dk dl_4_ok 38 rfl))))
  (x_Lok (x_st (I := xI) (xr_aload_n (i := 0) (x_dk dl_4_ok 39 rfl))))))
  (x_Tok2
  (x_Lok (x_st (I := xI) (xr_getf (ci := 0) (k := 8) (ix := 44) (N := 20) (C := RX0) (T := TX0) rfl in_X0 (by decide) (in_t2 (List.mem_of_getElem? (i := 168) rfl) rfl) (x_dk dl_4_ok 40 rfl))))
  (x_Tok2
  (x_Lok (x_st (I := xI) (xr_iconst (n := 1) (z := 1) (v := 1) (x_dk dl_4_ok 41 rfl) (by decide) (by decide))))
  (x_Lok (x_st (I := xI) (xr_iadd (x_dk dl_4_ok 42 rfl)))))))
  (x_Tok2
  (x_Tok2
  (x_Lok (x_st (I := xI) (xr_aload_n (i := 0) (x_dk dl_4_ok 43 rfl))))
  (x_Tok2
  (x_Lok (x_st (I := xI) (xr_getf (ci := 0) (k := 2) (ix := 21) (N := 20) (C := RX0) (T := TX0) rfl in_X0 (by decide) (in_t2 (List.mem_of_getElem? (i := 152) rfl) rfl) (x_dk dl_4_ok 44 rfl))))
  (x_Lok (x_st (I := xI) (xr_aload_n (i := 0) (x_dk dl_4_ok 45 rfl))))))
  (x_Tok2
  (x_Tok2
  (x_Lok (x_st (I := xI) (xr_getf (ci := 0) (k := 8) (ix := 44) (N := 20) (C := RX0) (T := TX0) rfl in_X0 (by decide) (in_t2 (List.mem_of_getElem? (i := 168) rfl) rfl) (x_dk dl_4_ok 46 rfl))))
  (x_Lok (x_st (I := xI) (xr_iaload (x_dk dl_4_ok 47 rfl)))))
  (x_Tok2
  (x_Lok (x_st (I := xI) (xr_iastore (x_dk dl_4_ok 48 rfl))))
  (x_Lok (x_rt (I := xI) (k := 0) ⟨(x_dk dl_4_ok 49 rfl), rfl⟩)))))))
def tb_4 : Nat → xE := (x_T 37 tb_4_0 tb_4_25)
theorem tb_4_ok (K : xKx) : ∀ pc, x_EOq cls K xI m_4 pc (tb_4 pc) := (x_Tok2 (tb_4_0_ok K) (tb_4_25_ok K))
def dl_5 : List (Nat × Instr × Nat) := [(0, .iconst 0, 1), (1, .istore_n 1, 1), (2, .iload_n 1, 1), (3, .aload_n 0, 1), (4, .getfield 44, 3), (7, .if_icmp .gt 33, 3), (10, .aload_n 0, 1), (11, .getfield 24, 3), (14, .iload_n 1, 1), (15, .aload_n 0, 1), (16, .getfield 17, 3), (19, .iload_n 1, 1), (20, .iaload, 1), (21, .iastore, 1), (22, .aload_n 0, 1), (23, .getfield 27, 3), (26, .iload_n 1, 1), (27, .aload_n 0, 1), (28, .getfield 21, 3), (31, .iload_n 1, 1), (32, .iaload, 1), (33, .iastore, 1), (34, .iinc 1 1, 3), (37, .goto (-35), 3), (40, .return_, 1)]
set_option maxRecDepth 20000 in
theorem dl_5_ok : dl_5.all (fun q => decide (decode prog_2_method_12_code q.1 = .ok (q.2.1, q.2.2))) = true := by decide +kernel
def tb_5_0 : Nat → xE := (x_T 19 (x_T 7 (x_T 2 (x_T 0 (x_L 0 (0, xi_push (0, 0, 0) 1, 0, 0)) (x_T 1 (x_L 1 (0, xi_stor 1 0 2, 0, 0)) (x_L 2 (0, xi_load 1 0 3, 0, 0)))) (x_T 3 (x_L 3 (0, xi_load 0 2 4, 0, 0)) (x_T 4 (x_L 4 (0, xi_getf 0 8 7, 0, 0)) (x_L 7 (0, xi_if2 4 40 10, 0, 0))))) (x_T 14 (x_T 10 (x_L 10 (0, xi_load 0 2 11, 0, 0)) (x_T 11 (x_L 11 (0, xi_getf 0 3 14, 0, 0)) (x_L 14 (0, xi_load 1 0 15, 0, 0)))) (x_T 15 (x_L 15 (0, xi_load 0 2 16, 0, 0)) (x_T 16 (x_L 16 (0, xi_getf 0 1 19, 0, 0)) (x_L 19 (0, xi_load 1 0 20, 0, 0)))))) (x_T 27 (x_T 22 (x_T 20 (x_L 20 (0, xi_ald false 21, 0, 0)) (x_T 21 (x_L 21 (0, xi_ast false 22, 0, 0)) (x_L 22 (0, xi_load 0 2 23, 0, 0)))) (x_T 23 (x_L 23 (0, xi_getf 0 4 26, 0, 0)) (x_T 26 (x_L 26 (0, xi_load 1 0 27, 0, 0)) (x_L 27 (0, xi_load 0 2 28, 0, 0))))) (x_T 32 (x_T 28 (x_L 28 (0, xi_getf 0 2 31, 0, 0)) (x_T 31 (x_L 31 (0, xi_load 1 0 32, 0, 0)) (x_L 32 (0, xi_ald false 33, 0, 0)))) (x_T 34 (x_T 33 (x_L 33 (0, xi_ast false 34, 0, 0)) (x_L 34 (0, xi_inc 1 1 37, 0, 0))) (x_T 37 (x_L 37 (0, xi_goto 2, 0, 0)) (x_L 40 (1, x_nof, 0, 0)))))))
set_option maxRecDepth 20000 in
set_option maxHeartbeats 4000000 in
theorem tb_5_0_ok (K : xKx) : ∀ pc, x_EOq cls K xI m_5 pc (tb_5_0 pc) :=
  (x_Tok2
  (x_Tok2
  (x_Tok2
  (x_Tok2
  (x_Lok (x_st (I := xI) (xr_iconst (n := 0) (z := 0) (v := 0) (x_dk dl_5_ok 0 rfl) (by decide) (by decide))))
  (x_Tok2
  (x_Lok (x_st (I := xI) (xr_istore_n (i := 1) (x_dk dl_5_ok 1 rfl) (by decide +kernel))))
  (x_Lok (x_st (I := xI) (xr_iload_n (i := 1) (x_dk dl_5_ok 2 rfl))))))
  (x_Tok2
  (x_Lok (x_st (I := xI) (xr_aload_n (i := 0) (x_dk dl_5_ok 3 rfl))))
  (x_Tok2
  (x_Lok (x_st (I := xI) (xr_getf (ci := 0) (k := 8) (ix := 44) (N := 20) (C := RX0) (T := TX0) rfl in_X0 (by decide) (in_t2 (List.mem_of_getElem? (i := 168) rfl) rfl) (x_dk dl_5_ok 4 rfl))))
  (x_Lok (x_st (I := xI) (xr_icmpgt (off := 33) (tg := 40) (x_dk dl_5_ok 5 rfl) (by decide)))))))
  (x_Tok2
  (x_Tok2
  (x_Lok (x_st (I := xI) (xr_aload_n (i := 0) (x_dk dl_5_ok 6 rfl))))
  (x_Tok2
  (x_Lok (x_st (I := xI) (xr_getf (ci := 0) (k := 3) (ix := 24) (N := 20) (C := RX0) (T := TX0) rfl in_X0 (by decide) (in_t2 (List.mem_of_getElem? (i := 156) rfl) rfl) (x_dk dl_5_ok 7 rfl))))
  (x_Lok (x_st (I := xI) (xr_iload_n (i := 1) (x_dk dl_5_ok 8 rfl))))))
  (x_Tok2
  (x_Lok (x_st (I := xI) (xr_aload_n (i := 0) (x_dk dl_5_ok 9 rfl))))
  (x_Tok2
  (x_Lok (x_st (I := xI) (xr_getf (ci := 0) (k := 1) (ix := 17) (N := 20) (C := RX0) (T := TX0) rfl in_X0 (by decide) (in_t2 (List.mem_of_getElem? (i := 148) rfl) rfl) (x_dk dl_5_ok 10 rfl))))
  (x_Lok (x_st (I := xI) (xr_iload_n (i := 1) (x_dk dl_5_ok 11 rfl))))))))
  (x_Tok2
  (x_Tok2
  (x_Tok2
  (x_Lok (x_st (I := xI) (xr_iaload (x_dk dl_5_ok 12 rfl))))
  (x_Tok2
  (x_Lok (x_st (I := xI) (xr_iastore (x_dk dl_5_ok 13 rfl))))
  (x_Lok (x_st (I := xI) (xr_aload_n (i := 0) (x_dk dl_5_ok 14 rfl))))))
  (x_Tok2
  (x_Lok (x_st (I := xI) (xr_getf (ci := 0) (k := 4) (ix := 27) (N := 20) (C := RX0) (T := TX0) rfl in_X0 (by decide) (in_t2 (List.mem_of_getElem? (i := 158) rfl) rfl) (x_dk dl_5_ok 15 rfl))))
  (x_Tok2
  (x_Lok (x_st (I := xI) (xr_iload_n (i := 1) (x_dk dl_5_ok 16 rfl))))
  (x_Lok (x_st (I := xI) (xr_aload_n (i := 0) (x_dk dl_5_ok 17 rfl)))))))
  (x_Tok2
  (x_Tok2
  (x_Lok (x_st (I := xI) (xr_getf (ci := 0) (k := 2) (ix := 21) (N := 20) (C := RX0) (T := TX0) rfl in_X0 (by decide) (in_t2 (List.mem_of_getElem? (i := 152) rfl) rfl) (x_dk dl_5_ok 18 rfl))))
  (x_Tok2
  (x_Lok (x_st (I := xI) (xr_iload_n (i := 1) (x_dk dl_5_ok 19 rfl))))
  (x_Lok (x_st (I := xI) (xr_iaload (x_dk dl_5_ok 20 rfl))))))
  (x_Tok2
  (x_Tok2
  (x_Lok (x_st (I := xI) (xr_iastore (x_dk dl_5_ok 21 rfl))))
  (x_Lok (x_st (I := xI) (xr_iinc (i := 1) (n := 1) (x_dk dl_5_ok 22 rfl) (by decide +kernel) (by decide)))))
  (x_Tok2
  (x_Lok (x_st (I := xI) (xr_goto (off := (-35)) (tg := 2) (x_dk dl_5_ok 23 rfl) (by decide))))
  (x_Lok (x_rt (I := xI) (k := 0) ⟨(x_dk dl_5_ok 24 rfl), rfl⟩)))))))
def tb_5 : Nat → xE := tb_5_0
theorem tb_5_ok (K : xKx) : ∀ pc, x_EOq cls K xI m_5 pc (tb_5 pc) := tb_5_0_ok K
def dl_6 : List (Nat × Instr × Nat) := [(0, .aload_n 0, 1), (1, .iconst 0, 1), (2, .putfield 132, 3), (5, .aload_n 0, 1), (6, .iconst (-1), 1), (7, .putfield 138, 3), (10, .aload_n 0, 1), (11, .iconst (-1), 1), (12, .putfield 155, 3), (15, .iconst 0, 1), (16, .istore_n 1, 1), (17, .iload_n 1, 1), (18, .bipush 6, 2), (20, .if_icmp .ge 19, 3), (23, .aload_n 0, 1), (24, .getfield 11, 3), (27, .iload_n 1, 1), (28, .aaload, 1), (29, .iconst 0, 1), (30, .putfield 126, 3), (33, .iinc 1 1, 3), (36, .goto (-19), 3), (39, .return_, 1)]
set_option maxRecDepth 20000 in
theorem dl_6_ok : dl_6.all (fun q => decide (decode prog_2_method_18_code q.1 = .ok (q.2.1, q.2.2))) = true := by decide +kernel
def tb_6_0 : Nat → xE := (x_T 16 (x_T 6 (x_T 1 (x_T 0 (x_L 0 (0, xi_load 0 2 1, 0, 0)) (x_L 1 (0, xi_push (0, 0, 0) 2, 0, 0))) (x_T 2 (x_L 2 (0, xi_putf 0 11 0 5, 0, 0)) (x_T 5 (x_L 5 (0, xi_load 0 2 6, 0, 0)) (x_L 6 (0, xi_push (0, (-1), (-1)) 7, 0, 0))))) (x_T 11 (x_T 7 (x_L 7 (0, xi_putf 0 13 0 10, 0, 0)) (x_T 10 (x_L 10 (0, xi_load 0 2 11, 0, 0)) (x_L 11 (0, xi_push (0, (-1), (-1)) 12, 0, 0)))) (x_T 12 (x_L 12 (0, xi_putf 0 18 0 15, 0, 0)) (x_T 15 (x_L 15 (0, xi_push (0, 0, 0) 16, 0, 0)) (x_L 16 (0, xi_stor 1 0 17, 0, 0)))))) (x_T 27 (x_T 20 (x_T 17 (x_L 17 (0, xi_load 1 0 18, 0, 0)) (x_T 18 (x_L 18 (0, xi_push (0, 6, 6) 20, 0, 0)) (x_L 20 (0, xi_if2 3 39 23, 0, 0)))) (x_T 23 (x_L 23 (0, xi_load 0 2 24, 0, 0)) (x_T 24 (x_L 24 (0, xi_getf 0 0 27, 0, 0)) (x_L 27 (0, xi_load 1 0 28, 0, 0))))) (x_T 30 (x_T 28 (x_L 28 (0, xi_aald 29, 0, 0)) (x_T 29 (x_L 29 (0, xi_push (0, 0, 0) 30, 0, 0)) (x_L 30 (0, xi_putf 5 8 0 33, 0, 0)))) (x_T 33 (x_L 33 (0, xi_inc 1 1 36, 0, 0)) (x_T 36 (x_L 36 (0, xi_goto 17, 0, 0)) (x_L 39 (1, x_nof, 0, 0)))))))
set_option maxRecDepth 20000 in
set_option maxHeartbeats 4000000 in
theorem tb_6_0_ok (K : xKx) : ∀ pc, x_EOq cls K xI m_6 pc (tb_6_0 pc) :=
  (x_Tok2
  (x_Tok2
  (x_Tok2
  (x_Tok2
  (x_Lok (x_st (I := xI) (xr_aload_n (i := 0) (x_dk dl_6_ok 0 rfl))))
  (x_Lok (x_st (I := xI) (xr_iconst (n := 0) (z := 0) (v := 0) (x_dk dl_6_ok 1 rfl) (by decide) (by decide)))))
  (x_Tok2
  (x_Lok (x_st (I := xI) (xr_putf (ci := 0) (k := 11) (ix := 132) (N := 20) (fk := 0) (C := RX0) (T := TX0) (ty0 := tyX0) (ty := .int) rfl in_X0 tyX0_ok nmX0 (by decide) (in_t2 (List.mem_of_getElem? (i := 177) rfl) rfl) rfl rfl x_fit_int (x_dk dl_6_ok 2 rfl))))
  (x_Tok2
  (x_Lok (x_st (I := xI) (xr_aload_n (i := 0) (x_dk dl_6_ok 3 rfl))))
  (x_Lok (x_st (I := xI) (xr_iconst (n := (-1)) (z := (-1)) (v := (-1)) (x_dk dl_6_ok 4 rfl) (by decide) (by decide)))))))
  (x_Tok2
  (x_Tok2
  (x_Lok (x_st (I := xI) (xr_putf (ci := 0) (k := 13) (ix := 138) (N := 20) (fk := 0) (C := RX0) (T := TX0) (ty0 := tyX0) (ty := .int) rfl in_X0 tyX0_ok nmX0 (by decide) (in_t2 (List.mem_of_getElem? (i := 182) rfl) rfl) rfl rfl x_fit_int (x_dk dl_6_ok 5 rfl))))
  (x_Tok2
  (x_Lok (x_st (I := xI) (xr_aload_n (i := 0) (x_dk dl_6_ok 6 rfl))))
  (x_Lok (x_st (I := xI) (xr_iconst (n := (-1)) (z := (-1)) (v := (-1)) (x_dk dl_6_ok 7 rfl) (by decide) (by decide))))))
  (x_Tok2
  (x_Lok (x_st (I := xI) (xr_putf (ci := 0) (k := 18) (ix := 155) (N := 20) (fk := 0) (C := RX0) (T := TX0) (ty0 := tyX0) (ty := .int) rfl in_X0 tyX0_ok nmX0 (by decide) (in_t2 (List.mem_of_getElem? (i := 197) rfl) rfl) rfl rfl x_fit_int (x_dk dl_6_ok 8 rfl))))
  (x_Tok2
  (x_Lok (x_st (I := xI) (xr_iconst (n := 0) (z := 0) (v := 0) (x_dk dl_6_ok 9 rfl) (by decide) (by decide))))
  (x_Lok (x_st (I := xI) (xr_istore_n (i := 1) (x_dk dl_6_ok 10 rfl) (by decide +kernel))))))))
  (x_Tok2
  (x_Tok2
  (x_Tok2
  (x_Lok (x_st (I := xI) (xr_iload_n (i := 1) (x_dk dl_6_ok 11 rfl))))
  (x_Tok2
  (x_Lok (x_st (I := xI) (xr_bipush (n := 6) (z := 6) (v := 6) (x_dk dl_6_ok 12 rfl) (by decide) (by decide))))
  (x_Lok (x_st (I := xI) (xr_icmpge (off := 19) (tg := 39) (x_dk dl_6_ok 13 rfl) (by decide))))))
  (x_Tok2
  (x_Lok (x_st (I := xI) (xr_aload_n (i := 0) (x_dk dl_6_ok 14 rfl))))
  (x_Tok2
  (x_Lok (x_st (I := xI) (xr_getf (ci := 0) (k := 0) (ix := 11) (N := 20) (C := RX0) (T := TX0) rfl in_X0 (by decide) (in_t2 (List.mem_of_getElem? (i := 144) rfl) rfl) (x_dk dl_6_ok 15 rfl))))
  (x_Lok (x_st (I := xI) (xr_iload_n (i := 1) (x_dk dl_6_ok 16 rfl)))))))
  (x_Tok2
  (x_Tok2
  (x_Lok (x_st (I := xI) (xr_aaload (x_dk dl_6_ok 17 rfl))))
  (x_Tok2
  (x_Lok (x_st (I := xI) (xr_iconst (n := 0) (z := 0) (v := 0) (x_dk dl_6_ok 18 rfl) (by decide) (by decide))))
  (x_Lok (x_st (I := xI) (xr_putf (ci := 5) (k := 8) (ix := 126) (N := 12) (fk := 0) (C := RX5) (T := TX5) (ty0 := tyX5) (ty := .int) rfl in_X5 tyX5_ok nmX5 (by decide) (in_t2 (List.mem_of_getElem? (i := 110) rfl) rfl) rfl rfl x_fit_int (x_dk dl_6_ok 19 rfl))))))
  (x_Tok2
  (x_Lok (x_st (I := xI) (xr_iinc (i := 1) (n := 1) (x_dk dl_6_ok 20 rfl) (by decide +kernel) (by decide))))
  (x_Tok2
  (x_Lok (x_st (I := xI) (xr_goto (off := (-19)) (tg := 17) (x_dk dl_6_ok 21 rfl) (by decide))))
  (x_Lok (x_rt (I := xI) (k := 0) ⟨(x_dk dl_6_ok 22 rfl), rfl⟩)))))))
def tb_6 : Nat → xE := tb_6_0
theorem tb_6_ok (K : xKx) : ∀ pc, x_EOq cls K xI m_6 pc (tb_6 pc) := tb_6_0_ok K
def dl_7 : List (Nat × Instr × Nat) := [(0, .aload_n 0, 1), (1, .invokespecial 3, 3), (4, .aload_n 0, 1), (5, .bipush 32, 2), (7, .newarray .int, 2), (9, .putfield 9, 3), (12, .aload_n 0, 1), (13, .sipush 4000, 3), (16, .newarray .int, 2), (18, .putfield 15, 3), (21, .return_, 1)]
set_option maxRecDepth 20000 in
theorem dl_7_ok : dl_7.all (fun q => decide (decode prog_3_method_1_code q.1 = .ok (q.2.1, q.2.2))) = true := by decide +kernel
def tb_7_0 : Nat → xE := (x_T 7 (x_T 1 (x_T 0 (x_L 0 (0, xi_load 0 2 1, 0, 0)) (x_L 1 (0, xi_oi 4, 0, 0))) (x_T 4 (x_L 4 (0, xi_load 0 2 5, 0, 0)) (x_T 5 (x_L 5 (0, xi_push (0, 32, 32) 7, 0, 0)) (x_L 7 (0, xi_newa 1 0 (0, 0, 0) (xm_c m_7) (xm_s m_7) 9, 0, 0))))) (x_T 13 (x_T 9 (x_L 9 (0, xi_putf 1 3 2 12, 0, 0)) (x_T 12 (x_L 12 (0, xi_load 0 2 13, 0, 0)) (x_L 13 (0, xi_push (0, 4000, 4000) 16, 0, 0)))) (x_T 16 (x_L 16 (0, xi_newa 1 0 (0, 0, 0) (xm_c m_7) (xm_s m_7) 18, 0, 0)) (x_T 18 (x_L 18 (0, xi_putf 1 4 2 21, 0, 0)) (x_L 21 (1, x_nof, 0, 0))))))
set_option maxRecDepth 20000 in
set_option maxHeartbeats 4000000 in
theorem tb_7_0_ok (K : xKx) : ∀ pc, x_EOq cls K xI m_7 pc (tb_7_0 pc) :=
  (x_Tok2
  (x_Tok2
  (x_Tok2
  (x_Lok (x_st (I := xI) (xr_aload_n (i := 0) (x_dk dl_7_ok 0 rfl))))
  (x_Lok (x_st (I := xI) (xr_oi (ix := 3) (in_t1 (List.mem_of_getElem? (i := 40) rfl) rfl) (in_t1 (List.mem_of_getElem? (i := 27) rfl) rfl) (in_t1 (List.mem_of_getElem? (i := 28) rfl) rfl) (x_dk dl_7_ok 1 rfl)))))
  (x_Tok2
  (x_Lok (x_st (I := xI) (xr_aload_n (i := 0) (x_dk dl_7_ok 2 rfl))))
  (x_Tok2
  (x_Lok (x_st (I := xI) (xr_bipush (n := 32) (z := 32) (v := 32) (x_dk dl_7_ok 3 rfl) (by decide) (by decide))))
  (x_Lok (x_st (I := xI) (xr_newa (kd := 1) (b := false) (ty := .int) rfl rfl (in_t1 (List.mem_of_getElem? (i := 64) rfl) rfl) (x_dk dl_7_ok 4 rfl)))))))
  (x_Tok2
  (x_Tok2
  (x_Lok (x_st (I := xI) (xr_putF (ci := 1) (k := 3) (ix := 9) (N := 5) (fk := 2) (C := RX1) (T := TX1) (ty0 := tyX1) (ty := .array .int) rfl in_X1 tyX1_ok nmX1 (by decide) (in_t1 (List.mem_of_getElem? (i := 49) rfl) rfl) rfl rfl rfl rfl x_fit_arr (x_dk dl_7_ok 5 rfl))))
  (x_Tok2
  (x_Lok (x_st (I := xI) (xr_aload_n (i := 0) (x_dk dl_7_ok 6 rfl))))
  (x_Lok (x_st (I := xI) (xr_sipush (n := 4000) (z := 4000) (v := 4000) (x_dk dl_7_ok 7 rfl) (by decide) (by decide))))))
  (x_Tok2
  (x_Lok (x_st (I := xI) (xr_newa (kd := 1) (b := false) (ty := .int) rfl rfl (in_t1 (List.mem_of_getElem? (i := 64) rfl) rfl) (x_dk dl_7_ok 8 rfl))))
  (x_Tok2
  (x_Lok (x_st (I := xI) (xr_putF (ci := 1) (k := 4) (ix := 15) (N := 5) (fk := 2) (C := RX1) (T := TX1) (ty0 := tyX1) (ty := .array .int) rfl in_X1 tyX1_ok nmX1 (by decide) (in_t1 (List.mem_of_getElem? (i := 52) rfl) rfl) rfl rfl rfl rfl x_fit_arr (x_dk dl_7_ok 9 rfl))))
  (x_Lok (x_rt (I := xI) (k := 0) ⟨(x_dk dl_7_ok 10 rfl), rfl⟩))))))
def tb_7 : Nat → xE := tb_7_0
theorem tb_7_ok (K : xKx) : ∀ pc, x_EOq cls K xI m_7 pc (tb_7 pc) := tb_7_0_ok K
def dl_8 : List (Nat × Instr × Nat) := [(0, .aload_n 0, 1), (1, .iconst 0, 1), (2, .putfield 18, 3), (5, .aload_n 0, 1), (6, .iconst 0, 1), (7, .putfield 22, 3), (10, .aload_n 0, 1), (11, .iconst 0, 1), (12, .putfield 25, 3), (15, .return_, 1)]
set_option maxRecDepth 20000 in
theorem dl_8_ok : dl_8.all (fun q => decide (decode prog_3_method_2_code q.1 = .ok (q.2.1, q.2.2))) = true := by decide +kernel
def tb_8_0 : Nat → xE := (x_T 6 (x_T 1 (x_T 0 (x_L 0 (0, xi_load 0 2 1, 0, 0)) (x_L 1 (0, xi_push (0, 0, 0) 2, 0, 0))) (x_T 2 (x_L 2 (0, xi_putf 1 0 0 5, 0, 0)) (x_T 5 (x_L 5 (0, xi_load 0 2 6, 0, 0)) (x_L 6 (0, xi_push (0, 0, 0) 7, 0, 0))))) (x_T 10 (x_T 7 (x_L 7 (0, xi_putf 1 1 0 10, 0, 0)) (x_L 10 (0, xi_load 0 2 11, 0, 0))) (x_T 11 (x_L 11 (0, xi_push (0, 0, 0) 12, 0, 0)) (x_T 12 (x_L 12 (0, xi_putf 1 2 0 15, 0, 0)) (x_L 15 (1, x_nof, 0, 0))))))
set_option maxRecDepth 20000 in
set_option maxHeartbeats 4000000 in
theorem tb_8_0_ok (K : xKx) : ∀ pc, x_EOq cls K xI m_8 pc (tb_8_0 pc) :=
  (x_Tok2
  (x_Tok2
  (x_Tok2
  (x_Lok (x_st (I := xI) (xr_aload_n (i := 0) (x_dk dl_8_ok 0 rfl))))
  (x_Lok (x_st (I := xI) (xr_iconst (n := 0) (z := 0) (v := 0) (x_dk dl_8_ok 1 rfl) (by decide) (by decide)))))
  (x_Tok2
  (x_Lok (x_st (I := xI) (xr_putf (ci := 1) (k := 0) (ix := 18) (N := 5) (fk := 0) (C := RX1) (T := TX1) (ty0 := tyX1) (ty := .int) rfl in_X1 tyX1_ok nmX1 (by decide) (in_t1 (List.mem_of_getElem? (i := 41) rfl) rfl) rfl rfl x_fit_int (x_dk dl_8_ok 2 rfl))))
  (x_Tok2
  (x_Lok (x_st (I := xI) (xr_aload_n (i := 0) (x_dk dl_8_ok 3 rfl))))
  (x_Lok (x_st (I := xI) (xr_iconst (n := 0) (z := 0) (v := 0) (x_dk dl_8_ok 4 rfl) (by decide) (by decide)))))))
  (x_Tok2
  (x_Tok2
  (x_Lok (x_st (I := xI) (xr_putf (ci := 1) (k := 1) (ix := 22) (N := 5) (fk := 0) (C := RX1) (T := TX1) (ty0 := tyX1) (ty := .int) rfl in_X1 tyX1_ok nmX1 (by decide) (in_t1 (List.mem_of_getElem? (i := 43) rfl) rfl) rfl rfl x_fit_int (x_dk dl_8_ok 5 rfl))))
  (x_Lok (x_st (I := xI) (xr_aload_n (i := 0) (x_dk dl_8_ok 6 rfl)))))
  (x_Tok2
  (x_Lok (x_st (I := xI) (xr_iconst (n := 0) (z := 0) (v := 0) (x_dk dl_8_ok 7 rfl) (by decide) (by decide))))
  (x_Tok2
  (x_Lok (x_st (I := xI) (xr_putf (ci := 1) (k := 2) (ix := 25) (N := 5) (fk := 0) (C := RX1) (T := TX1) (ty0 := tyX1) (ty := .int) rfl in_X1 tyX1_ok nmX1 (by decide) (in_t1 (List.mem_of_getElem? (i := 46) rfl) rfl) rfl rfl x_fit_int (x_dk dl_8_ok 8 rfl))))
  (x_Lok (x_rt (I := xI) (k := 0) ⟨(x_dk dl_8_ok 9 rfl), rfl⟩))))))
def tb_8 : Nat → xE := tb_8_0
theorem tb_8_ok (K : xKx) : ∀ pc, x_EOq cls K xI m_8 pc (tb_8 pc) := tb_8_0_ok K
def dl_9 : List (Nat × Instr × Nat) := [(0, .aload_n 0, 1), (1, .invokespecial 3, 3), (4, .aload_n 0, 1), (5, .sipush 8000, 3), (8, .newarray .int, 2), (10, .putfield 11, 3), (13, .aload_n 0, 1), (14, .bipush 8, 2), (16, .newarray .int, 2), (18, .putfield 15, 3), (21, .aload_n 0, 1), (22, .bipush 8, 2), (24, .newarray .boolean, 2), (26, .putfield 18, 3), (29, .aload_n 0, 1), (30, .bipush 8, 2), (32, .newarray .boolean, 2), (34, .putfield 22, 3), (37, .aload_n 0, 1), (38, .bipush 8, 2), (40, .newarray .boolean, 2), (42, .putfield 25, 3), (45, .aload_n 0, 1), (46, .bipush 8, 2), (48, .newarray .boolean, 2), (50, .putfield 28, 3), (53, .aload_n 0, 1), (54, .bipush 8, 2), (56, .newarray .int, 2), (58, .putfield 31, 3), (61, .return_, 1)]
set_option maxRecDepth 20000 in
theorem dl_9_ok : dl_9.all (fun q => decide (decode prog_4_method_1_code q.1 = .ok (q.2.1, q.2.2))) = true := by decide +kernel
def tb_9_0 : Nat → xE := (x_T 29 (x_T 13 (x_T 4 (x_T 0 (x_L 0 (0, xi_load 0 2 1, 0, 0)) (x_T 1 (x_L 1 (0, xi_oi 4, 0, 0)) (x_L 4 (0, xi_load 0 2 5, 0, 0)))) (x_T 8 (x_T 5 (x_L 5 (0, xi_push (0, 8000, 8000) 8, 0, 0)) (x_L 8 (0, xi_newa 1 0 (0, 0, 0) (xm_c m_9) (xm_s m_9) 10, 0, 0))) (x_T 10 (x_L 10 (0, xi_putf 2 8 2 13, 0, 0)) (x_L 13 (0, xi_load 0 2 14, 0, 0))))) (x_T 21 (x_T 16 (x_T 14 (x_L 14 (0, xi_push (0, 8, 8) 16, 0, 0)) (x_L 16 (0, xi_newa 1 0 (0, 0, 0) (xm_c m_9) (xm_s m_9) 18, 0, 0))) (x_T 18 (x_L 18 (0, xi_putf 2 9 2 21, 0, 0)) (x_L 21 (0, xi_load 0 2 22, 0, 0)))) (x_T 24 (x_T 22 (x_L 22 (0, xi_push (0, 8, 8) 24, 0, 0)) (x_L 24 (0, xi_newa 3 0 (0, 0, 0) (xm_c m_9) (xm_s m_9) 26, 0, 0))) (x_T 26 (x_L 26 (0, xi_putf 2 10 2 29, 0, 0)) (x_L 29 (0, xi_load 0 2 30, 0, 0)))))) (x_T 45 (x_T 37 (x_T 32 (x_T 30 (x_L 30 (0, xi_push (0, 8, 8) 32, 0, 0)) (x_L 32 (0, xi_newa 3 0 (0, 0, 0) (xm_c m_9) (xm_s m_9) 34, 0, 0))) (x_T 34 (x_L 34 (0, xi_putf 2 11 2 37, 0, 0)) (x_L 37 (0, xi_load 0 2 38, 0, 0)))) (x_T 40 (x_T 38 (x_L 38 (0, xi_push (0, 8, 8) 40, 0, 0)) (x_L 40 (0, xi_newa 3 0 (0, 0, 0) (xm_c m_9) (xm_s m_9) 42, 0, 0))) (x_T 42 (x_L 42 (0, xi_putf 2 12 2 45, 0, 0)) (x_L 45 (0, xi_load 0 2 46, 0, 0))))) (x_T 53 (x_T 48 (x_T 46 (x_L 46 (0, xi_push (0, 8, 8) 48, 0, 0)) (x_L 48 (0, xi_newa 3 0 (0, 0, 0) (xm_c m_9) (xm_s m_9) 50, 0, 0))) (x_T 50 (x_L 50 (0, xi_putf 2 13 2 53, 0, 0)) (x_L 53 (0, xi_load 0 2 54, 0, 0)))) (x_T 56 (x_T 54 (x_L 54 (0, xi_push (0, 8, 8) 56, 0, 0)) (x_L 56 (0, xi_newa 1 0 (0, 0, 0) (xm_c m_9) (xm_s m_9) 58, 0, 0))) (x_T 58 (x_L 58 (0, xi_putf 2 14 2 61, 0, 0)) (x_L 61 (1, x_nof, 0, 0)))))))
set_option maxRecDepth 20000 in
set_option maxHeartbeats 4000000 in
theorem tb_9_0_ok (K : xKx) : ∀ pc, x_EOq cls K xI m_9 pc (tb_9_0 pc) :=
  (x_Tok2
  (x_Tok2
  (x_Tok2
  (x_Tok2
  (x_Lok (x_st (I := xI) (xr_aload_n (i := 0) (x_dk dl_9_ok 0 rfl))))
  (x_Tok2
  (x_Lok (x_st (I := xI) (xr_oi (ix := 3) (in_t2 (List.mem_of_getElem? (i := 11) rfl) rfl) (in_t1 (List.mem_of_getElem? (i := 27) rfl) rfl) (in_t1 (List.mem_of_getElem? (i := 28) rfl) rfl) (x_dk dl_9_ok 1 rfl))))
  (x_Lok (x_st (I := xI) (xr_aload_n (i := 0) (x_dk dl_9_ok 2 rfl))))))
  (x_Tok2
  (x_Tok2
  (x_Lok (x_st (I := xI) (xr_sipush (n := 8000) (z := 8000) (v := 8000) (x_dk dl_9_ok 3 rfl) (by decide) (by decide))))
  (x_Lok (x_st (I := xI) (xr_newa (kd := 1) (b := false) (ty := .int) rfl rfl (in_t1 (List.mem_of_getElem? (i := 64) rfl) rfl) (x_dk dl_9_ok 4 rfl)))))
  (x_Tok2
  (x_Lok (x_st (I := xI) (xr_putF (ci := 2) (k := 8) (ix := 11) (N := 15) (fk := 2) (C := RX2) (T := TX2) (ty0 := tyX2) (ty := .array .int) rfl in_X2 tyX2_ok nmX2 (by decide) (in_t2 (List.mem_of_getElem? (i := 31) rfl) rfl) rfl rfl rfl rfl x_fit_arr (x_dk dl_9_ok 5 rfl))))
  (x_Lok (x_st (I := xI) (xr_aload_n (i := 0) (x_dk dl_9_ok 6 rfl)))))))
  (x_Tok2
  (x_Tok2
  (x_Tok2
  (x_Lok (x_st (I := xI) (xr_bipush (n := 8) (z := 8) (v := 8) (x_dk dl_9_ok 7 rfl) (by decide) (by decide))))
  (x_Lok (x_st (I := xI) (xr_newa (kd := 1) (b := false) (ty := .int) rfl rfl (in_t1 (List.mem_of_getElem? (i := 64) rfl) rfl) (x_dk dl_9_ok 8 rfl)))))
  (x_Tok2
  (x_Lok (x_st (I := xI) (xr_putF (ci := 2) (k := 9) (ix := 15) (N := 15) (fk := 2) (C := RX2) (T := TX2) (ty0 := tyX2) (ty := .array .int) rfl in_X2 tyX2_ok nmX2 (by decide) (in_t2 (List.mem_of_getElem? (i := 33) rfl) rfl) rfl rfl rfl rfl x_fit_arr (x_dk dl_9_ok 9 rfl))))
  (x_Lok (x_st (I := xI) (xr_aload_n (i := 0) (x_dk dl_9_ok 10 rfl))))))
  (x_Tok2
  (x_Tok2
  (x_Lok (x_st (I := xI) (xr_bipush (n := 8) (z := 8) (v := 8) (x_dk dl_9_ok 11 rfl) (by decide) (by decide))))
  (x_Lok (x_st (I := xI) (xr_newa (kd := 3) (b := true) (ty := .boolean) rfl rfl (in_t1 (List.mem_of_getElem? (i := 166) rfl) rfl) (x_dk dl_9_ok 12 rfl)))))
  (x_Tok2
  (x_Lok (x_st (I := xI) (xr_putF (ci := 2) (k := 10) (ix := 18) (N := 15) (fk := 2) (C := RX2) (T := TX2) (ty0 := tyX2) (ty := .array .boolean) rfl in_X2 tyX2_ok nmX2 (by decide) (in_t2 (List.mem_of_getElem? (i := 35) rfl) rfl) rfl rfl rfl rfl x_fit_arr (x_dk dl_9_ok 13 rfl))))
  (x_Lok (x_st (I := xI) (xr_aload_n (i := 0) (x_dk dl_9_ok 14 rfl))))))))
  (x_Tok2
  (x_Tok2
  (x_Tok2
  (x_Tok2
  (x_Lok (x_st (I := xI) (xr_bipush (n := 8) (z := 8) (v := 8) (x_dk dl_9_ok 15 rfl) (by decide) (by decide))))
  (x_Lok (x_st (I := xI) (xr_newa (kd := 3) (b := true) (ty := .boolean) rfl rfl (in_t1 (List.mem_of_getElem? (i := 166) rfl) rfl) (x_dk dl_9_ok 16 rfl)))))
  (x_Tok2
  (x_Lok (x_st (I := xI) (xr_putF (ci := 2) (k := 11) (ix := 22) (N := 15) (fk := 2) (C := RX2) (T := TX2) (ty0 := tyX2) (ty := .array .boolean) rfl in_X2 tyX2_ok nmX2 (by decide) (in_t2 (List.mem_of_getElem? (i := 37) rfl) rfl) rfl rfl rfl rfl x_fit_arr (x_dk dl_9_ok 17 rfl))))
  (x_Lok (x_st (I := xI) (xr_aload_n (i := 0) (x_dk dl_9_ok 18 rfl))))))
  (x_Tok2
  (x_Tok2
  (x_Lok (x_st (I := xI) (xr_bipush (n := 8) (z := 8) (v := 8) (x_dk dl_9_ok 19 rfl) (by decide) (by decide))))
  (x_Lok (x_st (I := xI) (xr_newa (kd := 3) (b := true) (ty := .boolean) rfl rfl (in_t1 (List.mem_of_getElem? (i := 166) rfl) rfl) (x_dk dl_9_ok 20 rfl)))))
  (x_Tok2
  (x_Lok (x_st (I := xI) (xr_putF (ci := 2) (k := 12) (ix := 25) (N := 15) (fk := 2) (C := RX2) (T := TX2) (ty0 := tyX2) (ty := .array .boolean) rfl in_X2 tyX2_ok nmX2 (by decide) (in_t2 (List.mem_of_getElem? (i := 38) rfl) rfl) rfl rfl rfl rfl x_fit_arr (x_dk dl_9_ok 21 rfl))))
  (x_Lok (x_st (I := xI) (xr_aload_n (i := 0) (x_dk dl_9_ok 22 rfl)))))))
  (x_Tok2
  (x_Tok2
  (x_Tok2
  (x_Lok (x_st (I := xI) (xr_bipush (n := 8) (z := 8) (v := 8) (x_dk dl_9_ok 23 rfl) (by decide) (by decide))))
  (x_Lok (x_st (I := xI) (xr_newa (kd := 3) (b := true) (ty := .boolean) rfl rfl (in_t1 (List.mem_of_getElem? (i := 166) rfl) rfl) (x_dk dl_9_ok 24 rfl)))))
  (x_Tok2
  (x_Lok (x_st (I := xI) (xr_putF (ci := 2) (k := 13) (ix := 28) (N := 15) (fk := 2) (C := RX2) (T := TX2) (ty0 := tyX2) (ty := .array .boolean) rfl in_X2 tyX2_ok nmX2 (by decide) (in_t2 (List.mem_of_getElem? (i := 39) rfl) rfl) rfl rfl rfl rfl x_fit_arr (x_dk dl_9_ok 25 rfl))))
  (x_Lok (x_st (I := xI) (xr_aload_n (i := 0) (x_dk dl_9_ok 26 rfl))))))
  (x_Tok2
  (x_Tok2
  (x_Lok (x_st (I := xI) (xr_bipush (n := 8) (z := 8) (v := 8) (x_dk dl_9_ok 27 rfl) (by decide) (by decide))))
  (x_Lok (x_st (I := xI) (xr_newa (kd := 1) (b := false) (ty := .int) rfl rfl (in_t1 (List.mem_of_getElem? (i := 64) rfl) rfl) (x_dk dl_9_ok 28 rfl)))))
  (x_Tok2
  (x_Lok (x_st (I := xI) (xr_putF (ci := 2) (k := 14) (ix := 31) (N := 15) (fk := 2) (C := RX2) (T := TX2) (ty0 := tyX2) (ty := .array .int) rfl in_X2 tyX2_ok nmX2 (by decide) (in_t2 (List.mem_of_getElem? (i := 40) rfl) rfl) rfl rfl rfl rfl x_fit_arr (x_dk dl_9_ok 29 rfl))))
  (x_Lok (x_rt (I := xI) (k := 0) ⟨(x_dk dl_9_ok 30 rfl), rfl⟩)))))))
def tb_9 : Nat → xE := tb_9_0
theorem tb_9_ok (K : xKx) : ∀ pc, x_EOq cls K xI m_9 pc (tb_9 pc) := tb_9_0_ok K
def dl_10 : List (Nat × Instr × Nat) := [(0, .aload_n 0, 1), (1, .iconst 0, 1), (2, .putfield 34, 3), (5, .iconst 0, 1), (6, .istore_n 1, 1), (7, .iload_n 1, 1), (8, .bipush 8, 2), (10, .if_icmp .ge 16, 3), (13, .aload_n 0, 1), (14, .getfield 18, 3), (17, .iload_n 1, 1), (18, .iconst 0, 1), (19, .bastore, 1), (20, .iinc 1 1, 3), (23, .goto (-16), 3), (26, .return_, 1)]
set_option maxRecDepth 20000 in
theorem dl_10_ok : dl_10.all (fun q => decide (decode prog_4_method_2_code q.1 = .ok (q.2.1, q.2.2))) = true := by decide +kernel
def tb_10_0 : Nat → xE := (x_T 10 (x_T 5 (x_T 1 (x_T 0 (x_L 0 (0, xi_load 0 2 1, 0, 0)) (x_L 1 (0, xi_push (0, 0, 0) 2, 0, 0))) (x_T 2 (x_L 2 (0, xi_putf 2 2 0 5, 0, 0)) (x_L 5 (0, xi_push (0, 0, 0) 6, 0, 0)))) (x_T 7 (x_T 6 (x_L 6 (0, xi_stor 1 0 7, 0, 0)) (x_L 7 (0, xi_load 1 0 8, 0, 0))) (x_T 8 (x_L 8 (0, xi_push (0, 8, 8) 10, 0, 0)) (x_L 10 (0, xi_if2 3 26 13, 0, 0))))) (x_T 18 (x_T 14 (x_T 13 (x_L 13 (0, xi_load 0 2 14, 0, 0)) (x_L 14 (0, xi_getf 2 10 17, 0, 0))) (x_T 17 (x_L 17 (0, xi_load 1 0 18, 0, 0)) (x_L 18 (0, xi_push (0, 0, 0) 19, 0, 0)))) (x_T 20 (x_T 19 (x_L 19 (0, xi_ast true 20, 0, 0)) (x_L 20 (0, xi_inc 1 1 23, 0, 0))) (x_T 23 (x_L 23 (0, xi_goto 7, 0, 0)) (x_L 26 (1, x_nof, 0, 0))))))
set_option maxRecDepth 20000 in
set_option maxHeartbeats 4000000 in
theorem tb_10_0_ok (K : xKx) : ∀ pc, x_EOq cls K xI m_10 pc (tb_10_0 pc) :=
  (x_Tok2
  (x_Tok2
  (x_Tok2
  (x_Tok2
  (x_Lok (x_st (I := xI) (xr_aload_n (i := 0) (x_dk dl_10_ok 0 rfl))))
  (x_Lok (x_st (I := xI) (xr_iconst (n := 0) (z := 0) (v := 0) (x_dk dl_10_ok 1 rfl) (by decide) (by decide)))))
  (x_Tok2
  (x_Lok (x_st (I := xI) (xr_putf (ci := 2) (k := 2) (ix := 34) (N := 15) (fk := 0) (C := RX2) (T := TX2) (ty0 := tyX2) (ty := .int) rfl in_X2 tyX2_ok nmX2 (by decide) (in_t2 (List.mem_of_getElem? (i := 17) rfl) rfl) rfl rfl x_fit_int (x_dk dl_10_ok 2 rfl))))
  (x_Lok (x_st (I := xI) (xr_iconst (n := 0) (z := 0) (v := 0) (x_dk dl_10_ok 3 rfl) (by decide) (by decide))))))
  (x_Tok2
  (x_Tok2
  (x_Lok (x_st (I := xI) (xr_istore_n (i := 1) (x_dk dl_10_ok 4 rfl) (by decide +kernel))))
  (x_Lok (x_st (I := xI) (xr_iload_n (i := 1) (x_dk dl_10_ok 5 rfl)))))
  (x_Tok2
  (x_Lok (x_st (I := xI) (xr_bipush (n := 8) (z := 8) (v := 8) (x_dk dl_10_ok 6 rfl) (by decide) (by decide))))
  (x_Lok (x_st (I := xI) (xr_icmpge (off := 16) (tg := 26) (x_dk dl_10_ok 7 rfl) (by decide)))))))
  (x_Tok2
  (x_Tok2
  (x_Tok2
  (x_Lok (x_st (I := xI) (xr_aload_n (i := 0) (x_dk dl_10_ok 8 rfl))))
  (x_Lok (x_st (I := xI) (xr_getf (ci := 2) (k := 10) (ix := 18) (N := 15) (C := RX2) (T := TX2) rfl in_X2 (by decide) (in_t2 (List.mem_of_getElem? (i := 35) rfl) rfl) (x_dk dl_10_ok 9 rfl)))))
  (x_Tok2
  (x_Lok (x_st (I := xI) (xr_iload_n (i := 1) (x_dk dl_10_ok 10 rfl))))
  (x_Lok (x_st (I := xI) (xr_iconst (n := 0) (z := 0) (v := 0) (x_dk dl_10_ok 11 rfl) (by decide) (by decide))))))
  (x_Tok2
  (x_Tok2
  (x_Lok (x_st (I := xI) (xr_bastore (x_dk dl_10_ok 12 rfl))))
  (x_Lok (x_st (I := xI) (xr_iinc (i := 1) (n := 1) (x_dk dl_10_ok 13 rfl) (by decide +kernel) (by decide)))))
  (x_Tok2
  (x_Lok (x_st (I := xI) (xr_goto (off := (-16)) (tg := 7) (x_dk dl_10_ok 14 rfl) (by decide))))
  (x_Lok (x_rt (I := xI) (k := 0) ⟨(x_dk dl_10_ok 15 rfl), rfl⟩))))))
def tb_10 : Nat → xE := tb_10_0
theorem tb_10_ok (K : xKx) : ∀ pc, x_EOq cls K xI m_10 pc (tb_10 pc) := tb_10_0_ok K
def dl_11 : List (Nat × Instr × Nat) := [(0, .aload_n 0, 1), (1, .iconst 0, 1), (2, .putfield 38, 3), (5, .aload_n 0, 1), (6, .iconst 0, 1), (7, .putfield 41, 3), (10, .aload_n 0, 1), (11, .iconst 0, 1), (12, .putfield 44, 3), (15, .aload_n 0, 1), (16, .iconst 0, 1), (17, .putfield 48, 3), (20, .aload_n 0, 1), (21, .iconst 0, 1), (22, .putfield 51, 3), (25, .aload_n 0, 1), (26, .iconst 0, 1), (27, .putfield 54, 3), (30, .aload_n 0, 1), (31, .iconst 0, 1), (32, .putfield 57, 3), (35, .iconst 0, 1), (36, .istore_n 1, 1), (37, .iload_n 1, 1), (38, .bipush 8, 2), (40, .if_icmp .ge 37, 3), (43, .aload_n 0, 1), (44, .getfield 22, 3), (47, .iload_n 1, 1), (48, .iconst 1, 1), (49, .bastore, 1), (50, .aload_n 0, 1), (51, .getfield 25, 3), (54, .iload_n 1, 1), (55, .iconst 1, 1), (56, .bastore, 1), (57, .aload_n 0, 1), (58, .getfield 28, 3), (61, .iload_n 1, 1), (62, .iconst 0, 1), (63, .bastore, 1), (64, .aload_n 0, 1), (65, .getfield 31, 3), (68, .iload_n 1, 1), (69, .iconst 0, 1), (70, .iastore, 1), (71, .iinc 1 1, 3), (74, .goto (-37), 3), (77, .return_, 1)]
set_option maxRecDepth 20000 in
theorem dl_11_ok : dl_11.all (fun q => decide (decode prog_4_method_3_code q.1 = .ok (q.2.1, q.2.2))) = true := by decide +kernel
def tb_11_0 : Nat → xE := (x_T 17 (x_T 7 (x_T 2 (x_T 0 (x_L 0 (0, xi_load 0 2 1, 0, 0)) (x_T 1 (x_L 1 (0, xi_push (0, 0, 0) 2, 0, 0)) (x_L 2 (0, xi_putf 2 0 0 5, 0, 0)))) (x_T 5 (x_L 5 (0, xi_load 0 2 6, 0, 0)) (x_T 6 (x_L 6 (0, xi_push (0, 0, 0) 7, 0, 0)) (x_L 7 (0, xi_putf 2 1 0 10, 0, 0))))) (x_T 12 (x_T 10 (x_L 10 (0, xi_load 0 2 11, 0, 0)) (x_T 11 (x_L 11 (0, xi_push (0, 0, 0) 12, 0, 0)) (x_L 12 (0, xi_putf 2 3 1 15, 0, 0)))) (x_T 15 (x_L 15 (0, xi_load 0 2 16, 0, 0)) (x_T 16 (x_L 16 (0, xi_push (0, 0, 0) 17, 0, 0)) (x_L 17 (0, xi_putf 2 4 0 20, 0, 0)))))) (x_T 27 (x_T 22 (x_T 20 (x_L 20 (0, xi_load 0 2 21, 0, 0)) (x_T 21 (x_L 21 (0, xi_push (0, 0, 0) 22, 0, 0)) (x_L 22 (0, xi_putf 2 5 0 25, 0, 0)))) (x_T 25 (x_L 25 (0, xi_load 0 2 26, 0, 0)) (x_T 26 (x_L 26 (0, xi_push (0, 0, 0) 27, 0, 0)) (x_L 27 (0, xi_putf 2 6 0 30, 0, 0))))) (x_T 32 (x_T 30 (x_L 30 (0, xi_load 0 2 31, 0, 0)) (x_T 31 (x_L 31 (0, xi_push (0, 0, 0) 32, 0, 0)) (x_L 32 (0, xi_putf 2 7 1 35, 0, 0)))) (x_T 35 (x_L 35 (0, xi_push (0, 0, 0) 36, 0, 0)) (x_T 36 (x_L 36 (0, xi_stor 1 0 37, 0, 0)) (x_L 37 (0, xi_load 1 0 38, 0, 0)))))))
set_option maxRecDepth 20000 in
set_option maxHeartbeats 4000000 in
theorem tb_11_0_ok (K : xKx) : ∀ pc, x_EOq cls K xI m_11 pc (tb_11_0 pc) :=
  (x_Tok2
  (x_Tok2
  (x_Tok2
  (x_Tok2
  (x_Lok (x_st (I := xI) (xr_aload_n (i := 0) (x_dk dl_11_ok 0 rfl))))
  (x_Tok2
  (x_Lok (x_st (I := xI) (xr_iconst (n := 0) (z := 0) (v := 0) (x_dk dl_11_ok 1 rfl) (by decide) (by decide))))
  (x_Lok (x_st (I := xI) (xr_putf (ci := 2) (k := 0) (ix := 38) (N := 15) (fk := 0) (C := RX2) (T := TX2) (ty0 := tyX2) (ty := .int) rfl in_X2 tyX2_ok nmX2 (by decide) (in_t2 (List.mem_of_getElem? (i := 12) rfl) rfl) rfl rfl x_fit_int (x_dk dl_11_ok 2 rfl))))))
  (x_Tok2
  (x_Lok (x_st (I := xI) (xr_aload_n (i := 0) (x_dk dl_11_ok 3 rfl))))
  (x_Tok2
  (x_Lok (x_st (I := xI) (xr_iconst (n := 0) (z := 0) (v := 0) (x_dk dl_11_ok 4 rfl) (by decide) (by decide))))
  (x_Lok (x_st (I := xI) (xr_putf (ci := 2) (k := 1) (ix := 41) (N := 15) (fk := 0) (C := RX2) (T := TX2) (ty0 := tyX2) (ty := .int) rfl in_X2 tyX2_ok nmX2 (by decide) (in_t2 (List.mem_of_getElem? (i := 15) rfl) rfl) rfl rfl x_fit_int (x_dk dl_11_ok 5 rfl)))))))
  (x_Tok2
  (x_Tok2
  (x_Lok (x_st (I := xI) (xr_aload_n (i := 0) (x_dk dl_11_ok 6 rfl))))
  (x_Tok2
  (x_Lok (x_st (I := xI) (xr_iconst (n := 0) (z := 0) (v := 0) (x_dk dl_11_ok 7 rfl) (by decide) (by decide))))
  (x_Lok (x_st (I := xI) (xr_putf (ci := 2) (k := 3) (ix := 44) (N := 15) (fk := 1) (C := RX2) (T := TX2) (ty0 := tyX2) (ty := .boolean) rfl in_X2 tyX2_ok nmX2 (by decide) (in_t2 (List.mem_of_getElem? (i := 19) rfl) rfl) rfl rfl x_fit_bool (x_dk dl_11_ok 8 rfl))))))
  (x_Tok2
  (x_Lok (x_st (I := xI) (xr_aload_n (i := 0) (x_dk dl_11_ok 9 rfl))))
  (x_Tok2
  (x_Lok (x_st (I := xI) (xr_iconst (n := 0) (z := 0) (v := 0) (x_dk dl_11_ok 10 rfl) (by decide) (by decide))))
  (x_Lok (x_st (I := xI) (xr_putf (ci := 2) (k := 4) (ix := 48) (N := 15) (fk := 0) (C := RX2) (T := TX2) (ty0 := tyX2) (ty := .int) rfl in_X2 tyX2_ok nmX2 (by decide) (in_t2 (List.mem_of_getElem? (i := 22) rfl) rfl) rfl rfl x_fit_int (x_dk dl_11_ok 11 rfl))))))))
  (x_Tok2
  (x_Tok2
  (x_Tok2
  (x_Lok (x_st (I := xI) (xr_aload_n (i := 0) (x_dk dl_11_ok 12 rfl))))
  (x_Tok2
  (x_Lok (x_st (I := xI) (xr_iconst (n := 0) (z := 0) (v := 0) (x_dk dl_11_ok 13 rfl) (by decide) (by decide))))
  (x_Lok (x_st (I := xI) (xr_putf (ci := 2) (k := 5) (ix := 51) (N := 15) (fk := 0) (C := RX2) (T := TX2) (ty0 := tyX2) (ty := .int) rfl in_X2 tyX2_ok nmX2 (by decide) (in_t2 (List.mem_of_getElem? (i := 24) rfl) rfl) rfl rfl x_fit_int (x_dk dl_11_ok 14 rfl))))))
  (x_Tok2
  (x_Lok (x_st (I := xI) (xr_aload_n (i := 0) (x_dk dl_11_ok 15 rfl))))
  (x_Tok2
  (x_Lok (x_st (I := xI) (xr_iconst (n := 0) (z := 0) (v := 0) (x_dk dl_11_ok 16 rfl) (by decide) (by decide))))
  (x_Lok (x_st (I := xI) (xr_putf (ci := 2) (k := 6) (ix := 54) (N := 15) (fk := 0) (C := RX2) (T := TX2) (ty0 := tyX2) (ty := .int) rfl in_X2 tyX2_ok nmX2 (by decide) (in_t2 (List.mem_of_getElem? (i := 26) rfl) rfl) rfl rfl x_fit_int (x_dk dl_11_ok 17 rfl)))))))
  (x_Tok2
  (x_Tok2
  (x_Lok (x_st (I := xI) (xr_aload_n (i := 0) (x_dk dl_11_ok 18 rfl))))
  (x_Tok2
  (x_Lok (x_st (I := xI) (xr_iconst (n := 0) (z := 0) (v := 0) (x_dk dl_11_ok 19 rfl) (by decide) (by decide))))
  (x_Lok (x_st (I := xI) (xr_putf (ci := 2) (k := 7) (ix := 57) (N := 15) (fk := 1) (C := RX2) (T := TX2) (ty0 := tyX2) (ty := .boolean) rfl in_X2 tyX2_ok nmX2 (by decide) (in_t2 (List.mem_of_getElem? (i := 28) rfl) rfl) rfl rfl x_fit_bool (x_dk dl_11_ok 20 rfl))))))
  (x_Tok2
  (x_Lok (x_st (I := xI) (xr_iconst (n := 0) (z := 0) (v := 0) (x_dk dl_11_ok 21 rfl) (by decide) (by decide))))
  (x_Tok2
  (x_Lok (x_st (I := xI) (xr_istore_n (i := 1) (x_dk dl_11_ok 22 rfl) (by decide +kernel))))
  (x_Lok (x_st (I := xI) (xr_iload_n (i := 1) (x_dk dl_11_ok 23 rfl)))))))))
def tb_11_24 : Nat → xE := (x_T 56 (x_T 48 (x_T 43 (x_T 38 (x_L 38 (0, xi_push (0, 8, 8) 40, 0, 0)) (x_T 40 (x_L 40 (0, xi_if2 3 77 43, 0, 0)) (x_L 43 (0, xi_load 0 2 44, 0, 0)))) (x_T 44 (x_L 44 (0, xi_getf 2 11 47, 0, 0)) (x_T 47 (x_L 47 (0, xi_load 1 0 48, 0, 0)) (x_L 48 (0, xi_push (0, 1, 1) 49, 0, 0))))) (x_T 51 (x_T 49 (x_L 49 (0, xi_ast true 50, 0, 0)) (x_T 50 (x_L 50 (0, xi_load 0 2 51, 0, 0)) (x_L 51 (0, xi_getf 2 12 54, 0, 0)))) (x_T 54 (x_L 54 (0, xi_load 1 0 55, 0, 0)) (x_T 55 (x_L 55 (0, xi_push (0, 1, 1) 56, 0, 0)) (x_L 56 (0, xi_ast true 57, 0, 0)))))) (x_T 64 (x_T 61 (x_T 57 (x_L 57 (0, xi_load 0 2 58, 0, 0)) (x_T 58 (x_L 58 (0, xi_getf 2 13 61, 0, 0)) (x_L 61 (0, xi_load 1 0 62, 0, 0)))) (x_T 62 (x_L 62 (0, xi_push (0, 0, 0) 63, 0, 0)) (x_T 63 (x_L 63 (0, xi_ast true 64, 0, 0)) (x_L 64 (0, xi_load 0 2 65, 0, 0))))) (x_T 69 (x_T 65 (x_L 65 (0, xi_getf 2 14 68, 0, 0)) (x_T 68 (x_L 68 (0, xi_load 1 0 69, 0, 0)) (x_L 69 (0, xi_push (0, 0, 0) 70, 0, 0)))) (x_T 71 (x_T 70 (x_L 70 (0, xi_ast false 71, 0, 0)) (x_L 71 (0, xi_inc 1 1 74, 0, 0))) (x_T 74 (x_L 74 (0, xi_goto 37, 0, 0)) (x_L 77 (1, x_nof, 0, 0)))))))
set_option maxRecDepth 20000 in
set_option maxHeartbeats 4000000 in
theorem tb_11_24_ok (K : xKx) : ∀ pc, x_EOq cls K xI m_11 pc (tb_11_24 pc) :=
  (x_Tok2
  (x_Tok2
  (x_Tok2
  (x_Tok2
  (x_Lok (x_st (I := xI) (xr_bipush (n := 8) (z := 8) (v := 8) (x_dk dl_11_ok 24 rfl) (by decide) (by decide))))
  (x_Tok2
  (x_Lok (x_st (I := xI) (xr_icmpge (off := 37) (tg := 77) (x_dk dl_11_ok 25 rfl) (by decide))))
  (x_Lok (x_st (I := xI) (xr_aload_n (i := 0) (x_dk dl_11_ok 26 rfl))))))
  (x_Tok2
  (x_Lok (x_st (I := xI) (xr_getf (ci := 2) (k := 11) (ix := 22) (N := 15) (C := RX2) (T := TX2) rfl in_X2 (by decide) (in_t2 (List.mem_of_getElem? (i := 37) rfl) rfl) (x_dk dl_11_ok 27 rfl))))
  (x_Tok2
  (x_Lok (x_st (I := xI) (xr_iload_n (i := 1) (x_dk dl_11_ok 28 rfl))))
  (x_Lok (x_st (I := xI) (xr_iconst (n := 1) (z := 1) (v := 1) (x_dk dl_11_ok 29 rfl) (by decide) (by decide)))))))
  (x_Tok2
  (x_Tok2
  (x_Lok (x_st (I := xI) (xr_bastore (x_dk dl_11_ok 30 rfl))))
  (x_Tok2
  (x_Lok (x_st (I := xI) (xr_aload_n (i := 0) (x_dk dl_11_ok 31 rfl))))
  (x_Lok (x_st (I := xI) (xr_getf (ci := 2) (k := 12) (ix := 25) (N := 15) (C := RX2) (T := TX2) rfl in_X2 (by decide) (in_t2 (List.mem_of_getElem? (i := 38) rfl) rfl) (x_dk dl_11_ok 32 rfl))))))
  (x_Tok2
  (x_Lok (x_st (I := xI) (xr_iload_n (i := 1) (x_dk dl_11_ok 33 rfl))))
  (x_Tok2
  (x_Lok (x_st (I := xI) (xr_iconst (n := 1) (z := 1) (v := 1) (x_dk dl_11_ok 34 rfl) (by decide) (by decide))))
  (x_Lok (x_st (I := xI) (xr_bastore (x_dk dl_11_ok 35 rfl))))))))
  (x_Tok2
  (x_Tok2
  (x_Tok2
  (x_Lok (x_st (I := xI) (xr_aload_n (i := 0) (x_dk dl_11_ok 36 rfl))))
  (x_Tok2
  (x_Lok (x_st (I := xI) (xr_getf (ci := 2) (k := 13) (ix := 28) (N := 15) (C := RX2) (T := TX2) rfl in_X2 (by decide) (in_t2 (List.mem_of_getElem? (i := 39) rfl) rfl) (x_dk dl_11_ok 37 rfl))))
  (x_Lok (x_st (I := xI) (xr_iload_n (i := 1) (x_dk dl_11_ok 38 rfl))))))
  (x_Tok2
  (x_Lok (x_st (I := xI) (xr_iconst (n := 0) (z := 0) (v := 0) (x_dk dl_11_ok 39 rfl) (by decide) (by decide))))
  (x_Tok2
  (x_Lok (x_st (I := xI) (xr_bastore (x_dk dl_11_ok 40 rfl))))
  (x_Lok (x_st (I := xI) (xr_aload_n (i := 0) (x_dk dl_11_ok 41 rfl)))))))
  (x_Tok2
  (x_Tok2
  (x_Lok (x_st (I := xI) (xr_getf (ci := 2) (k := 14) (ix := 31) (N := 15) (C := RX2) (T := TX2) rfl in_X2 (by decide) (in_t2 (List.mem_of_getElem? (i := 40) rfl) rfl) (x_dk dl_11_ok 42 rfl))))
  (x_Tok2
  (x_Lok (x_st (I := xI) (xr_iload_n (i := 1) (x_dk dl_11_ok 43 rfl))))
  (x_Lok (x_st (I := xI) (xr_iconst (n := 0) (z := 0) (v := 0) (x_dk dl_11_ok 44 rfl) (by decide) (by decide))))))
  (x_Tok2
  (x_Tok2
  (x_Lok (x_st (I := xI) (xr_iastore (x_dk dl_11_ok 45 rfl))))
  (x_Lok (x_st (I := xI) (xr_iinc (i := 1) (n := 1) (x_dk dl_11_ok 46 rfl) (by decide +kernel) (by decide)))))
  (x_Tok2
  (x_Lok (x_st (I := xI) (xr_goto (off := (-37)) (tg := 37) (x_dk dl_11_ok 47 rfl) (by decide))))
  (x_Lok (x_rt (I := xI) (k := 0) ⟨(x_dk dl_11_ok 48 rfl), rfl⟩)))))))
def tb_11 : Nat → xE := (x_T 37 tb_11_0 tb_11_24)
theorem tb_11_ok (K : xKx) : ∀ pc, x_EOq cls K xI m_11 pc (tb_11 pc) := (x_Tok2 (tb_11_0_ok K) (tb_11_24_ok K))
def dl_12 : List (Nat × Instr × Nat) := [(0, .aload_n 0, 1), (1, .invokespecial 3, 3), (4, .aload_n 0, 1), (5, .iconst 4, 1), (6, .anewarray 9, 3), (9, .putfield 11, 3), (12, .aload_n 0, 1), (13, .new 17, 3), (16, .dup, 1), (17, .invokespecial 19, 3), (20, .putfield 20, 3), (23, .aload_n 0, 1), (24, .new 24, 3), (27, .dup, 1), (28, .invokespecial 26, 3), (31, .putfield 27, 3), (34, .aload_n 0, 1), (35, .new 31, 3), (38, .dup, 1), (39, .invokespecial 33, 3), (42, .putfield 34, 3), (45, .aload_n 0, 1), (46, .bipush 16, 2), (48, .anewarray 38, 3), (51, .putfield 40, 3), (54, .aload_n 0, 1), (55, .bipush 8, 2), (57, .newarray .int, 2), (59, .putfield 44, 3), (62, .aload_n 0, 1), (63, .sipush 128, 3), (66, .newarray .int, 2), (68, .putfield 48, 3), (71, .aload_n 0, 1), (72, .bipush 6, 2), (74, .newarray .int, 2), (76, .putfield 51, 3), (79, .iconst 0, 1), (80, .istore_n 1, 1), (81, .iload_n 1, 1), (82, .iconst 4, 1), (83, .if_icmp .ge 22, 3), (86, .aload_n 0, 1), (87, .getfield 11, 3), (90, .iload_n 1, 1), (91, .new 9, 3), (94, .dup, 1), (95, .invokespecial 54, 3), (98, .aastore, 1), (99, .iinc 1 1, 3), (102, .goto (-21), 3), (105, .iconst 0, 1), (106, .istore_n 1, 1), (107, .iload_n 1, 1), (108, .bipush 16, 2), (110, .if_icmp .ge 23, 3), (113, .aload_n 0, 1), (114, .getfield 40, 3), (117, .iload_n 1, 1), (118, .new 38, 3), (121, .dup, 1), (122, .iload_n 1, 1), (123, .invokespecial 55, 3), (126, .aastore, 1), (127, .iinc 1 1, 3), (130, .goto (-23), 3), (133, .return_, 1)]
set_option maxRecDepth 20000 in
theorem dl_12_ok : dl_12.all (fun q => decide (decode prog_5_method_1_code q.1 = .ok (q.2.1, q.2.2))) = true := by decide +kernel
def tb_12_0 : Nat → xE := (x_T 31 (x_T 13 (x_T 5 (x_T 1 (x_T 0 (x_L 0 (0, xi_load 0 2 1, 0, 0)) (x_L 1 (0, xi_oi 4, 0, 0))) (x_T 4 (x_L 4 (0, xi_load 0 2 5, 0, 0)) (x_L 5 (0, xi_push (0, 4, 4) 6, 0, 0)))) (x_T 9 (x_T 6 (x_L 6 (0, xi_newa 5 0 (2, 0, 0) (xm_c m_12) (xm_s m_12) 9, 0, 0)) (x_L 9 (0, xi_putf 3 0 2 12, 0, 0))) (x_T 12 (x_L 12 (0, xi_load 0 2 13, 0, 0)) (x_L 13 (0, xi_new (x_nc 7 ks_X7) (xm_c m_12) (xm_s m_12) 16, 0, 0))))) (x_T 23 (x_T 17 (x_T 16 (x_L 16 (0, xi_stk xf_dup 17, 0, 0)) (x_L 17 (2, x_nof, 18, 1))) (x_T 20 (x_L 20 (0, xi_putf 3 1 2 23, 0, 0)) (x_L 23 (0, xi_load 0 2 24, 0, 0)))) (x_T 27 (x_T 24 (x_L 24 (0, xi_new (x_nc 4 ks_X4) (xm_c m_12) (xm_s m_12) 27, 0, 0)) (x_L 27 (0, xi_stk xf_dup 28, 0, 0))) (x_T 28 (x_L 28 (2, x_nof, 14, 1)) (x_L 31 (0, xi_putf 3 2 2 34, 0, 0)))))) (x_T 48 (x_T 39 (x_T 35 (x_T 34 (x_L 34 (0, xi_load 0 2 35, 0, 0)) (x_L 35 (0, xi_new (x_nc 2 ks_X2) (xm_c m_12) (xm_s m_12) 38, 0, 0))) (x_T 38 (x_L 38 (0, xi_stk xf_dup 39, 0, 0)) (x_L 39 (2, x_nof, 9, 1)))) (x_T 45 (x_T 42 (x_L 42 (0, xi_putf 3 3 2 45, 0, 0)) (x_L 45 (0, xi_load 0 2 46, 0, 0))) (x_T 46 (x_L 46 (0, xi_push (0, 16, 16) 48, 0, 0)) (x_L 48 (0, xi_newa 5 10 (2, 0, 0) (xm_c m_12) (xm_s m_12) 51, 0, 0))))) (x_T 57 (x_T 54 (x_T 51 (x_L 51 (0, xi_putf 3 4 2 54, 0, 0)) (x_L 54 (0, xi_load 0 2 55, 0, 0))) (x_T 55 (x_L 55 (0, xi_push (0, 8, 8) 57, 0, 0)) (x_L 57 (0, xi_newa 1 0 (0, 0, 0) (xm_c m_12) (xm_s m_12) 59, 0, 0)))) (x_T 62 (x_T 59 (x_L 59 (0, xi_putf 3 5 2 62, 0, 0)) (x_L 62 (0, xi_load 0 2 63, 0, 0))) (x_T 63 (x_L 63 (0, xi_push (0, 128, 128) 66, 0, 0)) (x_T 66 (x_L 66 (0, xi_newa 1 0 (0, 0, 0) (xm_c m_12) (xm_s m_12) 68, 0, 0)) (x_L 68 (0, xi_putf 3 6 2 71, 0, 0))))))))
set_option maxRecDepth 20000 in
set_option maxHeartbeats 4000000 in
theorem tb_12_0_ok (K : xKx) : ∀ pc, x_EOq cls K xI m_12 pc (tb_12_0 pc) :=
  (x_Tok2
  (x_Tok2
  (x_Tok2
  (x_Tok2
  (x_Tok2
  (x_Lok (x_st (I := xI) (xr_aload_n (i := 0) (x_dk dl_12_ok 0 rfl))))
  (x_Lok (x_st (I := xI) (xr_oi (ix := 3) (in_t1 (List.mem_of_getElem? (i := 127) rfl) rfl) (in_t1 (List.mem_of_getElem? (i := 27) rfl) rfl) (in_t1 (List.mem_of_getElem? (i := 28) rfl) rfl) (x_dk dl_12_ok 1 rfl)))))
  (x_Tok2
  (x_Lok (x_st (I := xI) (xr_aload_n (i := 0) (x_dk dl_12_ok 2 rfl))))
  (x_Lok (x_st (I := xI) (xr_iconst (n := 4) (z := 4) (v := 4) (x_dk dl_12_ok 3 rfl) (by decide) (by decide))))))
  (x_Tok2
  (x_Tok2
  (x_Lok (x_st (I := xI) (xr_newq (ci := 0) (ix := 9) (r := (RX0, TX0, 20)) rfl (in_t1 (List.mem_of_getElem? (i := 128) rfl) rfl) (fun U h => h.1.2.1) (x_dk dl_12_ok 4 rfl))))
  (x_Lok (x_st (I := xI) (xr_putF (ci := 3) (k := 0) (ix := 11) (N := 12) (fk := 2) (C := RX3) (T := TX3) (ty0 := tyX3) (ty := .array (.object "RobotCellHouse$Arm")) rfl in_X3 tyX3_ok nmX3 (by decide) (in_t3 (List.mem_of_getElem? (i := 88) rfl) rfl) rfl rfl rfl rfl x_fit_arr (x_dk dl_12_ok 5 rfl)))))
  (x_Tok2
  (x_Lok (x_st (I := xI) (xr_aload_n (i := 0) (x_dk dl_12_ok 6 rfl))))
  (x_Lok (x_st (I := xI) (xr_new (ci := 7) (ix := 17) (N := 8) (C := RX7) (T := TX7) (ty0 := tyX7) (ks := ks_X7) rfl in_X7 tyX7_ok (in_t1 (List.mem_of_getElem? (i := 130) rfl) rfl) (in_t1 (List.mem_of_getElem? (i := 131) rfl) rfl) (in_t1 (List.mem_of_getElem? (i := 5) rfl) rfl) rfl df_X7 (x_dk dl_12_ok 7 rfl)))))))
  (x_Tok2
  (x_Tok2
  (x_Tok2
  (x_Lok (x_st (I := xI) (xr_dup (x_dk dl_12_ok 8 rfl))))
  (x_Lok (x_ca (I := xI) (q' := m_18) rfl (xr_callIN (q' := m_18) (ix := 19) (n := 0) (host := "RobotCellHouse") (in_t1 (List.mem_of_getElem? (i := 134) rfl) rfl) good_w (in_t1 (List.mem_of_getElem? (i := 5) rfl) rfl) (List.mem_of_getElem? (i := 2) rfl) (in_t1 (List.mem_of_getElem? (i := 133) rfl) rfl) rfl rfl (by decide +kernel) (by decide +kernel) (by decide +kernel) (x_dk dl_12_ok 9 rfl)))))
  (x_Tok2
  (x_Lok (x_st (I := xI) (xr_putF (ci := 3) (k := 1) (ix := 20) (N := 12) (fk := 2) (C := RX3) (T := TX3) (ty0 := tyX3) (ty := .object "RobotCellHouse$Points") rfl in_X3 tyX3_ok nmX3 (by decide) (in_t3 (List.mem_of_getElem? (i := 90) rfl) rfl) rfl rfl rfl rfl x_fit_obj (x_dk dl_12_ok 10 rfl))))
  (x_Lok (x_st (I := xI) (xr_aload_n (i := 0) (x_dk dl_12_ok 11 rfl))))))
  (x_Tok2
  (x_Tok2
  (x_Lok (x_st (I := xI) (xr_new (ci := 4) (ix := 24) (N := 20) (C := RX4) (T := TX4) (ty0 := tyX4) (ks := ks_X4) rfl in_X4 tyX4_ok (in_t1 (List.mem_of_getElem? (i := 167) rfl) rfl) (in_t1 (List.mem_of_getElem? (i := 168) rfl) rfl) (in_t1 (List.mem_of_getElem? (i := 6) rfl) rfl) rfl df_X4 (x_dk dl_12_ok 12 rfl))))
  (x_Lok (x_st (I := xI) (xr_dup (x_dk dl_12_ok 13 rfl)))))
  (x_Tok2
  (x_Lok (x_ca (I := xI) (q' := m_14) rfl (xr_callIN (q' := m_14) (ix := 26) (n := 0) (host := "RobotCellHouse") (in_t1 (List.mem_of_getElem? (i := 171) rfl) rfl) good_w (in_t1 (List.mem_of_getElem? (i := 6) rfl) rfl) (List.mem_of_getElem? (i := 3) rfl) (in_t1 (List.mem_of_getElem? (i := 170) rfl) rfl) rfl rfl (by decide +kernel) (by decide +kernel) (by decide +kernel) (x_dk dl_12_ok 14 rfl))))
  (x_Lok (x_st (I := xI) (xr_putF (ci := 3) (k := 2) (ix := 27) (N := 12) (fk := 2) (C := RX3) (T := TX3) (ty0 := tyX3) (ty := .object "RobotCellHouse$Floor") rfl in_X3 tyX3_ok nmX3 (by decide) (in_t3 (List.mem_of_getElem? (i := 92) rfl) rfl) rfl rfl rfl rfl x_fit_obj (x_dk dl_12_ok 15 rfl))))))))
  (x_Tok2
  (x_Tok2
  (x_Tok2
  (x_Tok2
  (x_Lok (x_st (I := xI) (xr_aload_n (i := 0) (x_dk dl_12_ok 16 rfl))))
  (x_Lok (x_st (I := xI) (xr_new (ci := 2) (ix := 31) (N := 15) (C := RX2) (T := TX2) (ty0 := tyX2) (ks := ks_X2) rfl in_X2 tyX2_ok (in_t2 (List.mem_of_getElem? (i := 6) rfl) rfl) (in_t2 (List.mem_of_getElem? (i := 7) rfl) rfl) (in_t1 (List.mem_of_getElem? (i := 7) rfl) rfl) rfl df_X2 (x_dk dl_12_ok 17 rfl)))))
  (x_Tok2
  (x_Lok (x_st (I := xI) (xr_dup (x_dk dl_12_ok 18 rfl))))
  (x_Lok (x_ca (I := xI) (q' := m_9) rfl (xr_callIN (q' := m_9) (ix := 33) (n := 0) (host := "RobotCellHouse") (in_t2 (List.mem_of_getElem? (i := 10) rfl) rfl) good_w (in_t1 (List.mem_of_getElem? (i := 7) rfl) rfl) (List.mem_of_getElem? (i := 4) rfl) (in_t2 (List.mem_of_getElem? (i := 9) rfl) rfl) rfl rfl (by decide +kernel) (by decide +kernel) (by decide +kernel) (x_dk dl_12_ok 19 rfl))))))
  (x_Tok2
  (x_Tok2
  (x_Lok (x_st (I := xI) (xr_putF (ci := 3) (k := 3) (ix := 34) (N := 12) (fk := 2) (C := RX3) (T := TX3) (ty0 := tyX3) (ty := .object "RobotCellHouse$Core") rfl in_X3 tyX3_ok nmX3 (by decide) (in_t3 (List.mem_of_getElem? (i := 94) rfl) rfl) rfl rfl rfl rfl x_fit_obj (x_dk dl_12_ok 20 rfl))))
  (x_Lok (x_st (I := xI) (xr_aload_n (i := 0) (x_dk dl_12_ok 21 rfl)))))
  (x_Tok2
  (x_Lok (x_st (I := xI) (xr_bipush (n := 16) (z := 16) (v := 16) (x_dk dl_12_ok 22 rfl) (by decide) (by decide))))
  (x_Lok (x_st (I := xI) (xr_newq (ci := 10) (ix := 38) (r := (RX10, TX10, 21)) rfl (in_t2 (List.mem_of_getElem? (i := 72) rfl) rfl) (fun U h => h.1.2.2) (x_dk dl_12_ok 23 rfl)))))))
  (x_Tok2
  (x_Tok2
  (x_Tok2
  (x_Lok (x_st (I := xI) (xr_putF (ci := 3) (k := 4) (ix := 40) (N := 12) (fk := 2) (C := RX3) (T := TX3) (ty0 := tyX3) (ty := .array (.object "RobotCellHouse$Task")) rfl in_X3 tyX3_ok nmX3 (by decide) (in_t3 (List.mem_of_getElem? (i := 96) rfl) rfl) rfl rfl rfl rfl x_fit_arr (x_dk dl_12_ok 24 rfl))))
  (x_Lok (x_st (I := xI) (xr_aload_n (i := 0) (x_dk dl_12_ok 25 rfl)))))
  (x_Tok2
  (x_Lok (x_st (I := xI) (xr_bipush (n := 8) (z := 8) (v := 8) (x_dk dl_12_ok 26 rfl) (by decide) (by decide))))
  (x_Lok (x_st (I := xI) (xr_newa (kd := 1) (b := false) (ty := .int) rfl rfl (in_t1 (List.mem_of_getElem? (i := 64) rfl) rfl) (x_dk dl_12_ok 27 rfl))))))
  (x_Tok2
  (x_Tok2
  (x_Lok (x_st (I := xI) (xr_putF (ci := 3) (k := 5) (ix := 44) (N := 12) (fk := 2) (C := RX3) (T := TX3) (ty0 := tyX3) (ty := .array .int) rfl in_X3 tyX3_ok nmX3 (by decide) (in_t3 (List.mem_of_getElem? (i := 98) rfl) rfl) rfl rfl rfl rfl x_fit_arr (x_dk dl_12_ok 28 rfl))))
  (x_Lok (x_st (I := xI) (xr_aload_n (i := 0) (x_dk dl_12_ok 29 rfl)))))
  (x_Tok2
  (x_Lok (x_st (I := xI) (xr_sipush (n := 128) (z := 128) (v := 128) (x_dk dl_12_ok 30 rfl) (by decide) (by decide))))
  (x_Tok2
  (x_Lok (x_st (I := xI) (xr_newa (kd := 1) (b := false) (ty := .int) rfl rfl (in_t1 (List.mem_of_getElem? (i := 64) rfl) rfl) (x_dk dl_12_ok 31 rfl))))
  (x_Lok (x_st (I := xI) (xr_putF (ci := 3) (k := 6) (ix := 48) (N := 12) (fk := 2) (C := RX3) (T := TX3) (ty0 := tyX3) (ty := .array .int) rfl in_X3 tyX3_ok nmX3 (by decide) (in_t3 (List.mem_of_getElem? (i := 100) rfl) rfl) rfl rfl rfl rfl x_fit_arr (x_dk dl_12_ok 32 rfl))))))))))
def tb_12_33 : Nat → xE := (x_T 99 (x_T 82 (x_T 76 (x_T 72 (x_T 71 (x_L 71 (0, xi_load 0 2 72, 0, 0)) (x_L 72 (0, xi_push (0, 6, 6) 74, 0, 0))) (x_T 74 (x_L 74 (0, xi_newa 1 0 (0, 0, 0) (xm_c m_12) (xm_s m_12) 76, 0, 0)) (x_L 76 (0, xi_putf 3 7 2 79, 0, 0)))) (x_T 80 (x_T 79 (x_L 79 (0, xi_push (0, 0, 0) 80, 0, 0)) (x_L 80 (0, xi_stor 1 0 81, 0, 0))) (x_T 81 (x_L 81 (0, xi_load 1 0 82, 0, 0)) (x_L 82 (0, xi_push (0, 4, 4) 83, 0, 0))))) (x_T 90 (x_T 86 (x_T 83 (x_L 83 (0, xi_if2 3 105 86, 0, 0)) (x_L 86 (0, xi_load 0 2 87, 0, 0))) (x_T 87 (x_L 87 (0, xi_getf 3 0 90, 0, 0)) (x_L 90 (0, xi_load 1 0 91, 0, 0)))) (x_T 94 (x_T 91 (x_L 91 (0, xi_new (x_nc 0 ks_X0) (xm_c m_12) (xm_s m_12) 94, 0, 0)) (x_L 94 (0, xi_stk xf_dup 95, 0, 0))) (x_T 95 (x_L 95 (2, x_nof, 1, 1)) (x_T 98 (x_L 98 (0, xi_aast 99, 0, 0)) (x_L 99 (0, xi_inc 1 1 102, 0, 0))))))) (x_T 114 (x_T 107 (x_T 105 (x_T 102 (x_L 102 (0, xi_goto 81, 0, 0)) (x_L 105 (0, xi_push (0, 0, 0) 106, 0, 0))) (x_T 106 (x_L 106 (0, xi_stor 1 0 107, 0, 0)) (x_L 107 (0, xi_load 1 0 108, 0, 0)))) (x_T 110 (x_T 108 (x_L 108 (0, xi_push (0, 16, 16) 110, 0, 0)) (x_L 110 (0, xi_if2 3 133 113, 0, 0))) (x_T 113 (x_L 113 (0, xi_load 0 2 114, 0, 0)) (x_L 114 (0, xi_getf 3 4 117, 0, 0))))) (x_T 122 (x_T 118 (x_T 117 (x_L 117 (0, xi_load 1 0 118, 0, 0)) (x_L 118 (0, xi_new (x_nc 10 ks_X10) (xm_c m_12) (xm_s m_12) 121, 0, 0))) (x_T 121 (x_L 121 (0, xi_stk xf_dup 122, 0, 0)) (x_L 122 (0, xi_load 1 0 123, 0, 0)))) (x_T 126 (x_T 123 (x_L 123 (2, x_nof, 26, 2)) (x_L 126 (0, xi_aast 127, 0, 0))) (x_T 127 (x_L 127 (0, xi_inc 1 1 130, 0, 0)) (x_T 130 (x_L 130 (0, xi_goto 107, 0, 0)) (x_L 133 (1, x_nof, 0, 0))))))))
set_option maxRecDepth 20000 in
set_option maxHeartbeats 4000000 in
theorem tb_12_33_ok (K : xKx) : ∀ pc, x_EOq cls K xI m_12 pc (tb_12_33 pc) :=
  (x_Tok2
  (x_Tok2
  (x_Tok2
  (x_Tok2
  (x_Tok2
  (x_Lok (x_st (I := xI) (xr_aload_n (i := 0) (x_dk dl_12_ok 33 rfl))))
  (x_Lok (x_st (I := xI) (xr_bipush (n := 6) (z := 6) (v := 6) (x_dk dl_12_ok 34 rfl) (by decide) (by decide)))))
  (x_Tok2
  (x_Lok (x_st (I := xI) (xr_newa (kd := 1) (b := false) (ty := .int) rfl rfl (in_t1 (List.mem_of_getElem? (i := 64) rfl) rfl) (x_dk dl_12_ok 35 rfl))))
  (x_Lok (x_st (I := xI) (xr_putF (ci := 3) (k := 7) (ix := 51) (N := 12) (fk := 2) (C := RX3) (T := TX3) (ty0 := tyX3) (ty := .array .int) rfl in_X3 tyX3_ok nmX3 (by decide) (in_t3 (List.mem_of_getElem? (i := 101) rfl) rfl) rfl rfl rfl rfl x_fit_arr (x_dk dl_12_ok 36 rfl))))))
  (x_Tok2
  (x_Tok2
  (x_Lok (x_st (I := xI) (xr_iconst (n := 0) (z := 0) (v := 0) (x_dk dl_12_ok 37 rfl) (by decide) (by decide))))
  (x_Lok (x_st (I := xI) (xr_istore_n (i := 1) (x_dk dl_12_ok 38 rfl) (by decide +kernel)))))
  (x_Tok2
  (x_Lok (x_st (I := xI) (xr_iload_n (i := 1) (x_dk dl_12_ok 39 rfl))))
  (x_Lok (x_st (I := xI) (xr_iconst (n := 4) (z := 4) (v := 4) (x_dk dl_12_ok 40 rfl) (by decide) (by decide)))))))
  (x_Tok2
  (x_Tok2
  (x_Tok2
  (x_Lok (x_st (I := xI) (xr_icmpge (off := 22) (tg := 105) (x_dk dl_12_ok 41 rfl) (by decide))))
  (x_Lok (x_st (I := xI) (xr_aload_n (i := 0) (x_dk dl_12_ok 42 rfl)))))
  (x_Tok2
  (x_Lok (x_st (I := xI) (xr_getf (ci := 3) (k := 0) (ix := 11) (N := 12) (C := RX3) (T := TX3) rfl in_X3 (by decide) (in_t3 (List.mem_of_getElem? (i := 88) rfl) rfl) (x_dk dl_12_ok 43 rfl))))
  (x_Lok (x_st (I := xI) (xr_iload_n (i := 1) (x_dk dl_12_ok 44 rfl))))))
  (x_Tok2
  (x_Tok2
  (x_Lok (x_st (I := xI) (xr_new (ci := 0) (ix := 9) (N := 20) (C := RX0) (T := TX0) (ty0 := tyX0) (ks := ks_X0) rfl in_X0 tyX0_ok (in_t1 (List.mem_of_getElem? (i := 128) rfl) rfl) (in_t2 (List.mem_of_getElem? (i := 74) rfl) rfl) (in_t1 (List.mem_of_getElem? (i := 8) rfl) rfl) rfl df_X0 (x_dk dl_12_ok 45 rfl))))
  (x_Lok (x_st (I := xI) (xr_dup (x_dk dl_12_ok 46 rfl)))))
  (x_Tok2
  (x_Lok (x_ca (I := xI) (q' := m_1) rfl (xr_callI (q' := m_1) (ix := 54) (n := 0) (in_t2 (List.mem_of_getElem? (i := 77) rfl) rfl) good_w (in_t1 (List.mem_of_getElem? (i := 8) rfl) rfl) (in_t2 (List.mem_of_getElem? (i := 75) rfl) rfl) (in_t2 (List.mem_of_getElem? (i := 76) rfl) rfl) rfl rfl (by decide +kernel) (by decide +kernel) (by decide +kernel) (x_dk dl_12_ok 47 rfl))))
  (x_Tok2
  (x_Lok (x_st (I := xI) (xr_aastore (x_dk dl_12_ok 48 rfl))))
  (x_Lok (x_st (I := xI) (xr_iinc (i := 1) (n := 1) (x_dk dl_12_ok 49 rfl) (by decide +kernel) (by decide)))))))))
  (x_Tok2
  (x_Tok2
  (x_Tok2
  (x_Tok2
  (x_Lok (x_st (I := xI) (xr_goto (off := (-21)) (tg := 81) (x_dk dl_12_ok 50 rfl) (by decide))))
  (x_Lok (x_st (I := xI) (xr_iconst (n := 0) (z := 0) (v := 0) (x_dk dl_12_ok 51 rfl) (by decide) (by decide)))))
  (x_Tok2
  (x_Lok (x_st (I := xI) (xr_istore_n (i := 1) (x_dk dl_12_ok 52 rfl) (by decide +kernel))))
  (x_Lok (x_st (I := xI) (xr_iload_n (i := 1) (x_dk dl_12_ok 53 rfl))))))
  (x_Tok2
  (x_Tok2
  (x_Lok (x_st (I := xI) (xr_bipush (n := 16) (z := 16) (v := 16) (x_dk dl_12_ok 54 rfl) (by decide) (by decide))))
  (x_Lok (x_st (I := xI) (xr_icmpge (off := 23) (tg := 133) (x_dk dl_12_ok 55 rfl) (by decide)))))
  (x_Tok2
  (x_Lok (x_st (I := xI) (xr_aload_n (i := 0) (x_dk dl_12_ok 56 rfl))))
  (x_Lok (x_st (I := xI) (xr_getf (ci := 3) (k := 4) (ix := 40) (N := 12) (C := RX3) (T := TX3) rfl in_X3 (by decide) (in_t3 (List.mem_of_getElem? (i := 96) rfl) rfl) (x_dk dl_12_ok 57 rfl)))))))
  (x_Tok2
  (x_Tok2
  (x_Tok2
  (x_Lok (x_st (I := xI) (xr_iload_n (i := 1) (x_dk dl_12_ok 58 rfl))))
  (x_Lok (x_st (I := xI) (xr_new (ci := 10) (ix := 38) (N := 21) (C := RX10) (T := TX10) (ty0 := tyX10) (ks := ks_X10) rfl in_X10 tyX10_ok (in_t2 (List.mem_of_getElem? (i := 72) rfl) rfl) (in_t3 (List.mem_of_getElem? (i := 4) rfl) rfl) (in_t1 (List.mem_of_getElem? (i := 10) rfl) rfl) rfl df_X10 (x_dk dl_12_ok 59 rfl)))))
  (x_Tok2
  (x_Lok (x_st (I := xI) (xr_dup (x_dk dl_12_ok 60 rfl))))
  (x_Lok (x_st (I := xI) (xr_iload_n (i := 1) (x_dk dl_12_ok 61 rfl))))))
  (x_Tok2
  (x_Tok2
  (x_Lok (x_ca (I := xI) (q' := m_26) rfl (xr_callI (q' := m_26) (ix := 55) (n := 1) (in_t3 (List.mem_of_getElem? (i := 7) rfl) rfl) good_w (in_t1 (List.mem_of_getElem? (i := 10) rfl) rfl) (in_t3 (List.mem_of_getElem? (i := 5) rfl) rfl) (in_t3 (List.mem_of_getElem? (i := 6) rfl) rfl) rfl rfl (by decide +kernel) (by decide +kernel) (by decide +kernel) (x_dk dl_12_ok 62 rfl))))
  (x_Lok (x_st (I := xI) (xr_aastore (x_dk dl_12_ok 63 rfl)))))
  (x_Tok2
  (x_Lok (x_st (I := xI) (xr_iinc (i := 1) (n := 1) (x_dk dl_12_ok 64 rfl) (by decide +kernel) (by decide))))
  (x_Tok2
  (x_Lok (x_st (I := xI) (xr_goto (off := (-23)) (tg := 107) (x_dk dl_12_ok 65 rfl) (by decide))))
  (x_Lok (x_rt (I := xI) (k := 0) ⟨(x_dk dl_12_ok 66 rfl), rfl⟩))))))))
def tb_12 : Nat → xE := (x_T 68 tb_12_0 tb_12_33)
theorem tb_12_ok (K : xKx) : ∀ pc, x_EOq cls K xI m_12 pc (tb_12 pc) := (x_Tok2 (tb_12_0_ok K) (tb_12_33_ok K))
end
section
def dl_13 : List (Nat × Instr × Nat) := [(0, .iconst 0, 1), (1, .istore_n 1, 1), (2, .iload_n 1, 1), (3, .bipush 16, 2), (5, .if_icmp .ge 18, 3), (8, .aload_n 0, 1), (9, .getfield 40, 3), (12, .iload_n 1, 1), (13, .aaload, 1), (14, .invokevirtual 58, 3), (17, .iinc 1 1, 3), (20, .goto (-18), 3), (23, .aload_n 0, 1), (24, .getfield 44, 3), (27, .iconst (-1), 1), (28, .invokestatic 61, 3), (31, .aload_n 0, 1), (32, .iconst 0, 1), (33, .putfield 67, 3), (36, .return_, 1)]
set_option maxRecDepth 20000 in
theorem dl_13_ok : dl_13.all (fun q => decide (decode prog_5_method_2_code q.1 = .ok (q.2.1, q.2.2))) = true := by decide +kernel
def tb_13_0 : Nat → xE := (x_T 14 (x_T 5 (x_T 1 (x_T 0 (x_L 0 (0, xi_push (0, 0, 0) 1, 0, 0)) (x_L 1 (0, xi_stor 1 0 2, 0, 0))) (x_T 2 (x_L 2 (0, xi_load 1 0 3, 0, 0)) (x_T 3 (x_L 3 (0, xi_push (0, 16, 16) 5, 0, 0)) (x_L 5 (0, xi_if2 3 23 8, 0, 0))))) (x_T 9 (x_T 8 (x_L 8 (0, xi_load 0 2 9, 0, 0)) (x_L 9 (0, xi_getf 3 4 12, 0, 0))) (x_T 12 (x_L 12 (0, xi_load 1 0 13, 0, 0)) (x_T 13 (x_L 13 (0, xi_aald 14, 0, 0)) (x_L 14 (2, x_nof, 27, 1)))))) (x_T 27 (x_T 20 (x_T 17 (x_L 17 (0, xi_inc 1 1 20, 0, 0)) (x_L 20 (0, xi_goto 2, 0, 0))) (x_T 23 (x_L 23 (0, xi_load 0 2 24, 0, 0)) (x_T 24 (x_L 24 (0, xi_getf 3 5 27, 0, 0)) (x_L 27 (0, xi_push (0, (-1), (-1)) 28, 0, 0))))) (x_T 31 (x_T 28 (x_L 28 (2, x_nof, 33, 2)) (x_L 31 (0, xi_load 0 2 32, 0, 0))) (x_T 32 (x_L 32 (0, xi_push (0, 0, 0) 33, 0, 0)) (x_T 33 (x_L 33 (0, xi_putf 3 9 0 36, 0, 0)) (x_L 36 (1, x_nof, 0, 0)))))))
set_option maxRecDepth 20000 in
set_option maxHeartbeats 4000000 in
theorem tb_13_0_ok (K : xKx) : ∀ pc, x_EOq cls K xI m_13 pc (tb_13_0 pc) :=
  (x_Tok2
  (x_Tok2
  (x_Tok2
  (x_Tok2
  (x_Lok (x_st (I := xI) (xr_iconst (n := 0) (z := 0) (v := 0) (x_dk dl_13_ok 0 rfl) (by decide) (by decide))))
  (x_Lok (x_st (I := xI) (xr_istore_n (i := 1) (x_dk dl_13_ok 1 rfl) (by decide +kernel)))))
  (x_Tok2
  (x_Lok (x_st (I := xI) (xr_iload_n (i := 1) (x_dk dl_13_ok 2 rfl))))
  (x_Tok2
  (x_Lok (x_st (I := xI) (xr_bipush (n := 16) (z := 16) (v := 16) (x_dk dl_13_ok 3 rfl) (by decide) (by decide))))
  (x_Lok (x_st (I := xI) (xr_icmpge (off := 18) (tg := 23) (x_dk dl_13_ok 4 rfl) (by decide)))))))
  (x_Tok2
  (x_Tok2
  (x_Lok (x_st (I := xI) (xr_aload_n (i := 0) (x_dk dl_13_ok 5 rfl))))
  (x_Lok (x_st (I := xI) (xr_getf (ci := 3) (k := 4) (ix := 40) (N := 12) (C := RX3) (T := TX3) rfl in_X3 (by decide) (in_t3 (List.mem_of_getElem? (i := 96) rfl) rfl) (x_dk dl_13_ok 6 rfl)))))
  (x_Tok2
  (x_Lok (x_st (I := xI) (xr_iload_n (i := 1) (x_dk dl_13_ok 7 rfl))))
  (x_Tok2
  (x_Lok (x_st (I := xI) (xr_aaload (x_dk dl_13_ok 8 rfl))))
  (x_Lok (x_ca (I := xI) (q' := m_27) rfl (xr_callV (q' := m_27) (ix := 58) (n := 0) (in_t4 (List.mem_of_getElem? (i := 98) rfl) rfl) good_w (in_t1 (List.mem_of_getElem? (i := 10) rfl) rfl) (in_t4 (List.mem_of_getElem? (i := 95) rfl) rfl) (in_t4 (List.mem_of_getElem? (i := 96) rfl) rfl) (in_t4 (List.mem_of_getElem? (i := 97) rfl) rfl) (by decide +kernel) (by decide +kernel) (by decide +kernel) (x_dk dl_13_ok 9 rfl))))))))
  (x_Tok2
  (x_Tok2
  (x_Tok2
  (x_Lok (x_st (I := xI) (xr_iinc (i := 1) (n := 1) (x_dk dl_13_ok 10 rfl) (by decide +kernel) (by decide))))
  (x_Lok (x_st (I := xI) (xr_goto (off := (-18)) (tg := 2) (x_dk dl_13_ok 11 rfl) (by decide)))))
  (x_Tok2
  (x_Lok (x_st (I := xI) (xr_aload_n (i := 0) (x_dk dl_13_ok 12 rfl))))
  (x_Tok2
  (x_Lok (x_st (I := xI) (xr_getf (ci := 3) (k := 5) (ix := 44) (N := 12) (C := RX3) (T := TX3) rfl in_X3 (by decide) (in_t3 (List.mem_of_getElem? (i := 98) rfl) rfl) (x_dk dl_13_ok 13 rfl))))
  (x_Lok (x_st (I := xI) (xr_iconst (n := (-1)) (z := (-1)) (v := (-1)) (x_dk dl_13_ok 14 rfl) (by decide) (by decide)))))))
  (x_Tok2
  (x_Tok2
  (x_Lok (x_ca (I := xI) (q' := m_33) rfl (xr_callS (q' := m_33) (ix := 61) (n := 2) (in_t4 (List.mem_of_getElem? (i := 9) rfl) rfl) good_w (in_t1 (List.mem_of_getElem? (i := 13) rfl) rfl) (in_t4 (List.mem_of_getElem? (i := 107) rfl) rfl) (in_t4 (List.mem_of_getElem? (i := 8) rfl) rfl) (by decide +kernel) (by decide +kernel) (x_dk dl_13_ok 15 rfl))))
  (x_Lok (x_st (I := xI) (xr_aload_n (i := 0) (x_dk dl_13_ok 16 rfl)))))
  (x_Tok2
  (x_Lok (x_st (I := xI) (xr_iconst (n := 0) (z := 0) (v := 0) (x_dk dl_13_ok 17 rfl) (by decide) (by decide))))
  (x_Tok2
  (x_Lok (x_st (I := xI) (xr_putf (ci := 3) (k := 9) (ix := 67) (N := 12) (fk := 0) (C := RX3) (T := TX3) (ty0 := tyX3) (ty := .int) rfl in_X3 tyX3_ok nmX3 (by decide) (in_t3 (List.mem_of_getElem? (i := 103) rfl) rfl) rfl rfl x_fit_int (x_dk dl_13_ok 18 rfl))))
  (x_Lok (x_rt (I := xI) (k := 0) ⟨(x_dk dl_13_ok 19 rfl), rfl⟩)))))))
def tb_13 : Nat → xE := tb_13_0
theorem tb_13_ok (K : xKx) : ∀ pc, x_EOq cls K xI m_13 pc (tb_13 pc) := tb_13_0_ok K
def dl_14 : List (Nat × Instr × Nat) := [(0, .aload_n 0, 1), (1, .invokespecial 3, 3), (4, .aload_n 0, 1), (5, .iconst 4, 1), (6, .newarray .int, 2), (8, .putfield 9, 3), (11, .aload_n 0, 1), (12, .iconst 4, 1), (13, .newarray .int, 2), (15, .putfield 15, 3), (18, .aload_n 0, 1), (19, .iconst 4, 1), (20, .newarray .int, 2), (22, .putfield 18, 3), (25, .aload_n 0, 1), (26, .iconst 4, 1), (27, .newarray .int, 2), (29, .putfield 21, 3), (32, .aload_n 0, 1), (33, .iconst 4, 1), (34, .newarray .int, 2), (36, .putfield 24, 3), (39, .aload_n 0, 1), (40, .iconst 4, 1), (41, .newarray .int, 2), (43, .putfield 27, 3), (46, .aload_n 0, 1), (47, .iconst 4, 1), (48, .newarray .int, 2), (50, .putfield 30, 3), (53, .aload_n 0, 1), (54, .iconst 4, 1), (55, .newarray .int, 2), (57, .putfield 33, 3), (60, .aload_n 0, 1), (61, .iconst 4, 1), (62, .newarray .int, 2), (64, .putfield 36, 3), (67, .aload_n 0, 1), (68, .iconst 4, 1), (69, .newarray .int, 2), (71, .putfield 39, 3), (74, .aload_n 0, 1), (75, .iconst 4, 1), (76, .bipush 32, 2), (78, .multianewarray 42 2, 4), (82, .putfield 44, 3), (85, .aload_n 0, 1), (86, .iconst 4, 1), (87, .newarray .int, 2), (89, .putfield 47, 3), (92, .aload_n 0, 1), (93, .bipush 32, 2), (95, .newarray .int, 2), (97, .putfield 50, 3), (100, .aload_n 0, 1), (101, .bipush 32, 2), (103, .newarray .int, 2), (105, .putfield 53, 3), (108, .aload_n 0, 1), (109, .bipush 32, 2), (111, .newarray .int, 2), (113, .putfield 56, 3), (116, .aload_n 0, 1), (117, .bipush 32, 2), (119, .newarray .int, 2), (121, .putfield 59, 3), (124, .aload_n 0, 1), (125, .bipush 32, 2), (127, .newarray .int, 2), (129, .putfield 62, 3), (132, .aload_n 0, 1), (133, .bipush 32, 2), (135, .iconst 4, 1), (136, .multianewarray 42 2, 4), (140, .putfield 65, 3), (143, .return_, 1)]
set_option maxRecDepth 20000 in
theorem dl_14_ok : dl_14.all (fun q => decide (decode prog_6_method_1_code q.1 = .ok (q.2.1, q.2.2))) = true := by decide +kernel
def tb_14_0 : Nat → xE := (x_T 32 (x_T 13 (x_T 5 (x_T 1 (x_T 0 (x_L 0 (0, xi_load 0 2 1, 0, 0)) (x_L 1 (0, xi_oi 4, 0, 0))) (x_T 4 (x_L 4 (0, xi_load 0 2 5, 0, 0)) (x_L 5 (0, xi_push (0, 4, 4) 6, 0, 0)))) (x_T 8 (x_T 6 (x_L 6 (0, xi_newa 1 0 (0, 0, 0) (xm_c m_14) (xm_s m_14) 8, 0, 0)) (x_L 8 (0, xi_putf 4 2 2 11, 0, 0))) (x_T 11 (x_L 11 (0, xi_load 0 2 12, 0, 0)) (x_T 12 (x_L 12 (0, xi_push (0, 4, 4) 13, 0, 0)) (x_L 13 (0, xi_newa 1 0 (0, 0, 0) (xm_c m_14) (xm_s m_14) 15, 0, 0)))))) (x_T 22 (x_T 18 (x_T 15 (x_L 15 (0, xi_putf 4 3 2 18, 0, 0)) (x_L 18 (0, xi_load 0 2 19, 0, 0))) (x_T 19 (x_L 19 (0, xi_push (0, 4, 4) 20, 0, 0)) (x_T 20 (x_L 20 (0, xi_newa 1 0 (0, 0, 0) (xm_c m_14) (xm_s m_14) 22, 0, 0)) (x_L 22 (0, xi_putf 4 4 2 25, 0, 0))))) (x_T 26 (x_T 25 (x_L 25 (0, xi_load 0 2 26, 0, 0)) (x_L 26 (0, xi_push (0, 4, 4) 27, 0, 0))) (x_T 27 (x_L 27 (0, xi_newa 1 0 (0, 0, 0) (xm_c m_14) (xm_s m_14) 29, 0, 0)) (x_T 29 (x_L 29 (0, xi_putf 4 5 2 32, 0, 0)) (x_L 32 (0, xi_load 0 2 33, 0, 0))))))) (x_T 47 (x_T 39 (x_T 34 (x_T 33 (x_L 33 (0, xi_push (0, 4, 4) 34, 0, 0)) (x_L 34 (0, xi_newa 1 0 (0, 0, 0) (xm_c m_14) (xm_s m_14) 36, 0, 0))) (x_T 36 (x_L 36 (0, xi_putf 4 6 2 39, 0, 0)) (x_L 39 (0, xi_load 0 2 40, 0, 0)))) (x_T 41 (x_T 40 (x_L 40 (0, xi_push (0, 4, 4) 41, 0, 0)) (x_L 41 (0, xi_newa 1 0 (0, 0, 0) (xm_c m_14) (xm_s m_14) 43, 0, 0))) (x_T 43 (x_L 43 (0, xi_putf 4 7 2 46, 0, 0)) (x_T 46 (x_L 46 (0, xi_load 0 2 47, 0, 0)) (x_L 47 (0, xi_push (0, 4, 4) 48, 0, 0)))))) (x_T 55 (x_T 50 (x_T 48 (x_L 48 (0, xi_newa 1 0 (0, 0, 0) (xm_c m_14) (xm_s m_14) 50, 0, 0)) (x_L 50 (0, xi_putf 4 8 2 53, 0, 0))) (x_T 53 (x_L 53 (0, xi_load 0 2 54, 0, 0)) (x_T 54 (x_L 54 (0, xi_push (0, 4, 4) 55, 0, 0)) (x_L 55 (0, xi_newa 1 0 (0, 0, 0) (xm_c m_14) (xm_s m_14) 57, 0, 0))))) (x_T 60 (x_T 57 (x_L 57 (0, xi_putf 4 9 2 60, 0, 0)) (x_L 60 (0, xi_load 0 2 61, 0, 0))) (x_T 61 (x_L 61 (0, xi_push (0, 4, 4) 62, 0, 0)) (x_T 62 (x_L 62 (0, xi_newa 1 0 (0, 0, 0) (xm_c m_14) (xm_s m_14) 64, 0, 0)) (x_L 64 (0, xi_putf 4 10 2 67, 0, 0))))))))
set_option maxRecDepth 20000 in
set_option maxHeartbeats 4000000 in
theorem tb_14_0_ok (K : xKx) : ∀ pc, x_EOq cls K xI m_14 pc (tb_14_0 pc) :=
  (x_Tok2
  (x_Tok2
  (x_Tok2
  (x_Tok2
  (x_Tok2
  (x_Lok (x_st (I := xI) (xr_aload_n (i := 0) (x_dk dl_14_ok 0 rfl))))
  (x_Lok (x_st (I := xI) (xr_oi (ix := 3) (in_t1 (List.mem_of_getElem? (i := 172) rfl) rfl) (in_t1 (List.mem_of_getElem? (i := 27) rfl) rfl) (in_t1 (List.mem_of_getElem? (i := 28) rfl) rfl) (x_dk dl_14_ok 1 rfl)))))
  (x_Tok2
  (x_Lok (x_st (I := xI) (xr_aload_n (i := 0) (x_dk dl_14_ok 2 rfl))))
  (x_Lok (x_st (I := xI) (xr_iconst (n := 4) (z := 4) (v := 4) (x_dk dl_14_ok 3 rfl) (by decide) (by decide))))))
  (x_Tok2
  (x_Tok2
  (x_Lok (x_st (I := xI) (xr_newa (kd := 1) (b := false) (ty := .int) rfl rfl (in_t1 (List.mem_of_getElem? (i := 64) rfl) rfl) (x_dk dl_14_ok 4 rfl))))
  (x_Lok (x_st (I := xI) (xr_putF (ci := 4) (k := 2) (ix := 9) (N := 20) (fk := 2) (C := RX4) (T := TX4) (ty0 := tyX4) (ty := .array .int) rfl in_X4 tyX4_ok nmX4 (by decide) (in_t1 (List.mem_of_getElem? (i := 179) rfl) rfl) rfl rfl rfl rfl x_fit_arr (x_dk dl_14_ok 5 rfl)))))
  (x_Tok2
  (x_Lok (x_st (I := xI) (xr_aload_n (i := 0) (x_dk dl_14_ok 6 rfl))))
  (x_Tok2
  (x_Lok (x_st (I := xI) (xr_iconst (n := 4) (z := 4) (v := 4) (x_dk dl_14_ok 7 rfl) (by decide) (by decide))))
  (x_Lok (x_st (I := xI) (xr_newa (kd := 1) (b := false) (ty := .int) rfl rfl (in_t1 (List.mem_of_getElem? (i := 64) rfl) rfl) (x_dk dl_14_ok 8 rfl))))))))
  (x_Tok2
  (x_Tok2
  (x_Tok2
  (x_Lok (x_st (I := xI) (xr_putF (ci := 4) (k := 3) (ix := 15) (N := 20) (fk := 2) (C := RX4) (T := TX4) (ty0 := tyX4) (ty := .array .int) rfl in_X4 tyX4_ok nmX4 (by decide) (in_t1 (List.mem_of_getElem? (i := 181) rfl) rfl) rfl rfl rfl rfl x_fit_arr (x_dk dl_14_ok 9 rfl))))
  (x_Lok (x_st (I := xI) (xr_aload_n (i := 0) (x_dk dl_14_ok 10 rfl)))))
  (x_Tok2
  (x_Lok (x_st (I := xI) (xr_iconst (n := 4) (z := 4) (v := 4) (x_dk dl_14_ok 11 rfl) (by decide) (by decide))))
  (x_Tok2
  (x_Lok (x_st (I := xI) (xr_newa (kd := 1) (b := false) (ty := .int) rfl rfl (in_t1 (List.mem_of_getElem? (i := 64) rfl) rfl) (x_dk dl_14_ok 12 rfl))))
  (x_Lok (x_st (I := xI) (xr_putF (ci := 4) (k := 4) (ix := 18) (N := 20) (fk := 2) (C := RX4) (T := TX4) (ty0 := tyX4) (ty := .array .int) rfl in_X4 tyX4_ok nmX4 (by decide) (in_t1 (List.mem_of_getElem? (i := 183) rfl) rfl) rfl rfl rfl rfl x_fit_arr (x_dk dl_14_ok 13 rfl)))))))
  (x_Tok2
  (x_Tok2
  (x_Lok (x_st (I := xI) (xr_aload_n (i := 0) (x_dk dl_14_ok 14 rfl))))
  (x_Lok (x_st (I := xI) (xr_iconst (n := 4) (z := 4) (v := 4) (x_dk dl_14_ok 15 rfl) (by decide) (by decide)))))
  (x_Tok2
  (x_Lok (x_st (I := xI) (xr_newa (kd := 1) (b := false) (ty := .int) rfl rfl (in_t1 (List.mem_of_getElem? (i := 64) rfl) rfl) (x_dk dl_14_ok 16 rfl))))
  (x_Tok2
  (x_Lok (x_st (I := xI) (xr_putF (ci := 4) (k := 5) (ix := 21) (N := 20) (fk := 2) (C := RX4) (T := TX4) (ty0 := tyX4) (ty := .array .int) rfl in_X4 tyX4_ok nmX4 (by decide) (in_t1 (List.mem_of_getElem? (i := 185) rfl) rfl) rfl rfl rfl rfl x_fit_arr (x_dk dl_14_ok 17 rfl))))
  (x_Lok (x_st (I := xI) (xr_aload_n (i := 0) (x_dk dl_14_ok 18 rfl)))))))))
  (x_Tok2
  (x_Tok2
  (x_Tok2
  (x_Tok2
  (x_Lok (x_st (I := xI) (xr_iconst (n := 4) (z := 4) (v := 4) (x_dk dl_14_ok 19 rfl) (by decide) (by decide))))
  (x_Lok (x_st (I := xI) (xr_newa (kd := 1) (b := false) (ty := .int) rfl rfl (in_t1 (List.mem_of_getElem? (i := 64) rfl) rfl) (x_dk dl_14_ok 20 rfl)))))
  (x_Tok2
  (x_Lok (x_st (I := xI) (xr_putF (ci := 4) (k := 6) (ix := 24) (N := 20) (fk := 2) (C := RX4) (T := TX4) (ty0 := tyX4) (ty := .array .int) rfl in_X4 tyX4_ok nmX4 (by decide) (in_t1 (List.mem_of_getElem? (i := 187) rfl) rfl) rfl rfl rfl rfl x_fit_arr (x_dk dl_14_ok 21 rfl))))
  (x_Lok (x_st (I := xI) (xr_aload_n (i := 0) (x_dk dl_14_ok 22 rfl))))))
  (x_Tok2
  (x_Tok2
  (x_Lok (x_st (I := xI) (xr_iconst (n := 4) (z := 4) (v := 4) (x_dk dl_14_ok 23 rfl) (by decide) (by decide))))
  (x_Lok (x_st (I := xI) (xr_newa (kd := 1) (b := false) (ty := .int) rfl rfl (in_t1 (List.mem_of_getElem? (i := 64) rfl) rfl) (x_dk dl_14_ok 24 rfl)))))
  (x_Tok2
  (x_Lok (x_st (I := xI) (xr_putF (ci := 4) (k := 7) (ix := 27) (N := 20) (fk := 2) (C := RX4) (T := TX4) (ty0 := tyX4) (ty := .array .int) rfl in_X4 tyX4_ok nmX4 (by decide) (in_t1 (List.mem_of_getElem? (i := 189) rfl) rfl) rfl rfl rfl rfl x_fit_arr (x_dk dl_14_ok 25 rfl))))
  (x_Tok2
  (x_Lok (x_st (I := xI) (xr_aload_n (i := 0) (x_dk dl_14_ok 26 rfl))))
  (x_Lok (x_st (I := xI) (xr_iconst (n := 4) (z := 4) (v := 4) (x_dk dl_14_ok 27 rfl) (by decide) (by decide))))))))
  (x_Tok2
  (x_Tok2
  (x_Tok2
  (x_Lok (x_st (I := xI) (xr_newa (kd := 1) (b := false) (ty := .int) rfl rfl (in_t1 (List.mem_of_getElem? (i := 64) rfl) rfl) (x_dk dl_14_ok 28 rfl))))
  (x_Lok (x_st (I := xI) (xr_putF (ci := 4) (k := 8) (ix := 30) (N := 20) (fk := 2) (C := RX4) (T := TX4) (ty0 := tyX4) (ty := .array .int) rfl in_X4 tyX4_ok nmX4 (by decide) (in_t1 (List.mem_of_getElem? (i := 190) rfl) rfl) rfl rfl rfl rfl x_fit_arr (x_dk dl_14_ok 29 rfl)))))
  (x_Tok2
  (x_Lok (x_st (I := xI) (xr_aload_n (i := 0) (x_dk dl_14_ok 30 rfl))))
  (x_Tok2
  (x_Lok (x_st (I := xI) (xr_iconst (n := 4) (z := 4) (v := 4) (x_dk dl_14_ok 31 rfl) (by decide) (by decide))))
  (x_Lok (x_st (I := xI) (xr_newa (kd := 1) (b := false) (ty := .int) rfl rfl (in_t1 (List.mem_of_getElem? (i := 64) rfl) rfl) (x_dk dl_14_ok 32 rfl)))))))
  (x_Tok2
  (x_Tok2
  (x_Lok (x_st (I := xI) (xr_putF (ci := 4) (k := 9) (ix := 33) (N := 20) (fk := 2) (C := RX4) (T := TX4) (ty0 := tyX4) (ty := .array .int) rfl in_X4 tyX4_ok nmX4 (by decide) (in_t1 (List.mem_of_getElem? (i := 191) rfl) rfl) rfl rfl rfl rfl x_fit_arr (x_dk dl_14_ok 33 rfl))))
  (x_Lok (x_st (I := xI) (xr_aload_n (i := 0) (x_dk dl_14_ok 34 rfl)))))
  (x_Tok2
  (x_Lok (x_st (I := xI) (xr_iconst (n := 4) (z := 4) (v := 4) (x_dk dl_14_ok 35 rfl) (by decide) (by decide))))
  (x_Tok2
  (x_Lok (x_st (I := xI) (xr_newa (kd := 1) (b := false) (ty := .int) rfl rfl (in_t1 (List.mem_of_getElem? (i := 64) rfl) rfl) (x_dk dl_14_ok 36 rfl))))
  (x_Lok (x_st (I := xI) (xr_putF (ci := 4) (k := 10) (ix := 36) (N := 20) (fk := 2) (C := RX4) (T := TX4) (ty0 := tyX4) (ty := .array .int) rfl in_X4 tyX4_ok nmX4 (by decide) (in_t1 (List.mem_of_getElem? (i := 192) rfl) rfl) rfl rfl rfl rfl x_fit_arr (x_dk dl_14_ok 37 rfl))))))))))
def tb_14_38 : Nat → xE := (x_T 101 (x_T 82 (x_T 71 (x_T 68 (x_T 67 (x_L 67 (0, xi_load 0 2 68, 0, 0)) (x_L 68 (0, xi_push (0, 4, 4) 69, 0, 0))) (x_T 69 (x_L 69 (0, xi_newa 1 0 (0, 0, 0) (xm_c m_14) (xm_s m_14) 71, 0, 0)) (x_L 71 (0, xi_putf 4 11 2 74, 0, 0)))) (x_T 75 (x_T 74 (x_L 74 (0, xi_load 0 2 75, 0, 0)) (x_L 75 (0, xi_push (0, 4, 4) 76, 0, 0))) (x_T 76 (x_L 76 (0, xi_push (0, 32, 32) 78, 0, 0)) (x_T 78 (x_L 78 (0, xi_mna (xm_c m_14) (xm_s m_14) 82, 0, 0)) (x_L 82 (0, xi_putf 4 12 2 85, 0, 0)))))) (x_T 92 (x_T 86 (x_T 85 (x_L 85 (0, xi_load 0 2 86, 0, 0)) (x_L 86 (0, xi_push (0, 4, 4) 87, 0, 0))) (x_T 87 (x_L 87 (0, xi_newa 1 0 (0, 0, 0) (xm_c m_14) (xm_s m_14) 89, 0, 0)) (x_T 89 (x_L 89 (0, xi_putf 4 13 2 92, 0, 0)) (x_L 92 (0, xi_load 0 2 93, 0, 0))))) (x_T 95 (x_T 93 (x_L 93 (0, xi_push (0, 32, 32) 95, 0, 0)) (x_L 95 (0, xi_newa 1 0 (0, 0, 0) (xm_c m_14) (xm_s m_14) 97, 0, 0))) (x_T 97 (x_L 97 (0, xi_putf 4 14 2 100, 0, 0)) (x_T 100 (x_L 100 (0, xi_load 0 2 101, 0, 0)) (x_L 101 (0, xi_push (0, 32, 32) 103, 0, 0))))))) (x_T 121 (x_T 111 (x_T 105 (x_T 103 (x_L 103 (0, xi_newa 1 0 (0, 0, 0) (xm_c m_14) (xm_s m_14) 105, 0, 0)) (x_L 105 (0, xi_putf 4 15 2 108, 0, 0))) (x_T 108 (x_L 108 (0, xi_load 0 2 109, 0, 0)) (x_T 109 (x_L 109 (0, xi_push (0, 32, 32) 111, 0, 0)) (x_L 111 (0, xi_newa 1 0 (0, 0, 0) (xm_c m_14) (xm_s m_14) 113, 0, 0))))) (x_T 116 (x_T 113 (x_L 113 (0, xi_putf 4 16 2 116, 0, 0)) (x_L 116 (0, xi_load 0 2 117, 0, 0))) (x_T 117 (x_L 117 (0, xi_push (0, 32, 32) 119, 0, 0)) (x_T 119 (x_L 119 (0, xi_newa 1 0 (0, 0, 0) (xm_c m_14) (xm_s m_14) 121, 0, 0)) (x_L 121 (0, xi_putf 4 17 2 124, 0, 0)))))) (x_T 132 (x_T 125 (x_T 124 (x_L 124 (0, xi_load 0 2 125, 0, 0)) (x_L 125 (0, xi_push (0, 32, 32) 127, 0, 0))) (x_T 127 (x_L 127 (0, xi_newa 1 0 (0, 0, 0) (xm_c m_14) (xm_s m_14) 129, 0, 0)) (x_T 129 (x_L 129 (0, xi_putf 4 18 2 132, 0, 0)) (x_L 132 (0, xi_load 0 2 133, 0, 0))))) (x_T 135 (x_T 133 (x_L 133 (0, xi_push (0, 32, 32) 135, 0, 0)) (x_L 135 (0, xi_push (0, 4, 4) 136, 0, 0))) (x_T 136 (x_L 136 (0, xi_mna (xm_c m_14) (xm_s m_14) 140, 0, 0)) (x_T 140 (x_L 140 (0, xi_putf 4 19 2 143, 0, 0)) (x_L 143 (1, x_nof, 0, 0))))))))
set_option maxRecDepth 20000 in
set_option maxHeartbeats 4000000 in
theorem tb_14_38_ok (K : xKx) : ∀ pc, x_EOq cls K xI m_14 pc (tb_14_38 pc) :=
  (x_Tok2
  (x_Tok2
  (x_Tok2
  (x_Tok2
  (x_Tok2
  (x_Lok (x_st (I := xI) (xr_aload_n (i := 0) (x_dk dl_14_ok 38 rfl))))
  (x_Lok (x_st (I := xI) (xr_iconst (n := 4) (z := 4) (v := 4) (x_dk dl_14_ok 39 rfl) (by decide) (by decide)))))
  (x_Tok2
  (x_Lok (x_st (I := xI) (xr_newa (kd := 1) (b := false) (ty := .int) rfl rfl (in_t1 (List.mem_of_getElem? (i := 64) rfl) rfl) (x_dk dl_14_ok 40 rfl))))
  (x_Lok (x_st (I := xI) (xr_putF (ci := 4) (k := 11) (ix := 39) (N := 20) (fk := 2) (C := RX4) (T := TX4) (ty0 := tyX4) (ty := .array .int) rfl in_X4 tyX4_ok nmX4 (by decide) (in_t1 (List.mem_of_getElem? (i := 193) rfl) rfl) rfl rfl rfl rfl x_fit_arr (x_dk dl_14_ok 41 rfl))))))
  (x_Tok2
  (x_Tok2
  (x_Lok (x_st (I := xI) (xr_aload_n (i := 0) (x_dk dl_14_ok 42 rfl))))
  (x_Lok (x_st (I := xI) (xr_iconst (n := 4) (z := 4) (v := 4) (x_dk dl_14_ok 43 rfl) (by decide) (by decide)))))
  (x_Tok2
  (x_Lok (x_st (I := xI) (xr_bipush (n := 32) (z := 32) (v := 32) (x_dk dl_14_ok 44 rfl) (by decide) (by decide))))
  (x_Tok2
  (x_Lok (x_st (I := xI) (xr_mna (ix := 42) (C := "[[I") (by decide +kernel) (in_t1 (List.mem_of_getElem? (i := 173) rfl) rfl) (in_t1 (List.mem_of_getElem? (i := 64) rfl) rfl) (x_dk dl_14_ok 45 rfl))))
  (x_Lok (x_st (I := xI) (xr_putF (ci := 4) (k := 12) (ix := 44) (N := 20) (fk := 2) (C := RX4) (T := TX4) (ty0 := tyX4) (ty := .array (.array .int)) rfl in_X4 tyX4_ok nmX4 (by decide) (in_t1 (List.mem_of_getElem? (i := 194) rfl) rfl) rfl rfl rfl rfl x_fit_arr (x_dk dl_14_ok 46 rfl))))))))
  (x_Tok2
  (x_Tok2
  (x_Tok2
  (x_Lok (x_st (I := xI) (xr_aload_n (i := 0) (x_dk dl_14_ok 47 rfl))))
  (x_Lok (x_st (I := xI) (xr_iconst (n := 4) (z := 4) (v := 4) (x_dk dl_14_ok 48 rfl) (by decide) (by decide)))))
  (x_Tok2
  (x_Lok (x_st (I := xI) (xr_newa (kd := 1) (b := false) (ty := .int) rfl rfl (in_t1 (List.mem_of_getElem? (i := 64) rfl) rfl) (x_dk dl_14_ok 49 rfl))))
  (x_Tok2
  (x_Lok (x_st (I := xI) (xr_putF (ci := 4) (k := 13) (ix := 47) (N := 20) (fk := 2) (C := RX4) (T := TX4) (ty0 := tyX4) (ty := .array .int) rfl in_X4 tyX4_ok nmX4 (by decide) (in_t1 (List.mem_of_getElem? (i := 195) rfl) rfl) rfl rfl rfl rfl x_fit_arr (x_dk dl_14_ok 50 rfl))))
  (x_Lok (x_st (I := xI) (xr_aload_n (i := 0) (x_dk dl_14_ok 51 rfl)))))))
  (x_Tok2
  (x_Tok2
  (x_Lok (x_st (I := xI) (xr_bipush (n := 32) (z := 32) (v := 32) (x_dk dl_14_ok 52 rfl) (by decide) (by decide))))
  (x_Lok (x_st (I := xI) (xr_newa (kd := 1) (b := false) (ty := .int) rfl rfl (in_t1 (List.mem_of_getElem? (i := 64) rfl) rfl) (x_dk dl_14_ok 53 rfl)))))
  (x_Tok2
  (x_Lok (x_st (I := xI) (xr_putF (ci := 4) (k := 14) (ix := 50) (N := 20) (fk := 2) (C := RX4) (T := TX4) (ty0 := tyX4) (ty := .array .int) rfl in_X4 tyX4_ok nmX4 (by decide) (in_t1 (List.mem_of_getElem? (i := 196) rfl) rfl) rfl rfl rfl rfl x_fit_arr (x_dk dl_14_ok 54 rfl))))
  (x_Tok2
  (x_Lok (x_st (I := xI) (xr_aload_n (i := 0) (x_dk dl_14_ok 55 rfl))))
  (x_Lok (x_st (I := xI) (xr_bipush (n := 32) (z := 32) (v := 32) (x_dk dl_14_ok 56 rfl) (by decide) (by decide)))))))))
  (x_Tok2
  (x_Tok2
  (x_Tok2
  (x_Tok2
  (x_Lok (x_st (I := xI) (xr_newa (kd := 1) (b := false) (ty := .int) rfl rfl (in_t1 (List.mem_of_getElem? (i := 64) rfl) rfl) (x_dk dl_14_ok 57 rfl))))
  (x_Lok (x_st (I := xI) (xr_putF (ci := 4) (k := 15) (ix := 53) (N := 20) (fk := 2) (C := RX4) (T := TX4) (ty0 := tyX4) (ty := .array .int) rfl in_X4 tyX4_ok nmX4 (by decide) (in_t1 (List.mem_of_getElem? (i := 198) rfl) rfl) rfl rfl rfl rfl x_fit_arr (x_dk dl_14_ok 58 rfl)))))
  (x_Tok2
  (x_Lok (x_st (I := xI) (xr_aload_n (i := 0) (x_dk dl_14_ok 59 rfl))))
  (x_Tok2
  (x_Lok (x_st (I := xI) (xr_bipush (n := 32) (z := 32) (v := 32) (x_dk dl_14_ok 60 rfl) (by decide) (by decide))))
  (x_Lok (x_st (I := xI) (xr_newa (kd := 1) (b := false) (ty := .int) rfl rfl (in_t1 (List.mem_of_getElem? (i := 64) rfl) rfl) (x_dk dl_14_ok 61 rfl)))))))
  (x_Tok2
  (x_Tok2
  (x_Lok (x_st (I := xI) (xr_putF (ci := 4) (k := 16) (ix := 56) (N := 20) (fk := 2) (C := RX4) (T := TX4) (ty0 := tyX4) (ty := .array .int) rfl in_X4 tyX4_ok nmX4 (by decide) (in_t1 (List.mem_of_getElem? (i := 200) rfl) rfl) rfl rfl rfl rfl x_fit_arr (x_dk dl_14_ok 62 rfl))))
  (x_Lok (x_st (I := xI) (xr_aload_n (i := 0) (x_dk dl_14_ok 63 rfl)))))
  (x_Tok2
  (x_Lok (x_st (I := xI) (xr_bipush (n := 32) (z := 32) (v := 32) (x_dk dl_14_ok 64 rfl) (by decide) (by decide))))
  (x_Tok2
  (x_Lok (x_st (I := xI) (xr_newa (kd := 1) (b := false) (ty := .int) rfl rfl (in_t1 (List.mem_of_getElem? (i := 64) rfl) rfl) (x_dk dl_14_ok 65 rfl))))
  (x_Lok (x_st (I := xI) (xr_putF (ci := 4) (k := 17) (ix := 59) (N := 20) (fk := 2) (C := RX4) (T := TX4) (ty0 := tyX4) (ty := .array .int) rfl in_X4 tyX4_ok nmX4 (by decide) (in_t1 (List.mem_of_getElem? (i := 202) rfl) rfl) rfl rfl rfl rfl x_fit_arr (x_dk dl_14_ok 66 rfl))))))))
  (x_Tok2
  (x_Tok2
  (x_Tok2
  (x_Lok (x_st (I := xI) (xr_aload_n (i := 0) (x_dk dl_14_ok 67 rfl))))
  (x_Lok (x_st (I := xI) (xr_bipush (n := 32) (z := 32) (v := 32) (x_dk dl_14_ok 68 rfl) (by decide) (by decide)))))
  (x_Tok2
  (x_Lok (x_st (I := xI) (xr_newa (kd := 1) (b := false) (ty := .int) rfl rfl (in_t1 (List.mem_of_getElem? (i := 64) rfl) rfl) (x_dk dl_14_ok 69 rfl))))
  (x_Tok2
  (x_Lok (x_st (I := xI) (xr_putF (ci := 4) (k := 18) (ix := 62) (N := 20) (fk := 2) (C := RX4) (T := TX4) (ty0 := tyX4) (ty := .array .int) rfl in_X4 tyX4_ok nmX4 (by decide) (in_t1 (List.mem_of_getElem? (i := 203) rfl) rfl) rfl rfl rfl rfl x_fit_arr (x_dk dl_14_ok 70 rfl))))
  (x_Lok (x_st (I := xI) (xr_aload_n (i := 0) (x_dk dl_14_ok 71 rfl)))))))
  (x_Tok2
  (x_Tok2
  (x_Lok (x_st (I := xI) (xr_bipush (n := 32) (z := 32) (v := 32) (x_dk dl_14_ok 72 rfl) (by decide) (by decide))))
  (x_Lok (x_st (I := xI) (xr_iconst (n := 4) (z := 4) (v := 4) (x_dk dl_14_ok 73 rfl) (by decide) (by decide)))))
  (x_Tok2
  (x_Lok (x_st (I := xI) (xr_mna (ix := 42) (C := "[[I") (by decide +kernel) (in_t1 (List.mem_of_getElem? (i := 173) rfl) rfl) (in_t1 (List.mem_of_getElem? (i := 64) rfl) rfl) (x_dk dl_14_ok 74 rfl))))
  (x_Tok2
  (x_Lok (x_st (I := xI) (xr_putF (ci := 4) (k := 19) (ix := 65) (N := 20) (fk := 2) (C := RX4) (T := TX4) (ty0 := tyX4) (ty := .array (.array .int)) rfl in_X4 tyX4_ok nmX4 (by decide) (in_t1 (List.mem_of_getElem? (i := 204) rfl) rfl) rfl rfl rfl rfl x_fit_arr (x_dk dl_14_ok 75 rfl))))
  (x_Lok (x_rt (I := xI) (k := 0) ⟨(x_dk dl_14_ok 76 rfl), rfl⟩))))))))
def tb_14 : Nat → xE := (x_T 64 tb_14_0 tb_14_38)
theorem tb_14_ok (K : xKx) : ∀ pc, x_EOq cls K xI m_14 pc (tb_14 pc) := (x_Tok2 (tb_14_0_ok K) (tb_14_38_ok K))
def dl_15 : List (Nat × Instr × Nat) := [(0, .iconst 0, 1), (1, .istore_n 1, 1), (2, .iload_n 1, 1), (3, .aload_n 0, 1), (4, .getfield 68, 3), (7, .if_icmp .ge 16, 3), (23, .iconst 0, 1), (24, .istore_n 1, 1), (25, .iload_n 1, 1), (26, .aload_n 0, 1), (27, .getfield 79, 3), (30, .if_icmp .ge 14, 3), (44, .return_, 1)]
set_option maxRecDepth 20000 in
theorem dl_15_ok : dl_15.all (fun q => decide (decode prog_6_method_6_code q.1 = .ok (q.2.1, q.2.2))) = true := by decide +kernel
def tb_15_0 : Nat → xE := (x_T 7 (x_T 2 (x_T 0 (x_L 0 (0, xi_push (0, 0, 0) 1, 0, 0)) (x_T 1 (x_L 1 (0, xi_stor 1 0 2, 0, 0)) (x_L 2 (0, xi_load 1 0 3, 0, 0)))) (x_T 3 (x_L 3 (0, xi_load 0 2 4, 0, 0)) (x_T 4 (x_L 4 (0, xi_getf 4 0 7, 0, 0)) (x_L 7 (0, xi_if2 3 23 10, 0, 0))))) (x_T 25 (x_T 23 (x_L 23 (0, xi_push (0, 0, 0) 24, 0, 0)) (x_T 24 (x_L 24 (0, xi_stor 1 0 25, 0, 0)) (x_L 25 (0, xi_load 1 0 26, 0, 0)))) (x_T 27 (x_T 26 (x_L 26 (0, xi_load 0 2 27, 0, 0)) (x_L 27 (0, xi_getf 4 1 30, 0, 0))) (x_T 30 (x_L 30 (0, xi_if2 3 44 33, 0, 0)) (x_L 44 (1, x_nof, 0, 0))))))
set_option maxRecDepth 20000 in
set_option maxHeartbeats 4000000 in
theorem tb_15_0_ok (K : xKx) : ∀ pc, x_EOq cls K xI m_15 pc (tb_15_0 pc) :=
  (x_Tok2
  (x_Tok2
  (x_Tok2
  (x_Lok (x_st (I := xI) (xr_iconst (n := 0) (z := 0) (v := 0) (x_dk dl_15_ok 0 rfl) (by decide) (by decide))))
  (x_Tok2
  (x_Lok (x_st (I := xI) (xr_istore_n (i := 1) (x_dk dl_15_ok 1 rfl) (by decide +kernel))))
  (x_Lok (x_st (I := xI) (xr_iload_n (i := 1) (x_dk dl_15_ok 2 rfl))))))
  (x_Tok2
  (x_Lok (x_st (I := xI) (xr_aload_n (i := 0) (x_dk dl_15_ok 3 rfl))))
  (x_Tok2
  (x_Lok (x_st (I := xI) (xr_getf (ci := 4) (k := 0) (ix := 68) (N := 20) (C := RX4) (T := TX4) rfl in_X4 (by decide) (in_t1 (List.mem_of_getElem? (i := 175) rfl) rfl) (x_dk dl_15_ok 4 rfl))))
  (x_Lok (x_st (I := xI) (xr_icmpge (off := 16) (tg := 23) (x_dk dl_15_ok 5 rfl) (by decide)))))))
  (x_Tok2
  (x_Tok2
  (x_Lok (x_st (I := xI) (xr_iconst (n := 0) (z := 0) (v := 0) (x_dk dl_15_ok 6 rfl) (by decide) (by decide))))
  (x_Tok2
  (x_Lok (x_st (I := xI) (xr_istore_n (i := 1) (x_dk dl_15_ok 7 rfl) (by decide +kernel))))
  (x_Lok (x_st (I := xI) (xr_iload_n (i := 1) (x_dk dl_15_ok 8 rfl))))))
  (x_Tok2
  (x_Tok2
  (x_Lok (x_st (I := xI) (xr_aload_n (i := 0) (x_dk dl_15_ok 9 rfl))))
  (x_Lok (x_st (I := xI) (xr_getf (ci := 4) (k := 1) (ix := 79) (N := 20) (C := RX4) (T := TX4) rfl in_X4 (by decide) (in_t1 (List.mem_of_getElem? (i := 177) rfl) rfl) (x_dk dl_15_ok 10 rfl)))))
  (x_Tok2
  (x_Lok (x_st (I := xI) (xr_icmpge (off := 14) (tg := 44) (x_dk dl_15_ok 11 rfl) (by decide))))
  (x_Lok (x_rt (I := xI) (k := 0) ⟨(x_dk dl_15_ok 12 rfl), rfl⟩))))))
def tb_15 : Nat → xE := tb_15_0
theorem tb_15_ok (K : xKx) : ∀ pc, x_EOq cls K xI m_15 pc (tb_15 pc) := tb_15_0_ok K
def dl_16 : List (Nat × Instr × Nat) := [(0, .aload_n 0, 1), (1, .invokespecial 3, 3), (4, .return_, 1)]
set_option maxRecDepth 20000 in
theorem dl_16_ok : dl_16.all (fun q => decide (decode prog_7_method_1_code q.1 = .ok (q.2.1, q.2.2))) = true := by decide +kernel
def tb_16_0 : Nat → xE := (x_T 0 (x_L 0 (0, xi_load 0 2 1, 0, 0)) (x_T 1 (x_L 1 (0, xi_oi 4, 0, 0)) (x_L 4 (1, x_nof, 0, 0))))
set_option maxRecDepth 20000 in
set_option maxHeartbeats 4000000 in
theorem tb_16_0_ok (K : xKx) : ∀ pc, x_EOq cls K xI m_16 pc (tb_16_0 pc) :=
  (x_Tok2
  (x_Lok (x_st (I := xI) (xr_aload_n (i := 0) (x_dk dl_16_ok 0 rfl))))
  (x_Tok2
  (x_Lok (x_st (I := xI) (xr_oi (ix := 3) (in_t2 (List.mem_of_getElem? (i := 87) rfl) rfl) (in_t1 (List.mem_of_getElem? (i := 27) rfl) rfl) (in_t1 (List.mem_of_getElem? (i := 28) rfl) rfl) (x_dk dl_16_ok 1 rfl))))
  (x_Lok (x_rt (I := xI) (k := 0) ⟨(x_dk dl_16_ok 2 rfl), rfl⟩))))
def tb_16 : Nat → xE := tb_16_0
theorem tb_16_ok (K : xKx) : ∀ pc, x_EOq cls K xI m_16 pc (tb_16 pc) := tb_16_0_ok K
def dl_17 : List (Nat × Instr × Nat) := [(0, .aload_n 0, 1), (1, .invokespecial 3, 3), (4, .aload_n 0, 1), (5, .bipush 6, 2), (7, .newarray .int, 2), (9, .putfield 9, 3), (12, .aload_n 0, 1), (13, .bipush 6, 2), (15, .newarray .int, 2), (17, .putfield 15, 3), (20, .aload_n 0, 1), (21, .bipush 6, 2), (23, .newarray .int, 2), (25, .putfield 18, 3), (28, .aload_n 0, 1), (29, .bipush 6, 2), (31, .newarray .int, 2), (33, .putfield 21, 3), (36, .aload_n 0, 1), (37, .sipush 1000, 3), (40, .newarray .int, 2), (42, .putfield 24, 3), (45, .aload_n 0, 1), (46, .sipush 1000, 3), (49, .newarray .int, 2), (51, .putfield 27, 3), (54, .aload_n 0, 1), (55, .ldc 30, 2), (57, .newarray .byte, 2), (59, .putfield 31, 3), (62, .aload_n 0, 1), (63, .bipush 60, 2), (65, .newarray .int, 2), (67, .putfield 35, 3), (70, .aload_n 0, 1), (71, .bipush 60, 2), (73, .newarray .int, 2), (75, .putfield 38, 3), (78, .return_, 1)]
set_option maxRecDepth 20000 in
theorem dl_17_ok : dl_17.all (fun q => decide (decode prog_8_method_1_code q.1 = .ok (q.2.1, q.2.2))) = true := by decide +kernel
def tb_17_0 : Nat → xE := (x_T 36 (x_T 15 (x_T 5 (x_T 1 (x_T 0 (x_L 0 (0, xi_load 0 2 1, 0, 0)) (x_L 1 (0, xi_oi 4, 0, 0))) (x_T 4 (x_L 4 (0, xi_load 0 2 5, 0, 0)) (x_L 5 (0, xi_push (0, 6, 6) 7, 0, 0)))) (x_T 9 (x_T 7 (x_L 7 (0, xi_newa 1 0 (0, 0, 0) (xm_c m_17) (xm_s m_17) 9, 0, 0)) (x_L 9 (0, xi_putf 6 4 2 12, 0, 0))) (x_T 12 (x_L 12 (0, xi_load 0 2 13, 0, 0)) (x_T 13 (x_L 13 (0, xi_push (0, 6, 6) 15, 0, 0)) (x_L 15 (0, xi_newa 1 0 (0, 0, 0) (xm_c m_17) (xm_s m_17) 17, 0, 0)))))) (x_T 25 (x_T 20 (x_T 17 (x_L 17 (0, xi_putf 6 5 2 20, 0, 0)) (x_L 20 (0, xi_load 0 2 21, 0, 0))) (x_T 21 (x_L 21 (0, xi_push (0, 6, 6) 23, 0, 0)) (x_T 23 (x_L 23 (0, xi_newa 1 0 (0, 0, 0) (xm_c m_17) (xm_s m_17) 25, 0, 0)) (x_L 25 (0, xi_putf 6 6 2 28, 0, 0))))) (x_T 29 (x_T 28 (x_L 28 (0, xi_load 0 2 29, 0, 0)) (x_L 29 (0, xi_push (0, 6, 6) 31, 0, 0))) (x_T 31 (x_L 31 (0, xi_newa 1 0 (0, 0, 0) (xm_c m_17) (xm_s m_17) 33, 0, 0)) (x_T 33 (x_L 33 (0, xi_putf 6 7 2 36, 0, 0)) (x_L 36 (0, xi_load 0 2 37, 0, 0))))))) (x_T 57 (x_T 46 (x_T 40 (x_T 37 (x_L 37 (0, xi_push (0, 1000, 1000) 40, 0, 0)) (x_L 40 (0, xi_newa 1 0 (0, 0, 0) (xm_c m_17) (xm_s m_17) 42, 0, 0))) (x_T 42 (x_L 42 (0, xi_putf 6 8 2 45, 0, 0)) (x_T 45 (x_L 45 (0, xi_load 0 2 46, 0, 0)) (x_L 46 (0, xi_push (0, 1000, 1000) 49, 0, 0))))) (x_T 51 (x_T 49 (x_L 49 (0, xi_newa 1 0 (0, 0, 0) (xm_c m_17) (xm_s m_17) 51, 0, 0)) (x_L 51 (0, xi_putf 6 9 2 54, 0, 0))) (x_T 54 (x_L 54 (0, xi_load 0 2 55, 0, 0)) (x_T 55 (x_L 55 (0, xi_push (0, 60000, 60000) 57, 0, 0)) (x_L 57 (0, xi_newa 2 0 (0, 0, 0) (xm_c m_17) (xm_s m_17) 59, 0, 0)))))) (x_T 67 (x_T 62 (x_T 59 (x_L 59 (0, xi_putf 6 10 2 62, 0, 0)) (x_L 62 (0, xi_load 0 2 63, 0, 0))) (x_T 63 (x_L 63 (0, xi_push (0, 60, 60) 65, 0, 0)) (x_T 65 (x_L 65 (0, xi_newa 1 0 (0, 0, 0) (xm_c m_17) (xm_s m_17) 67, 0, 0)) (x_L 67 (0, xi_putf 6 11 2 70, 0, 0))))) (x_T 71 (x_T 70 (x_L 70 (0, xi_load 0 2 71, 0, 0)) (x_L 71 (0, xi_push (0, 60, 60) 73, 0, 0))) (x_T 73 (x_L 73 (0, xi_newa 1 0 (0, 0, 0) (xm_c m_17) (xm_s m_17) 75, 0, 0)) (x_T 75 (x_L 75 (0, xi_putf 6 12 2 78, 0, 0)) (x_L 78 (1, x_nof, 0, 0))))))))
set_option maxRecDepth 20000 in
set_option maxHeartbeats 4000000 in
theorem tb_17_0_ok (K : xKx) : ∀ pc, x_EOq cls K xI m_17 pc (tb_17_0 pc) :=
  (x_Tok2
  (x_Tok2
  (x_Tok2
  (x_Tok2
  (x_Tok2
  (x_Lok (x_st (I := xI) (xr_aload_n (i := 0) (x_dk dl_17_ok 0 rfl))))
  (x_Lok (x_st (I := xI) (xr_oi (ix := 3) (in_t3 (List.mem_of_getElem? (i := 197) rfl) rfl) (in_t1 (List.mem_of_getElem? (i := 27) rfl) rfl) (in_t1 (List.mem_of_getElem? (i := 28) rfl) rfl) (x_dk dl_17_ok 1 rfl)))))
  (x_Tok2
  (x_Lok (x_st (I := xI) (xr_aload_n (i := 0) (x_dk dl_17_ok 2 rfl))))
  (x_Lok (x_st (I := xI) (xr_bipush (n := 6) (z := 6) (v := 6) (x_dk dl_17_ok 3 rfl) (by decide) (by decide))))))
  (x_Tok2
  (x_Tok2
  (x_Lok (x_st (I := xI) (xr_newa (kd := 1) (b := false) (ty := .int) rfl rfl (in_t1 (List.mem_of_getElem? (i := 64) rfl) rfl) (x_dk dl_17_ok 4 rfl))))
  (x_Lok (x_st (I := xI) (xr_putF (ci := 6) (k := 4) (ix := 9) (N := 13) (fk := 2) (C := RX6) (T := TX6) (ty0 := tyX6) (ty := .array .int) rfl in_X6 tyX6_ok nmX6 (by decide) (in_t3 (List.mem_of_getElem? (i := 203) rfl) rfl) rfl rfl rfl rfl x_fit_arr (x_dk dl_17_ok 5 rfl)))))
  (x_Tok2
  (x_Lok (x_st (I := xI) (xr_aload_n (i := 0) (x_dk dl_17_ok 6 rfl))))
  (x_Tok2
  (x_Lok (x_st (I := xI) (xr_bipush (n := 6) (z := 6) (v := 6) (x_dk dl_17_ok 7 rfl) (by decide) (by decide))))
  (x_Lok (x_st (I := xI) (xr_newa (kd := 1) (b := false) (ty := .int) rfl rfl (in_t1 (List.mem_of_getElem? (i := 64) rfl) rfl) (x_dk dl_17_ok 8 rfl))))))))
  (x_Tok2
  (x_Tok2
  (x_Tok2
  (x_Lok (x_st (I := xI) (xr_putF (ci := 6) (k := 5) (ix := 15) (N := 13) (fk := 2) (C := RX6) (T := TX6) (ty0 := tyX6) (ty := .array .int) rfl in_X6 tyX6_ok nmX6 (by decide) (in_t3 (List.mem_of_getElem? (i := 204) rfl) rfl) rfl rfl rfl rfl x_fit_arr (x_dk dl_17_ok 9 rfl))))
  (x_Lok (x_st (I := xI) (xr_aload_n (i := 0) (x_dk dl_17_ok 10 rfl)))))
  (x_Tok2
  (x_Lok (x_st (I := xI) (xr_bipush (n := 6) (z := 6) (v := 6) (x_dk dl_17_ok 11 rfl) (by decide) (by decide))))
  (x_Tok2
  (x_Lok (x_st (I := xI) (xr_newa (kd := 1) (b := false) (ty := .int) rfl rfl (in_t1 (List.mem_of_getElem? (i := 64) rfl) rfl) (x_dk dl_17_ok 12 rfl))))
  (x_Lok (x_st (I := xI) (xr_putF (ci := 6) (k := 6) (ix := 18) (N := 13) (fk := 2) (C := RX6) (T := TX6) (ty0 := tyX6) (ty := .array .int) rfl in_X6 tyX6_ok nmX6 (by decide) (in_t3 (List.mem_of_getElem? (i := 205) rfl) rfl) rfl rfl rfl rfl x_fit_arr (x_dk dl_17_ok 13 rfl)))))))
  (x_Tok2
  (x_Tok2
  (x_Lok (x_st (I := xI) (xr_aload_n (i := 0) (x_dk dl_17_ok 14 rfl))))
  (x_Lok (x_st (I := xI) (xr_bipush (n := 6) (z := 6) (v := 6) (x_dk dl_17_ok 15 rfl) (by decide) (by decide)))))
  (x_Tok2
  (x_Lok (x_st (I := xI) (xr_newa (kd := 1) (b := false) (ty := .int) rfl rfl (in_t1 (List.mem_of_getElem? (i := 64) rfl) rfl) (x_dk dl_17_ok 16 rfl))))
  (x_Tok2
  (x_Lok (x_st (I := xI) (xr_putF (ci := 6) (k := 7) (ix := 21) (N := 13) (fk := 2) (C := RX6) (T := TX6) (ty0 := tyX6) (ty := .array .int) rfl in_X6 tyX6_ok nmX6 (by decide) (in_t3 (List.mem_of_getElem? (i := 206) rfl) rfl) rfl rfl rfl rfl x_fit_arr (x_dk dl_17_ok 17 rfl))))
  (x_Lok (x_st (I := xI) (xr_aload_n (i := 0) (x_dk dl_17_ok 18 rfl)))))))))
  (x_Tok2
  (x_Tok2
  (x_Tok2
  (x_Tok2
  (x_Lok (x_st (I := xI) (xr_sipush (n := 1000) (z := 1000) (v := 1000) (x_dk dl_17_ok 19 rfl) (by decide) (by decide))))
  (x_Lok (x_st (I := xI) (xr_newa (kd := 1) (b := false) (ty := .int) rfl rfl (in_t1 (List.mem_of_getElem? (i := 64) rfl) rfl) (x_dk dl_17_ok 20 rfl)))))
  (x_Tok2
  (x_Lok (x_st (I := xI) (xr_putF (ci := 6) (k := 8) (ix := 24) (N := 13) (fk := 2) (C := RX6) (T := TX6) (ty0 := tyX6) (ty := .array .int) rfl in_X6 tyX6_ok nmX6 (by decide) (in_t3 (List.mem_of_getElem? (i := 207) rfl) rfl) rfl rfl rfl rfl x_fit_arr (x_dk dl_17_ok 21 rfl))))
  (x_Tok2
  (x_Lok (x_st (I := xI) (xr_aload_n (i := 0) (x_dk dl_17_ok 22 rfl))))
  (x_Lok (x_st (I := xI) (xr_sipush (n := 1000) (z := 1000) (v := 1000) (x_dk dl_17_ok 23 rfl) (by decide) (by decide)))))))
  (x_Tok2
  (x_Tok2
  (x_Lok (x_st (I := xI) (xr_newa (kd := 1) (b := false) (ty := .int) rfl rfl (in_t1 (List.mem_of_getElem? (i := 64) rfl) rfl) (x_dk dl_17_ok 24 rfl))))
  (x_Lok (x_st (I := xI) (xr_putF (ci := 6) (k := 9) (ix := 27) (N := 13) (fk := 2) (C := RX6) (T := TX6) (ty0 := tyX6) (ty := .array .int) rfl in_X6 tyX6_ok nmX6 (by decide) (in_t3 (List.mem_of_getElem? (i := 208) rfl) rfl) rfl rfl rfl rfl x_fit_arr (x_dk dl_17_ok 25 rfl)))))
  (x_Tok2
  (x_Lok (x_st (I := xI) (xr_aload_n (i := 0) (x_dk dl_17_ok 26 rfl))))
  (x_Tok2
  (x_Lok (x_st (I := xI) (xr_ldc (ix := 30) (z := 60000) (v := 60000) (x_dk dl_17_ok 27 rfl) (in_t3 (List.mem_of_getElem? (i := 198) rfl) rfl) (by decide))))
  (x_Lok (x_st (I := xI) (xr_newa (kd := 2) (b := true) (ty := .byte) rfl rfl (in_t1 (List.mem_of_getElem? (i := 121) rfl) rfl) (x_dk dl_17_ok 28 rfl))))))))
  (x_Tok2
  (x_Tok2
  (x_Tok2
  (x_Lok (x_st (I := xI) (xr_putF (ci := 6) (k := 10) (ix := 31) (N := 13) (fk := 2) (C := RX6) (T := TX6) (ty0 := tyX6) (ty := .array .byte) rfl in_X6 tyX6_ok nmX6 (by decide) (in_t3 (List.mem_of_getElem? (i := 209) rfl) rfl) rfl rfl rfl rfl x_fit_arr (x_dk dl_17_ok 29 rfl))))
  (x_Lok (x_st (I := xI) (xr_aload_n (i := 0) (x_dk dl_17_ok 30 rfl)))))
  (x_Tok2
  (x_Lok (x_st (I := xI) (xr_bipush (n := 60) (z := 60) (v := 60) (x_dk dl_17_ok 31 rfl) (by decide) (by decide))))
  (x_Tok2
  (x_Lok (x_st (I := xI) (xr_newa (kd := 1) (b := false) (ty := .int) rfl rfl (in_t1 (List.mem_of_getElem? (i := 64) rfl) rfl) (x_dk dl_17_ok 32 rfl))))
  (x_Lok (x_st (I := xI) (xr_putF (ci := 6) (k := 11) (ix := 35) (N := 13) (fk := 2) (C := RX6) (T := TX6) (ty0 := tyX6) (ty := .array .int) rfl in_X6 tyX6_ok nmX6 (by decide) (in_t3 (List.mem_of_getElem? (i := 210) rfl) rfl) rfl rfl rfl rfl x_fit_arr (x_dk dl_17_ok 33 rfl)))))))
  (x_Tok2
  (x_Tok2
  (x_Lok (x_st (I := xI) (xr_aload_n (i := 0) (x_dk dl_17_ok 34 rfl))))
  (x_Lok (x_st (I := xI) (xr_bipush (n := 60) (z := 60) (v := 60) (x_dk dl_17_ok 35 rfl) (by decide) (by decide)))))
  (x_Tok2
  (x_Lok (x_st (I := xI) (xr_newa (kd := 1) (b := false) (ty := .int) rfl rfl (in_t1 (List.mem_of_getElem? (i := 64) rfl) rfl) (x_dk dl_17_ok 36 rfl))))
  (x_Tok2
  (x_Lok (x_st (I := xI) (xr_putF (ci := 6) (k := 12) (ix := 38) (N := 13) (fk := 2) (C := RX6) (T := TX6) (ty0 := tyX6) (ty := .array .int) rfl in_X6 tyX6_ok nmX6 (by decide) (in_t3 (List.mem_of_getElem? (i := 211) rfl) rfl) rfl rfl rfl rfl x_fit_arr (x_dk dl_17_ok 37 rfl))))
  (x_Lok (x_rt (I := xI) (k := 0) ⟨(x_dk dl_17_ok 38 rfl), rfl⟩))))))))
def tb_17 : Nat → xE := tb_17_0
theorem tb_17_ok (K : xKx) : ∀ pc, x_EOq cls K xI m_17 pc (tb_17 pc) := tb_17_0_ok K
def dl_18 : List (Nat × Instr × Nat) := [(0, .aload_n 0, 1), (1, .invokespecial 3, 3), (4, .aload_n 0, 1), (5, .bipush 64, 2), (7, .newarray .int, 2), (9, .putfield 9, 3), (12, .aload_n 0, 1), (13, .bipush 64, 2), (15, .newarray .int, 2), (17, .putfield 15, 3), (20, .aload_n 0, 1), (21, .bipush 64, 2), (23, .newarray .int, 2), (25, .putfield 18, 3), (28, .aload_n 0, 1), (29, .bipush 64, 2), (31, .newarray .int, 2), (33, .putfield 21, 3), (36, .aload_n 0, 1), (37, .bipush 64, 2), (39, .newarray .int, 2), (41, .putfield 24, 3), (44, .aload_n 0, 1), (45, .bipush 64, 2), (47, .newarray .boolean, 2), (49, .putfield 27, 3), (52, .aload_n 0, 1), (53, .bipush 64, 2), (55, .newarray .boolean, 2), (57, .putfield 31, 3), (60, .aload_n 0, 1), (61, .bipush 64, 2), (63, .newarray .int, 2), (65, .putfield 34, 3), (68, .return_, 1)]
set_option maxRecDepth 20000 in
theorem dl_18_ok : dl_18.all (fun q => decide (decode prog_9_method_1_code q.1 = .ok (q.2.1, q.2.2))) = true := by decide +kernel
def tb_18_0 : Nat → xE := (x_T 31 (x_T 13 (x_T 5 (x_T 1 (x_T 0 (x_L 0 (0, xi_load 0 2 1, 0, 0)) (x_L 1 (0, xi_oi 4, 0, 0))) (x_T 4 (x_L 4 (0, xi_load 0 2 5, 0, 0)) (x_L 5 (0, xi_push (0, 64, 64) 7, 0, 0)))) (x_T 9 (x_T 7 (x_L 7 (0, xi_newa 1 0 (0, 0, 0) (xm_c m_18) (xm_s m_18) 9, 0, 0)) (x_L 9 (0, xi_putf 7 0 2 12, 0, 0))) (x_T 12 (x_L 12 (0, xi_load 0 2 13, 0, 0)) (x_L 13 (0, xi_push (0, 64, 64) 15, 0, 0))))) (x_T 21 (x_T 17 (x_T 15 (x_L 15 (0, xi_newa 1 0 (0, 0, 0) (xm_c m_18) (xm_s m_18) 17, 0, 0)) (x_L 17 (0, xi_putf 7 1 2 20, 0, 0))) (x_T 20 (x_L 20 (0, xi_load 0 2 21, 0, 0)) (x_L 21 (0, xi_push (0, 64, 64) 23, 0, 0)))) (x_T 25 (x_T 23 (x_L 23 (0, xi_newa 1 0 (0, 0, 0) (xm_c m_18) (xm_s m_18) 25, 0, 0)) (x_L 25 (0, xi_putf 7 2 2 28, 0, 0))) (x_T 28 (x_L 28 (0, xi_load 0 2 29, 0, 0)) (x_T 29 (x_L 29 (0, xi_push (0, 64, 64) 31, 0, 0)) (x_L 31 (0, xi_newa 1 0 (0, 0, 0) (xm_c m_18) (xm_s m_18) 33, 0, 0))))))) (x_T 49 (x_T 39 (x_T 36 (x_T 33 (x_L 33 (0, xi_putf 7 3 2 36, 0, 0)) (x_L 36 (0, xi_load 0 2 37, 0, 0))) (x_T 37 (x_L 37 (0, xi_push (0, 64, 64) 39, 0, 0)) (x_L 39 (0, xi_newa 1 0 (0, 0, 0) (xm_c m_18) (xm_s m_18) 41, 0, 0)))) (x_T 44 (x_T 41 (x_L 41 (0, xi_putf 7 4 2 44, 0, 0)) (x_L 44 (0, xi_load 0 2 45, 0, 0))) (x_T 45 (x_L 45 (0, xi_push (0, 64, 64) 47, 0, 0)) (x_T 47 (x_L 47 (0, xi_newa 3 0 (0, 0, 0) (xm_c m_18) (xm_s m_18) 49, 0, 0)) (x_L 49 (0, xi_putf 7 5 2 52, 0, 0)))))) (x_T 57 (x_T 53 (x_T 52 (x_L 52 (0, xi_load 0 2 53, 0, 0)) (x_L 53 (0, xi_push (0, 64, 64) 55, 0, 0))) (x_T 55 (x_L 55 (0, xi_newa 3 0 (0, 0, 0) (xm_c m_18) (xm_s m_18) 57, 0, 0)) (x_L 57 (0, xi_putf 7 6 2 60, 0, 0)))) (x_T 61 (x_T 60 (x_L 60 (0, xi_load 0 2 61, 0, 0)) (x_L 61 (0, xi_push (0, 64, 64) 63, 0, 0))) (x_T 63 (x_L 63 (0, xi_newa 1 0 (0, 0, 0) (xm_c m_18) (xm_s m_18) 65, 0, 0)) (x_T 65 (x_L 65 (0, xi_putf 7 7 2 68, 0, 0)) (x_L 68 (1, x_nof, 0, 0))))))))
set_option maxRecDepth 20000 in
set_option maxHeartbeats 4000000 in
theorem tb_18_0_ok (K : xKx) : ∀ pc, x_EOq cls K xI m_18 pc (tb_18_0 pc) :=
  (x_Tok2
  (x_Tok2
  (x_Tok2
  (x_Tok2
  (x_Tok2
  (x_Lok (x_st (I := xI) (xr_aload_n (i := 0) (x_dk dl_18_ok 0 rfl))))
  (x_Lok (x_st (I := xI) (xr_oi (ix := 3) (in_t1 (List.mem_of_getElem? (i := 135) rfl) rfl) (in_t1 (List.mem_of_getElem? (i := 27) rfl) rfl) (in_t1 (List.mem_of_getElem? (i := 28) rfl) rfl) (x_dk dl_18_ok 1 rfl)))))
  (x_Tok2
  (x_Lok (x_st (I := xI) (xr_aload_n (i := 0) (x_dk dl_18_ok 2 rfl))))
  (x_Lok (x_st (I := xI) (xr_bipush (n := 64) (z := 64) (v := 64) (x_dk dl_18_ok 3 rfl) (by decide) (by decide))))))
  (x_Tok2
  (x_Tok2
  (x_Lok (x_st (I := xI) (xr_newa (kd := 1) (b := false) (ty := .int) rfl rfl (in_t1 (List.mem_of_getElem? (i := 64) rfl) rfl) (x_dk dl_18_ok 4 rfl))))
  (x_Lok (x_st (I := xI) (xr_putF (ci := 7) (k := 0) (ix := 9) (N := 8) (fk := 2) (C := RX7) (T := TX7) (ty0 := tyX7) (ty := .array .int) rfl in_X7 tyX7_ok nmX7 (by decide) (in_t1 (List.mem_of_getElem? (i := 136) rfl) rfl) rfl rfl rfl rfl x_fit_arr (x_dk dl_18_ok 5 rfl)))))
  (x_Tok2
  (x_Lok (x_st (I := xI) (xr_aload_n (i := 0) (x_dk dl_18_ok 6 rfl))))
  (x_Lok (x_st (I := xI) (xr_bipush (n := 64) (z := 64) (v := 64) (x_dk dl_18_ok 7 rfl) (by decide) (by decide)))))))
  (x_Tok2
  (x_Tok2
  (x_Tok2
  (x_Lok (x_st (I := xI) (xr_newa (kd := 1) (b := false) (ty := .int) rfl rfl (in_t1 (List.mem_of_getElem? (i := 64) rfl) rfl) (x_dk dl_18_ok 8 rfl))))
  (x_Lok (x_st (I := xI) (xr_putF (ci := 7) (k := 1) (ix := 15) (N := 8) (fk := 2) (C := RX7) (T := TX7) (ty0 := tyX7) (ty := .array .int) rfl in_X7 tyX7_ok nmX7 (by decide) (in_t1 (List.mem_of_getElem? (i := 138) rfl) rfl) rfl rfl rfl rfl x_fit_arr (x_dk dl_18_ok 9 rfl)))))
  (x_Tok2
  (x_Lok (x_st (I := xI) (xr_aload_n (i := 0) (x_dk dl_18_ok 10 rfl))))
  (x_Lok (x_st (I := xI) (xr_bipush (n := 64) (z := 64) (v := 64) (x_dk dl_18_ok 11 rfl) (by decide) (by decide))))))
  (x_Tok2
  (x_Tok2
  (x_Lok (x_st (I := xI) (xr_newa (kd := 1) (b := false) (ty := .int) rfl rfl (in_t1 (List.mem_of_getElem? (i := 64) rfl) rfl) (x_dk dl_18_ok 12 rfl))))
  (x_Lok (x_st (I := xI) (xr_putF (ci := 7) (k := 2) (ix := 18) (N := 8) (fk := 2) (C := RX7) (T := TX7) (ty0 := tyX7) (ty := .array .int) rfl in_X7 tyX7_ok nmX7 (by decide) (in_t1 (List.mem_of_getElem? (i := 141) rfl) rfl) rfl rfl rfl rfl x_fit_arr (x_dk dl_18_ok 13 rfl)))))
  (x_Tok2
  (x_Lok (x_st (I := xI) (xr_aload_n (i := 0) (x_dk dl_18_ok 14 rfl))))
  (x_Tok2
  (x_Lok (x_st (I := xI) (xr_bipush (n := 64) (z := 64) (v := 64) (x_dk dl_18_ok 15 rfl) (by decide) (by decide))))
  (x_Lok (x_st (I := xI) (xr_newa (kd := 1) (b := false) (ty := .int) rfl rfl (in_t1 (List.mem_of_getElem? (i := 64) rfl) rfl) (x_dk dl_18_ok 16 rfl)))))))))
  (x_Tok2
  (x_Tok2
  (x_Tok2
  (x_Tok2
  (x_Lok (x_st (I := xI) (xr_putF (ci := 7) (k := 3) (ix := 21) (N := 8) (fk := 2) (C := RX7) (T := TX7) (ty0 := tyX7) (ty := .array .int) rfl in_X7 tyX7_ok nmX7 (by decide) (in_t1 (List.mem_of_getElem? (i := 144) rfl) rfl) rfl rfl rfl rfl x_fit_arr (x_dk dl_18_ok 17 rfl))))
  (x_Lok (x_st (I := xI) (xr_aload_n (i := 0) (x_dk dl_18_ok 18 rfl)))))
  (x_Tok2
  (x_Lok (x_st (I := xI) (xr_bipush (n := 64) (z := 64) (v := 64) (x_dk dl_18_ok 19 rfl) (by decide) (by decide))))
  (x_Lok (x_st (I := xI) (xr_newa (kd := 1) (b := false) (ty := .int) rfl rfl (in_t1 (List.mem_of_getElem? (i := 64) rfl) rfl) (x_dk dl_18_ok 20 rfl))))))
  (x_Tok2
  (x_Tok2
  (x_Lok (x_st (I := xI) (xr_putF (ci := 7) (k := 4) (ix := 24) (N := 8) (fk := 2) (C := RX7) (T := TX7) (ty0 := tyX7) (ty := .array .int) rfl in_X7 tyX7_ok nmX7 (by decide) (in_t1 (List.mem_of_getElem? (i := 145) rfl) rfl) rfl rfl rfl rfl x_fit_arr (x_dk dl_18_ok 21 rfl))))
  (x_Lok (x_st (I := xI) (xr_aload_n (i := 0) (x_dk dl_18_ok 22 rfl)))))
  (x_Tok2
  (x_Lok (x_st (I := xI) (xr_bipush (n := 64) (z := 64) (v := 64) (x_dk dl_18_ok 23 rfl) (by decide) (by decide))))
  (x_Tok2
  (x_Lok (x_st (I := xI) (xr_newa (kd := 3) (b := true) (ty := .boolean) rfl rfl (in_t1 (List.mem_of_getElem? (i := 166) rfl) rfl) (x_dk dl_18_ok 24 rfl))))
  (x_Lok (x_st (I := xI) (xr_putF (ci := 7) (k := 5) (ix := 27) (N := 8) (fk := 2) (C := RX7) (T := TX7) (ty0 := tyX7) (ty := .array .boolean) rfl in_X7 tyX7_ok nmX7 (by decide) (in_t1 (List.mem_of_getElem? (i := 146) rfl) rfl) rfl rfl rfl rfl x_fit_arr (x_dk dl_18_ok 25 rfl))))))))
  (x_Tok2
  (x_Tok2
  (x_Tok2
  (x_Lok (x_st (I := xI) (xr_aload_n (i := 0) (x_dk dl_18_ok 26 rfl))))
  (x_Lok (x_st (I := xI) (xr_bipush (n := 64) (z := 64) (v := 64) (x_dk dl_18_ok 27 rfl) (by decide) (by decide)))))
  (x_Tok2
  (x_Lok (x_st (I := xI) (xr_newa (kd := 3) (b := true) (ty := .boolean) rfl rfl (in_t1 (List.mem_of_getElem? (i := 166) rfl) rfl) (x_dk dl_18_ok 28 rfl))))
  (x_Lok (x_st (I := xI) (xr_putF (ci := 7) (k := 6) (ix := 31) (N := 8) (fk := 2) (C := RX7) (T := TX7) (ty0 := tyX7) (ty := .array .boolean) rfl in_X7 tyX7_ok nmX7 (by decide) (in_t1 (List.mem_of_getElem? (i := 147) rfl) rfl) rfl rfl rfl rfl x_fit_arr (x_dk dl_18_ok 29 rfl))))))
  (x_Tok2
  (x_Tok2
  (x_Lok (x_st (I := xI) (xr_aload_n (i := 0) (x_dk dl_18_ok 30 rfl))))
  (x_Lok (x_st (I := xI) (xr_bipush (n := 64) (z := 64) (v := 64) (x_dk dl_18_ok 31 rfl) (by decide) (by decide)))))
  (x_Tok2
  (x_Lok (x_st (I := xI) (xr_newa (kd := 1) (b := false) (ty := .int) rfl rfl (in_t1 (List.mem_of_getElem? (i := 64) rfl) rfl) (x_dk dl_18_ok 32 rfl))))
  (x_Tok2
  (x_Lok (x_st (I := xI) (xr_putF (ci := 7) (k := 7) (ix := 34) (N := 8) (fk := 2) (C := RX7) (T := TX7) (ty0 := tyX7) (ty := .array .int) rfl in_X7 tyX7_ok nmX7 (by decide) (in_t1 (List.mem_of_getElem? (i := 148) rfl) rfl) rfl rfl rfl rfl x_fit_arr (x_dk dl_18_ok 33 rfl))))
  (x_Lok (x_rt (I := xI) (k := 0) ⟨(x_dk dl_18_ok 34 rfl), rfl⟩))))))))
def tb_18 : Nat → xE := tb_18_0
theorem tb_18_ok (K : xKx) : ∀ pc, x_EOq cls K xI m_18 pc (tb_18 pc) := tb_18_0_ok K
def dl_19 : List (Nat × Instr × Nat) := [(0, .aload_n 0, 1), (1, .getfield 24, 3), (4, .iconst (-1), 1), (5, .invokestatic 37, 3), (8, .aload_n 0, 1), (9, .invokevirtual 43, 3), (12, .return_, 1)]
set_option maxRecDepth 20000 in
theorem dl_19_ok : dl_19.all (fun q => decide (decode prog_9_method_2_code q.1 = .ok (q.2.1, q.2.2))) = true := by decide +kernel
def tb_19_0 : Nat → xE := (x_T 4 (x_T 0 (x_L 0 (0, xi_load 0 2 1, 0, 0)) (x_T 1 (x_L 1 (0, xi_getf 7 4 4, 0, 0)) (x_L 4 (0, xi_push (0, (-1), (-1)) 5, 0, 0)))) (x_T 8 (x_T 5 (x_L 5 (2, x_nof, 33, 2)) (x_L 8 (0, xi_load 0 2 9, 0, 0))) (x_T 9 (x_L 9 (2, x_nof, 21, 1)) (x_L 12 (1, x_nof, 0, 0)))))
set_option maxRecDepth 20000 in
set_option maxHeartbeats 4000000 in
theorem tb_19_0_ok (K : xKx) : ∀ pc, x_EOq cls K xI m_19 pc (tb_19_0 pc) :=
  (x_Tok2
  (x_Tok2
  (x_Lok (x_st (I := xI) (xr_aload_n (i := 0) (x_dk dl_19_ok 0 rfl))))
  (x_Tok2
  (x_Lok (x_st (I := xI) (xr_getf (ci := 7) (k := 4) (ix := 24) (N := 8) (C := RX7) (T := TX7) rfl in_X7 (by decide) (in_t1 (List.mem_of_getElem? (i := 145) rfl) rfl) (x_dk dl_19_ok 1 rfl))))
  (x_Lok (x_st (I := xI) (xr_iconst (n := (-1)) (z := (-1)) (v := (-1)) (x_dk dl_19_ok 2 rfl) (by decide) (by decide))))))
  (x_Tok2
  (x_Tok2
  (x_Lok (x_ca (I := xI) (q' := m_33) rfl (xr_callS (q' := m_33) (ix := 37) (n := 2) (in_t4 (List.mem_of_getElem? (i := 9) rfl) rfl) good_w (in_t1 (List.mem_of_getElem? (i := 13) rfl) rfl) (in_t4 (List.mem_of_getElem? (i := 44) rfl) rfl) (in_t4 (List.mem_of_getElem? (i := 8) rfl) rfl) (by decide +kernel) (by decide +kernel) (x_dk dl_19_ok 3 rfl))))
  (x_Lok (x_st (I := xI) (xr_aload_n (i := 0) (x_dk dl_19_ok 4 rfl)))))
  (x_Tok2
  (x_Lok (x_ca (I := xI) (q' := m_21) rfl (xr_callV (q' := m_21) (ix := 43) (n := 0) (in_t4 (List.mem_of_getElem? (i := 48) rfl) rfl) good_w (in_t1 (List.mem_of_getElem? (i := 5) rfl) rfl) (in_t4 (List.mem_of_getElem? (i := 45) rfl) rfl) (in_t4 (List.mem_of_getElem? (i := 47) rfl) rfl) (in_s1 (List.mem_of_getElem? (i := 1) rfl)) (by decide +kernel) (by decide +kernel) (by decide +kernel) (x_dk dl_19_ok 5 rfl))))
  (x_Lok (x_rt (I := xI) (k := 0) ⟨(x_dk dl_19_ok 6 rfl), rfl⟩)))))
def tb_19 : Nat → xE := tb_19_0
theorem tb_19_ok (K : xKx) : ∀ pc, x_EOq cls K xI m_19 pc (tb_19 pc) := tb_19_0_ok K
def dl_20 : List (Nat × Instr × Nat) := [(0, .aload_n 0, 1), (1, .getfield 9, 3), (4, .iconst 0, 1), (5, .invokestatic 37, 3), (8, .iconst 0, 1), (9, .istore_n 1, 1), (10, .iload_n 1, 1), (11, .bipush 64, 2), (13, .if_icmp .ge 16, 3), (16, .aload_n 0, 1), (17, .getfield 27, 3), (20, .iload_n 1, 1), (21, .iconst 0, 1), (22, .bastore, 1), (23, .iinc 1 1, 3), (26, .goto (-16), 3), (29, .aload_n 0, 1), (30, .invokevirtual 46, 3), (33, .aload_n 0, 1), (34, .getfield 18, 3), (37, .iconst 0, 1), (38, .invokestatic 37, 3), (41, .return_, 1)]
set_option maxRecDepth 20000 in
theorem dl_20_ok : dl_20.all (fun q => decide (decode prog_9_method_3_code q.1 = .ok (q.2.1, q.2.2))) = true := by decide +kernel
def tb_20_0 : Nat → xE := (x_T 17 (x_T 8 (x_T 1 (x_T 0 (x_L 0 (0, xi_load 0 2 1, 0, 0)) (x_L 1 (0, xi_getf 7 0 4, 0, 0))) (x_T 4 (x_L 4 (0, xi_push (0, 0, 0) 5, 0, 0)) (x_T 5 (x_L 5 (2, x_nof, 33, 2)) (x_L 8 (0, xi_push (0, 0, 0) 9, 0, 0))))) (x_T 11 (x_T 9 (x_L 9 (0, xi_stor 1 0 10, 0, 0)) (x_T 10 (x_L 10 (0, xi_load 1 0 11, 0, 0)) (x_L 11 (0, xi_push (0, 64, 64) 13, 0, 0)))) (x_T 13 (x_L 13 (0, xi_if2 3 29 16, 0, 0)) (x_T 16 (x_L 16 (0, xi_load 0 2 17, 0, 0)) (x_L 17 (0, xi_getf 7 5 20, 0, 0)))))) (x_T 29 (x_T 22 (x_T 20 (x_L 20 (0, xi_load 1 0 21, 0, 0)) (x_T 21 (x_L 21 (0, xi_push (0, 0, 0) 22, 0, 0)) (x_L 22 (0, xi_ast true 23, 0, 0)))) (x_T 23 (x_L 23 (0, xi_inc 1 1 26, 0, 0)) (x_T 26 (x_L 26 (0, xi_goto 10, 0, 0)) (x_L 29 (0, xi_load 0 2 30, 0, 0))))) (x_T 34 (x_T 30 (x_L 30 (2, x_nof, 22, 1)) (x_T 33 (x_L 33 (0, xi_load 0 2 34, 0, 0)) (x_L 34 (0, xi_getf 7 2 37, 0, 0)))) (x_T 37 (x_L 37 (0, xi_push (0, 0, 0) 38, 0, 0)) (x_T 38 (x_L 38 (2, x_nof, 33, 2)) (x_L 41 (1, x_nof, 0, 0)))))))
set_option maxRecDepth 20000 in
set_option maxHeartbeats 4000000 in
theorem tb_20_0_ok (K : xKx) : ∀ pc, x_EOq cls K xI m_20 pc (tb_20_0 pc) :=
  (x_Tok2
  (x_Tok2
  (x_Tok2
  (x_Tok2
  (x_Lok (x_st (I := xI) (xr_aload_n (i := 0) (x_dk dl_20_ok 0 rfl))))
  (x_Lok (x_st (I := xI) (xr_getf (ci := 7) (k := 0) (ix := 9) (N := 8) (C := RX7) (T := TX7) rfl in_X7 (by decide) (in_t1 (List.mem_of_getElem? (i := 136) rfl) rfl) (x_dk dl_20_ok 1 rfl)))))
  (x_Tok2
  (x_Lok (x_st (I := xI) (xr_iconst (n := 0) (z := 0) (v := 0) (x_dk dl_20_ok 2 rfl) (by decide) (by decide))))
  (x_Tok2
  (x_Lok (x_ca (I := xI) (q' := m_33) rfl (xr_callS (q' := m_33) (ix := 37) (n := 2) (in_t4 (List.mem_of_getElem? (i := 9) rfl) rfl) good_w (in_t1 (List.mem_of_getElem? (i := 13) rfl) rfl) (in_t4 (List.mem_of_getElem? (i := 44) rfl) rfl) (in_t4 (List.mem_of_getElem? (i := 8) rfl) rfl) (by decide +kernel) (by decide +kernel) (x_dk dl_20_ok 3 rfl))))
  (x_Lok (x_st (I := xI) (xr_iconst (n := 0) (z := 0) (v := 0) (x_dk dl_20_ok 4 rfl) (by decide) (by decide)))))))
  (x_Tok2
  (x_Tok2
  (x_Lok (x_st (I := xI) (xr_istore_n (i := 1) (x_dk dl_20_ok 5 rfl) (by decide +kernel))))
  (x_Tok2
  (x_Lok (x_st (I := xI) (xr_iload_n (i := 1) (x_dk dl_20_ok 6 rfl))))
  (x_Lok (x_st (I := xI) (xr_bipush (n := 64) (z := 64) (v := 64) (x_dk dl_20_ok 7 rfl) (by decide) (by decide))))))
  (x_Tok2
  (x_Lok (x_st (I := xI) (xr_icmpge (off := 16) (tg := 29) (x_dk dl_20_ok 8 rfl) (by decide))))
  (x_Tok2
  (x_Lok (x_st (I := xI) (xr_aload_n (i := 0) (x_dk dl_20_ok 9 rfl))))
  (x_Lok (x_st (I := xI) (xr_getf (ci := 7) (k := 5) (ix := 27) (N := 8) (C := RX7) (T := TX7) rfl in_X7 (by decide) (in_t1 (List.mem_of_getElem? (i := 146) rfl) rfl) (x_dk dl_20_ok 10 rfl))))))))
  (x_Tok2
  (x_Tok2
  (x_Tok2
  (x_Lok (x_st (I := xI) (xr_iload_n (i := 1) (x_dk dl_20_ok 11 rfl))))
  (x_Tok2
  (x_Lok (x_st (I := xI) (xr_iconst (n := 0) (z := 0) (v := 0) (x_dk dl_20_ok 12 rfl) (by decide) (by decide))))
  (x_Lok (x_st (I := xI) (xr_bastore (x_dk dl_20_ok 13 rfl))))))
  (x_Tok2
  (x_Lok (x_st (I := xI) (xr_iinc (i := 1) (n := 1) (x_dk dl_20_ok 14 rfl) (by decide +kernel) (by decide))))
  (x_Tok2
  (x_Lok (x_st (I := xI) (xr_goto (off := (-16)) (tg := 10) (x_dk dl_20_ok 15 rfl) (by decide))))
  (x_Lok (x_st (I := xI) (xr_aload_n (i := 0) (x_dk dl_20_ok 16 rfl)))))))
  (x_Tok2
  (x_Tok2
  (x_Lok (x_ca (I := xI) (q' := m_22) rfl (xr_callV (q' := m_22) (ix := 46) (n := 0) (in_t4 (List.mem_of_getElem? (i := 66) rfl) rfl) good_w (in_t1 (List.mem_of_getElem? (i := 5) rfl) rfl) (in_t4 (List.mem_of_getElem? (i := 63) rfl) rfl) (in_t4 (List.mem_of_getElem? (i := 65) rfl) rfl) (in_s1 (List.mem_of_getElem? (i := 3) rfl)) (by decide +kernel) (by decide +kernel) (by decide +kernel) (x_dk dl_20_ok 17 rfl))))
  (x_Tok2
  (x_Lok (x_st (I := xI) (xr_aload_n (i := 0) (x_dk dl_20_ok 18 rfl))))
  (x_Lok (x_st (I := xI) (xr_getf (ci := 7) (k := 2) (ix := 18) (N := 8) (C := RX7) (T := TX7) rfl in_X7 (by decide) (in_t1 (List.mem_of_getElem? (i := 141) rfl) rfl) (x_dk dl_20_ok 19 rfl))))))
  (x_Tok2
  (x_Lok (x_st (I := xI) (xr_iconst (n := 0) (z := 0) (v := 0) (x_dk dl_20_ok 20 rfl) (by decide) (by decide))))
  (x_Tok2
  (x_Lok (x_ca (I := xI) (q' := m_33) rfl (xr_callS (q' := m_33) (ix := 37) (n := 2) (in_t4 (List.mem_of_getElem? (i := 9) rfl) rfl) good_w (in_t1 (List.mem_of_getElem? (i := 13) rfl) rfl) (in_t4 (List.mem_of_getElem? (i := 44) rfl) rfl) (in_t4 (List.mem_of_getElem? (i := 8) rfl) rfl) (by decide +kernel) (by decide +kernel) (x_dk dl_20_ok 21 rfl))))
  (x_Lok (x_rt (I := xI) (k := 0) ⟨(x_dk dl_20_ok 22 rfl), rfl⟩)))))))
def tb_20 : Nat → xE := tb_20_0
theorem tb_20_ok (K : xKx) : ∀ pc, x_EOq cls K xI m_20 pc (tb_20 pc) := tb_20_0_ok K
def dl_21 : List (Nat × Instr × Nat) := [(0, .iconst 0, 1), (1, .istore_n 1, 1), (2, .iconst 0, 1), (3, .istore_n 2, 1), (4, .iload_n 2, 1), (5, .bipush 64, 2), (7, .if_icmp .ge 28, 3), (10, .aload_n 0, 1), (11, .getfield 24, 3), (14, .iload_n 2, 1), (15, .iaload, 1), (16, .ifCond .ge 13, 3), (19, .aload_n 0, 1), (20, .getfield 34, 3), (23, .iload_n 1, 1), (24, .iload_n 2, 1), (25, .iastore, 1), (26, .iinc 1 1, 3), (29, .iinc 2 1, 3), (32, .goto (-28), 3), (35, .iconst 0, 1), (36, .istore_n 2, 1), (37, .iload_n 2, 1), (38, .iload_n 1, 1), (39, .if_icmp .ge 60, 3), (42, .iload_n 1, 1), (43, .bipush 64, 2), (45, .if_icmp .ge 54, 3), (99, .return_, 1)]
set_option maxRecDepth 20000 in
theorem dl_21_ok : dl_21.all (fun q => decide (decode prog_9_method_8_code q.1 = .ok (q.2.1, q.2.2))) = true := by decide +kernel
def tb_21_0 : Nat → xE := (x_T 20 (x_T 7 (x_T 2 (x_T 0 (x_L 0 (0, xi_push (0, 0, 0) 1, 0, 0)) (x_T 1 (x_L 1 (0, xi_stor 1 0 2, 0, 0)) (x_L 2 (0, xi_push (0, 0, 0) 3, 0, 0)))) (x_T 4 (x_T 3 (x_L 3 (0, xi_stor 2 0 4, 0, 0)) (x_L 4 (0, xi_load 2 0 5, 0, 0))) (x_T 5 (x_L 5 (0, xi_push (0, 64, 64) 7, 0, 0)) (x_L 7 (0, xi_if2 3 35 10, 0, 0))))) (x_T 14 (x_T 10 (x_L 10 (0, xi_load 0 2 11, 0, 0)) (x_T 11 (x_L 11 (0, xi_getf 7 4 14, 0, 0)) (x_L 14 (0, xi_load 2 0 15, 0, 0)))) (x_T 16 (x_T 15 (x_L 15 (0, xi_ald false 16, 0, 0)) (x_L 16 (0, xi_if1 3 29 19, 0, 0))) (x_T 19 (x_L 19 (0, xi_load 0 2 20, 0, 0)) (x_L 20 (0, xi_getf 7 7 23, 0, 0)))))) (x_T 35 (x_T 25 (x_T 23 (x_L 23 (0, xi_load 1 0 24, 0, 0)) (x_T 24 (x_L 24 (0, xi_load 2 0 25, 0, 0)) (x_L 25 (0, xi_ast false 26, 0, 0)))) (x_T 29 (x_T 26 (x_L 26 (0, xi_inc 1 1 29, 0, 0)) (x_L 29 (0, xi_inc 2 1 32, 0, 0))) (x_T 32 (x_L 32 (0, xi_goto 4, 0, 0)) (x_L 35 (0, xi_push (0, 0, 0) 36, 0, 0))))) (x_T 39 (x_T 37 (x_T 36 (x_L 36 (0, xi_stor 2 0 37, 0, 0)) (x_L 37 (0, xi_load 2 0 38, 0, 0))) (x_T 38 (x_L 38 (0, xi_load 1 0 39, 0, 0)) (x_L 39 (0, xi_if2 3 99 42, 0, 0)))) (x_T 43 (x_T 42 (x_L 42 (0, xi_load 1 0 43, 0, 0)) (x_L 43 (0, xi_push (0, 64, 64) 45, 0, 0))) (x_T 45 (x_L 45 (0, xi_if2 3 99 48, 0, 0)) (x_L 99 (1, x_nof, 0, 0)))))))
set_option maxRecDepth 20000 in
set_option maxHeartbeats 4000000 in
theorem tb_21_0_ok (K : xKx) : ∀ pc, x_EOq cls K xI m_21 pc (tb_21_0 pc) :=
  (x_Tok2
  (x_Tok2
  (x_Tok2
  (x_Tok2
  (x_Lok (x_st (I := xI) (xr_iconst (n := 0) (z := 0) (v := 0) (x_dk dl_21_ok 0 rfl) (by decide) (by decide))))
  (x_Tok2
  (x_Lok (x_st (I := xI) (xr_istore_n (i := 1) (x_dk dl_21_ok 1 rfl) (by decide +kernel))))
  (x_Lok (x_st (I := xI) (xr_iconst (n := 0) (z := 0) (v := 0) (x_dk dl_21_ok 2 rfl) (by decide) (by decide))))))
  (x_Tok2
  (x_Tok2
  (x_Lok (x_st (I := xI) (xr_istore_n (i := 2) (x_dk dl_21_ok 3 rfl) (by decide +kernel))))
  (x_Lok (x_st (I := xI) (xr_iload_n (i := 2) (x_dk dl_21_ok 4 rfl)))))
  (x_Tok2
  (x_Lok (x_st (I := xI) (xr_bipush (n := 64) (z := 64) (v := 64) (x_dk dl_21_ok 5 rfl) (by decide) (by decide))))
  (x_Lok (x_st (I := xI) (xr_icmpge (off := 28) (tg := 35) (x_dk dl_21_ok 6 rfl) (by decide)))))))
  (x_Tok2
  (x_Tok2
  (x_Lok (x_st (I := xI) (xr_aload_n (i := 0) (x_dk dl_21_ok 7 rfl))))
  (x_Tok2
  (x_Lok (x_st (I := xI) (xr_getf (ci := 7) (k := 4) (ix := 24) (N := 8) (C := RX7) (T := TX7) rfl in_X7 (by decide) (in_t1 (List.mem_of_getElem? (i := 145) rfl) rfl) (x_dk dl_21_ok 8 rfl))))
  (x_Lok (x_st (I := xI) (xr_iload_n (i := 2) (x_dk dl_21_ok 9 rfl))))))
  (x_Tok2
  (x_Tok2
  (x_Lok (x_st (I := xI) (xr_iaload (x_dk dl_21_ok 10 rfl))))
  (x_Lok (x_st (I := xI) (xr_ifge (off := 13) (tg := 29) (x_dk dl_21_ok 11 rfl) (by decide)))))
  (x_Tok2
  (x_Lok (x_st (I := xI) (xr_aload_n (i := 0) (x_dk dl_21_ok 12 rfl))))
  (x_Lok (x_st (I := xI) (xr_getf (ci := 7) (k := 7) (ix := 34) (N := 8) (C := RX7) (T := TX7) rfl in_X7 (by decide) (in_t1 (List.mem_of_getElem? (i := 148) rfl) rfl) (x_dk dl_21_ok 13 rfl))))))))
  (x_Tok2
  (x_Tok2
  (x_Tok2
  (x_Lok (x_st (I := xI) (xr_iload_n (i := 1) (x_dk dl_21_ok 14 rfl))))
  (x_Tok2
  (x_Lok (x_st (I := xI) (xr_iload_n (i := 2) (x_dk dl_21_ok 15 rfl))))
  (x_Lok (x_st (I := xI) (xr_iastore (x_dk dl_21_ok 16 rfl))))))
  (x_Tok2
  (x_Tok2
  (x_Lok (x_st (I := xI) (xr_iinc (i := 1) (n := 1) (x_dk dl_21_ok 17 rfl) (by decide +kernel) (by decide))))
  (x_Lok (x_st (I := xI) (xr_iinc (i := 2) (n := 1) (x_dk dl_21_ok 18 rfl) (by decide +kernel) (by decide)))))
  (x_Tok2
  (x_Lok (x_st (I := xI) (xr_goto (off := (-28)) (tg := 4) (x_dk dl_21_ok 19 rfl) (by decide))))
  (x_Lok (x_st (I := xI) (xr_iconst (n := 0) (z := 0) (v := 0) (x_dk dl_21_ok 20 rfl) (by decide) (by decide)))))))
  (x_Tok2
  (x_Tok2
  (x_Tok2
  (x_Lok (x_st (I := xI) (xr_istore_n (i := 2) (x_dk dl_21_ok 21 rfl) (by decide +kernel))))
  (x_Lok (x_st (I := xI) (xr_iload_n (i := 2) (x_dk dl_21_ok 22 rfl)))))
  (x_Tok2
  (x_Lok (x_st (I := xI) (xr_iload_n (i := 1) (x_dk dl_21_ok 23 rfl))))
  (x_Lok (x_st (I := xI) (xr_icmpge (off := 60) (tg := 99) (x_dk dl_21_ok 24 rfl) (by decide))))))
  (x_Tok2
  (x_Tok2
  (x_Lok (x_st (I := xI) (xr_iload_n (i := 1) (x_dk dl_21_ok 25 rfl))))
  (x_Lok (x_st (I := xI) (xr_bipush (n := 64) (z := 64) (v := 64) (x_dk dl_21_ok 26 rfl) (by decide) (by decide)))))
  (x_Tok2
  (x_Lok (x_st (I := xI) (xr_icmpge (off := 54) (tg := 99) (x_dk dl_21_ok 27 rfl) (by decide))))
  (x_Lok (x_rt (I := xI) (k := 0) ⟨(x_dk dl_21_ok 28 rfl), rfl⟩)))))))
def tb_21 : Nat → xE := tb_21_0
theorem tb_21_ok (K : xKx) : ∀ pc, x_EOq cls K xI m_21 pc (tb_21 pc) := tb_21_0_ok K
def dl_22 : List (Nat × Instr × Nat) := [(0, .iconst 0, 1), (1, .istore_n 1, 1), (2, .iload_n 1, 1), (3, .bipush 64, 2), (5, .if_icmp .ge 52, 3), (8, .aload_n 0, 1), (9, .getfield 34, 3), (12, .iload_n 1, 1), (13, .iaload, 1), (14, .istore_n 2, 1), (15, .aload_n 0, 1), (16, .iload_n 2, 1), (17, .invokevirtual 52, 3), (20, .istore_n 3, 1), (21, .aload_n 0, 1), (22, .getfield 15, 3), (25, .iload_n 2, 1), (26, .iaload, 1), (27, .ifCond .ne 17, 3), (30, .iload_n 3, 1), (31, .ifCond .eq 13, 3), (44, .aload_n 0, 1), (45, .getfield 15, 3), (48, .iload_n 2, 1), (49, .iload_n 3, 1), (50, .iastore, 1), (51, .iinc 1 1, 3), (54, .goto (-52), 3), (57, .return_, 1)]
set_option maxRecDepth 20000 in
theorem dl_22_ok : dl_22.all (fun q => decide (decode prog_9_method_9_code q.1 = .ok (q.2.1, q.2.2))) = true := by decide +kernel
def tb_22_0 : Nat → xE := (x_T 20 (x_T 9 (x_T 2 (x_T 0 (x_L 0 (0, xi_push (0, 0, 0) 1, 0, 0)) (x_T 1 (x_L 1 (0, xi_stor 1 0 2, 0, 0)) (x_L 2 (0, xi_load 1 0 3, 0, 0)))) (x_T 5 (x_T 3 (x_L 3 (0, xi_push (0, 64, 64) 5, 0, 0)) (x_L 5 (0, xi_if2 3 57 8, 0, 0))) (x_T 8 (x_L 8 (0, xi_load 0 2 9, 0, 0)) (x_L 9 (0, xi_getf 7 7 12, 0, 0))))) (x_T 14 (x_T 12 (x_L 12 (0, xi_load 1 0 13, 0, 0)) (x_T 13 (x_L 13 (0, xi_ald false 14, 0, 0)) (x_L 14 (0, xi_stor 2 0 15, 0, 0)))) (x_T 16 (x_T 15 (x_L 15 (0, xi_load 0 2 16, 0, 0)) (x_L 16 (0, xi_load 2 0 17, 0, 0))) (x_T 17 (x_L 17 (2, x_nof, 23, 2)) (x_L 20 (0, xi_stor 3 0 21, 0, 0)))))) (x_T 31 (x_T 25 (x_T 21 (x_L 21 (0, xi_load 0 2 22, 0, 0)) (x_T 22 (x_L 22 (0, xi_getf 7 1 25, 0, 0)) (x_L 25 (0, xi_load 2 0 26, 0, 0)))) (x_T 27 (x_T 26 (x_L 26 (0, xi_ald false 27, 0, 0)) (x_L 27 (0, xi_if1 1 44 30, 0, 0))) (x_T 30 (x_L 30 (0, xi_load 3 0 31, 0, 0)) (x_L 31 (0, xi_if1 0 44 34, 0, 0))))) (x_T 49 (x_T 45 (x_T 44 (x_L 44 (0, xi_load 0 2 45, 0, 0)) (x_L 45 (0, xi_getf 7 1 48, 0, 0))) (x_T 48 (x_L 48 (0, xi_load 2 0 49, 0, 0)) (x_L 49 (0, xi_load 3 0 50, 0, 0)))) (x_T 51 (x_T 50 (x_L 50 (0, xi_ast false 51, 0, 0)) (x_L 51 (0, xi_inc 1 1 54, 0, 0))) (x_T 54 (x_L 54 (0, xi_goto 2, 0, 0)) (x_L 57 (1, x_nof, 0, 0)))))))
set_option maxRecDepth 20000 in
set_option maxHeartbeats 4000000 in
theorem tb_22_0_ok (K : xKx) : ∀ pc, x_EOq cls K xI m_22 pc (tb_22_0 pc) :=
  (x_Tok2
  (x_Tok2
  (x_Tok2
  (x_Tok2
  (x_Lok (x_st (I := xI) (xr_iconst (n := 0) (z := 0) (v := 0) (x_dk dl_22_ok 0 rfl) (by decide) (by decide))))
  (x_Tok2
  (x_Lok (x_st (I := xI) (xr_istore_n (i := 1) (x_dk dl_22_ok 1 rfl) (by decide +kernel))))
  (x_Lok (x_st (I := xI) (xr_iload_n (i := 1) (x_dk dl_22_ok 2 rfl))))))
  (x_Tok2
  (x_Tok2
  (x_Lok (x_st (I := xI) (xr_bipush (n := 64) (z := 64) (v := 64) (x_dk dl_22_ok 3 rfl) (by decide) (by decide))))
  (x_Lok (x_st (I := xI) (xr_icmpge (off := 52) (tg := 57) (x_dk dl_22_ok 4 rfl) (by decide)))))
  (x_Tok2
  (x_Lok (x_st (I := xI) (xr_aload_n (i := 0) (x_dk dl_22_ok 5 rfl))))
  (x_Lok (x_st (I := xI) (xr_getf (ci := 7) (k := 7) (ix := 34) (N := 8) (C := RX7) (T := TX7) rfl in_X7 (by decide) (in_t1 (List.mem_of_getElem? (i := 148) rfl) rfl) (x_dk dl_22_ok 6 rfl)))))))
  (x_Tok2
  (x_Tok2
  (x_Lok (x_st (I := xI) (xr_iload_n (i := 1) (x_dk dl_22_ok 7 rfl))))
  (x_Tok2
  (x_Lok (x_st (I := xI) (xr_iaload (x_dk dl_22_ok 8 rfl))))
  (x_Lok (x_st (I := xI) (xr_istore_n (i := 2) (x_dk dl_22_ok 9 rfl) (by decide +kernel))))))
  (x_Tok2
  (x_Tok2
  (x_Lok (x_st (I := xI) (xr_aload_n (i := 0) (x_dk dl_22_ok 10 rfl))))
  (x_Lok (x_st (I := xI) (xr_iload_n (i := 2) (x_dk dl_22_ok 11 rfl)))))
  (x_Tok2
  (x_Lok (x_ca (I := xI) (q' := m_23) rfl (xr_callV (q' := m_23) (ix := 52) (n := 1) (in_t4 (List.mem_of_getElem? (i := 70) rfl) rfl) good_w (in_t1 (List.mem_of_getElem? (i := 5) rfl) rfl) (in_t4 (List.mem_of_getElem? (i := 67) rfl) rfl) (in_t4 (List.mem_of_getElem? (i := 69) rfl) rfl) (in_s1 (List.mem_of_getElem? (i := 4) rfl)) (by decide +kernel) (by decide +kernel) (by decide +kernel) (x_dk dl_22_ok 12 rfl))))
  (x_Lok (x_st (I := xI) (xr_istore_n (i := 3) (x_dk dl_22_ok 13 rfl) (by decide +kernel))))))))
  (x_Tok2
  (x_Tok2
  (x_Tok2
  (x_Lok (x_st (I := xI) (xr_aload_n (i := 0) (x_dk dl_22_ok 14 rfl))))
  (x_Tok2
  (x_Lok (x_st (I := xI) (xr_getf (ci := 7) (k := 1) (ix := 15) (N := 8) (C := RX7) (T := TX7) rfl in_X7 (by decide) (in_t1 (List.mem_of_getElem? (i := 138) rfl) rfl) (x_dk dl_22_ok 15 rfl))))
  (x_Lok (x_st (I := xI) (xr_iload_n (i := 2) (x_dk dl_22_ok 16 rfl))))))
  (x_Tok2
  (x_Tok2
  (x_Lok (x_st (I := xI) (xr_iaload (x_dk dl_22_ok 17 rfl))))
  (x_Lok (x_st (I := xI) (xr_ifne (off := 17) (tg := 44) (x_dk dl_22_ok 18 rfl) (by decide)))))
  (x_Tok2
  (x_Lok (x_st (I := xI) (xr_iload_n (i := 3) (x_dk dl_22_ok 19 rfl))))
  (x_Lok (x_st (I := xI) (xr_ifeq (off := 13) (tg := 44) (x_dk dl_22_ok 20 rfl) (by decide)))))))
  (x_Tok2
  (x_Tok2
  (x_Tok2
  (x_Lok (x_st (I := xI) (xr_aload_n (i := 0) (x_dk dl_22_ok 21 rfl))))
  (x_Lok (x_st (I := xI) (xr_getf (ci := 7) (k := 1) (ix := 15) (N := 8) (C := RX7) (T := TX7) rfl in_X7 (by decide) (in_t1 (List.mem_of_getElem? (i := 138) rfl) rfl) (x_dk dl_22_ok 22 rfl)))))
  (x_Tok2
  (x_Lok (x_st (I := xI) (xr_iload_n (i := 2) (x_dk dl_22_ok 23 rfl))))
  (x_Lok (x_st (I := xI) (xr_iload_n (i := 3) (x_dk dl_22_ok 24 rfl))))))
  (x_Tok2
  (x_Tok2
  (x_Lok (x_st (I := xI) (xr_iastore (x_dk dl_22_ok 25 rfl))))
  (x_Lok (x_st (I := xI) (xr_iinc (i := 1) (n := 1) (x_dk dl_22_ok 26 rfl) (by decide +kernel) (by decide)))))
  (x_Tok2
  (x_Lok (x_st (I := xI) (xr_goto (off := (-52)) (tg := 2) (x_dk dl_22_ok 27 rfl) (by decide))))
  (x_Lok (x_rt (I := xI) (k := 0) ⟨(x_dk dl_22_ok 28 rfl), rfl⟩)))))))
def tb_22 : Nat → xE := tb_22_0
theorem tb_22_ok (K : xKx) : ∀ pc, x_EOq cls K xI m_22 pc (tb_22 pc) := tb_22_0_ok K
def dl_23 : List (Nat × Instr × Nat) := [(0, .aload_n 0, 1), (1, .getfield 27, 3), (4, .iload_n 1, 1), (5, .baload, 1), (6, .ifCond .eq 10, 3), (16, .aload_n 0, 1), (17, .getfield 24, 3), (20, .iload_n 1, 1), (21, .iaload, 1), (22, .ifCond .ge 10, 3), (25, .aload_n 0, 1), (26, .getfield 9, 3), (29, .iload_n 1, 1), (30, .iaload, 1), (31, .ireturn, 1)]
set_option maxRecDepth 20000 in
theorem dl_23_ok : dl_23.all (fun q => decide (decode prog_9_method_10_code q.1 = .ok (q.2.1, q.2.2))) = true := by decide +kernel
def tb_23_0 : Nat → xE := (x_T 17 (x_T 4 (x_T 0 (x_L 0 (0, xi_load 0 2 1, 0, 0)) (x_T 1 (x_L 1 (0, xi_getf 7 5 4, 0, 0)) (x_L 4 (0, xi_load 1 0 5, 0, 0)))) (x_T 6 (x_T 5 (x_L 5 (0, xi_ald true 6, 0, 0)) (x_L 6 (0, xi_if1 0 16 9, 0, 0))) (x_T 16 (x_L 16 (0, xi_load 0 2 17, 0, 0)) (x_L 17 (0, xi_getf 7 4 20, 0, 0))))) (x_T 25 (x_T 21 (x_T 20 (x_L 20 (0, xi_load 1 0 21, 0, 0)) (x_L 21 (0, xi_ald false 22, 0, 0))) (x_T 22 (x_L 22 (0, xi_if1 3 32 25, 0, 0)) (x_L 25 (0, xi_load 0 2 26, 0, 0)))) (x_T 29 (x_T 26 (x_L 26 (0, xi_getf 7 0 29, 0, 0)) (x_L 29 (0, xi_load 1 0 30, 0, 0))) (x_T 30 (x_L 30 (0, xi_ald false 31, 0, 0)) (x_L 31 (1, x_nof, 1, 0))))))
set_option maxRecDepth 20000 in
set_option maxHeartbeats 4000000 in
theorem tb_23_0_ok (K : xKx) : ∀ pc, x_EOq cls K xI m_23 pc (tb_23_0 pc) :=
  (x_Tok2
  (x_Tok2
  (x_Tok2
  (x_Lok (x_st (I := xI) (xr_aload_n (i := 0) (x_dk dl_23_ok 0 rfl))))
  (x_Tok2
  (x_Lok (x_st (I := xI) (xr_getf (ci := 7) (k := 5) (ix := 27) (N := 8) (C := RX7) (T := TX7) rfl in_X7 (by decide) (in_t1 (List.mem_of_getElem? (i := 146) rfl) rfl) (x_dk dl_23_ok 1 rfl))))
  (x_Lok (x_st (I := xI) (xr_iload_n (i := 1) (x_dk dl_23_ok 2 rfl))))))
  (x_Tok2
  (x_Tok2
  (x_Lok (x_st (I := xI) (xr_baload (x_dk dl_23_ok 3 rfl))))
  (x_Lok (x_st (I := xI) (xr_ifeq (off := 10) (tg := 16) (x_dk dl_23_ok 4 rfl) (by decide)))))
  (x_Tok2
  (x_Lok (x_st (I := xI) (xr_aload_n (i := 0) (x_dk dl_23_ok 5 rfl))))
  (x_Lok (x_st (I := xI) (xr_getf (ci := 7) (k := 4) (ix := 24) (N := 8) (C := RX7) (T := TX7) rfl in_X7 (by decide) (in_t1 (List.mem_of_getElem? (i := 145) rfl) rfl) (x_dk dl_23_ok 6 rfl)))))))
  (x_Tok2
  (x_Tok2
  (x_Tok2
  (x_Lok (x_st (I := xI) (xr_iload_n (i := 1) (x_dk dl_23_ok 7 rfl))))
  (x_Lok (x_st (I := xI) (xr_iaload (x_dk dl_23_ok 8 rfl)))))
  (x_Tok2
  (x_Lok (x_st (I := xI) (xr_ifge (off := 10) (tg := 32) (x_dk dl_23_ok 9 rfl) (by decide))))
  (x_Lok (x_st (I := xI) (xr_aload_n (i := 0) (x_dk dl_23_ok 10 rfl))))))
  (x_Tok2
  (x_Tok2
  (x_Lok (x_st (I := xI) (xr_getf (ci := 7) (k := 0) (ix := 9) (N := 8) (C := RX7) (T := TX7) rfl in_X7 (by decide) (in_t1 (List.mem_of_getElem? (i := 136) rfl) rfl) (x_dk dl_23_ok 11 rfl))))
  (x_Lok (x_st (I := xI) (xr_iload_n (i := 1) (x_dk dl_23_ok 12 rfl)))))
  (x_Tok2
  (x_Lok (x_st (I := xI) (xr_iaload (x_dk dl_23_ok 13 rfl))))
  (x_Lok (x_rt (I := xI) (k := 1) ⟨(x_dk dl_23_ok 14 rfl), rfl⟩))))))
def tb_23 : Nat → xE := tb_23_0
theorem tb_23_ok (K : xKx) : ∀ pc, x_EOq cls K xI m_23 pc (tb_23 pc) := tb_23_0_ok K
def dl_24 : List (Nat × Instr × Nat) := [(0, .aload_n 0, 1), (1, .invokespecial 3, 3), (4, .aload_n 0, 1), (5, .iconst (-1), 1), (6, .putfield 9, 3), (9, .aload_n 0, 1), (10, .iconst (-1), 1), (11, .putfield 15, 3), (14, .aload_n 0, 1), (15, .new 18, 3), (18, .dup, 1), (19, .invokespecial 20, 3), (22, .putfield 21, 3), (25, .aload_n 0, 1), (26, .sipush 4000, 3), (29, .newarray .byte, 2), (31, .putfield 25, 3), (34, .aload_n 0, 1), (35, .bipush 32, 2), (37, .newarray .int, 2), (39, .putfield 29, 3), (42, .aload_n 0, 1), (43, .sipush 500, 3), (46, .newarray .int, 2), (48, .putfield 33, 3), (51, .return_, 1)]
set_option maxRecDepth 20000 in
theorem dl_24_ok : dl_24.all (fun q => decide (decode prog_10_method_1_code q.1 = .ok (q.2.1, q.2.2))) = true := by decide +kernel
def tb_24_0 : Nat → xE := (x_T 22 (x_T 9 (x_T 4 (x_T 0 (x_L 0 (0, xi_load 0 2 1, 0, 0)) (x_T 1 (x_L 1 (0, xi_oi 4, 0, 0)) (x_L 4 (0, xi_load 0 2 5, 0, 0)))) (x_T 5 (x_L 5 (0, xi_push (0, (-1), (-1)) 6, 0, 0)) (x_T 6 (x_L 6 (0, xi_putf 8 1 0 9, 0, 0)) (x_L 9 (0, xi_load 0 2 10, 0, 0))))) (x_T 14 (x_T 10 (x_L 10 (0, xi_push (0, (-1), (-1)) 11, 0, 0)) (x_T 11 (x_L 11 (0, xi_putf 8 2 0 14, 0, 0)) (x_L 14 (0, xi_load 0 2 15, 0, 0)))) (x_T 18 (x_T 15 (x_L 15 (0, xi_new (x_nc 1 ks_X1) (xm_c m_24) (xm_s m_24) 18, 0, 0)) (x_L 18 (0, xi_stk xf_dup 19, 0, 0))) (x_T 19 (x_L 19 (2, x_nof, 7, 1)) (x_L 22 (0, xi_putf 8 3 2 25, 0, 0)))))) (x_T 35 (x_T 29 (x_T 25 (x_L 25 (0, xi_load 0 2 26, 0, 0)) (x_T 26 (x_L 26 (0, xi_push (0, 4000, 4000) 29, 0, 0)) (x_L 29 (0, xi_newa 2 0 (0, 0, 0) (xm_c m_24) (xm_s m_24) 31, 0, 0)))) (x_T 31 (x_L 31 (0, xi_putf 8 4 2 34, 0, 0)) (x_T 34 (x_L 34 (0, xi_load 0 2 35, 0, 0)) (x_L 35 (0, xi_push (0, 32, 32) 37, 0, 0))))) (x_T 42 (x_T 37 (x_L 37 (0, xi_newa 1 0 (0, 0, 0) (xm_c m_24) (xm_s m_24) 39, 0, 0)) (x_T 39 (x_L 39 (0, xi_putf 8 15 2 42, 0, 0)) (x_L 42 (0, xi_load 0 2 43, 0, 0)))) (x_T 46 (x_T 43 (x_L 43 (0, xi_push (0, 500, 500) 46, 0, 0)) (x_L 46 (0, xi_newa 1 0 (0, 0, 0) (xm_c m_24) (xm_s m_24) 48, 0, 0))) (x_T 48 (x_L 48 (0, xi_putf 8 16 2 51, 0, 0)) (x_L 51 (1, x_nof, 0, 0)))))))
set_option maxRecDepth 20000 in
set_option maxHeartbeats 4000000 in
theorem tb_24_0_ok (K : xKx) : ∀ pc, x_EOq cls K xI m_24 pc (tb_24_0 pc) :=
  (x_Tok2
  (x_Tok2
  (x_Tok2
  (x_Tok2
  (x_Lok (x_st (I := xI) (xr_aload_n (i := 0) (x_dk dl_24_ok 0 rfl))))
  (x_Tok2
  (x_Lok (x_st (I := xI) (xr_oi (ix := 3) (in_t1 (List.mem_of_getElem? (i := 34) rfl) rfl) (in_t1 (List.mem_of_getElem? (i := 27) rfl) rfl) (in_t1 (List.mem_of_getElem? (i := 28) rfl) rfl) (x_dk dl_24_ok 1 rfl))))
  (x_Lok (x_st (I := xI) (xr_aload_n (i := 0) (x_dk dl_24_ok 2 rfl))))))
  (x_Tok2
  (x_Lok (x_st (I := xI) (xr_iconst (n := (-1)) (z := (-1)) (v := (-1)) (x_dk dl_24_ok 3 rfl) (by decide) (by decide))))
  (x_Tok2
  (x_Lok (x_st (I := xI) (xr_putf (ci := 8) (k := 1) (ix := 9) (N := 17) (fk := 0) (C := RX8) (T := TX8) (ty0 := tyX8) (ty := .int) rfl in_X8 tyX8_ok nmX8 (by decide) (in_t1 (List.mem_of_getElem? (i := 67) rfl) rfl) rfl rfl x_fit_int (x_dk dl_24_ok 4 rfl))))
  (x_Lok (x_st (I := xI) (xr_aload_n (i := 0) (x_dk dl_24_ok 5 rfl)))))))
  (x_Tok2
  (x_Tok2
  (x_Lok (x_st (I := xI) (xr_iconst (n := (-1)) (z := (-1)) (v := (-1)) (x_dk dl_24_ok 6 rfl) (by decide) (by decide))))
  (x_Tok2
  (x_Lok (x_st (I := xI) (xr_putf (ci := 8) (k := 2) (ix := 15) (N := 17) (fk := 0) (C := RX8) (T := TX8) (ty0 := tyX8) (ty := .int) rfl in_X8 tyX8_ok nmX8 (by decide) (in_t1 (List.mem_of_getElem? (i := 69) rfl) rfl) rfl rfl x_fit_int (x_dk dl_24_ok 7 rfl))))
  (x_Lok (x_st (I := xI) (xr_aload_n (i := 0) (x_dk dl_24_ok 8 rfl))))))
  (x_Tok2
  (x_Tok2
  (x_Lok (x_st (I := xI) (xr_new (ci := 1) (ix := 18) (N := 5) (C := RX1) (T := TX1) (ty0 := tyX1) (ks := ks_X1) rfl in_X1 tyX1_ok (in_t1 (List.mem_of_getElem? (i := 35) rfl) rfl) (in_t1 (List.mem_of_getElem? (i := 36) rfl) rfl) (in_t1 (List.mem_of_getElem? (i := 3) rfl) rfl) rfl df_X1 (x_dk dl_24_ok 9 rfl))))
  (x_Lok (x_st (I := xI) (xr_dup (x_dk dl_24_ok 10 rfl)))))
  (x_Tok2
  (x_Lok (x_ca (I := xI) (q' := m_7) rfl (xr_callIN (q' := m_7) (ix := 20) (n := 0) (host := "RobotCellHouse") (in_t1 (List.mem_of_getElem? (i := 39) rfl) rfl) good_w (in_t1 (List.mem_of_getElem? (i := 3) rfl) rfl) (List.mem_of_getElem? (i := 1) rfl) (in_t1 (List.mem_of_getElem? (i := 38) rfl) rfl) rfl rfl (by decide +kernel) (by decide +kernel) (by decide +kernel) (x_dk dl_24_ok 11 rfl))))
  (x_Lok (x_st (I := xI) (xr_putf (ci := 8) (k := 3) (ix := 21) (N := 17) (fk := 2) (C := RX8) (T := TX8) (ty0 := tyX8) (ty := .object "RobotCellHouse$Code") rfl in_X8 tyX8_ok nmX8 (by decide) (in_t1 (List.mem_of_getElem? (i := 71) rfl) rfl) rfl rfl x_fit_obj (x_dk dl_24_ok 12 rfl))))))))
  (x_Tok2
  (x_Tok2
  (x_Tok2
  (x_Lok (x_st (I := xI) (xr_aload_n (i := 0) (x_dk dl_24_ok 13 rfl))))
  (x_Tok2
  (x_Lok (x_st (I := xI) (xr_sipush (n := 4000) (z := 4000) (v := 4000) (x_dk dl_24_ok 14 rfl) (by decide) (by decide))))
  (x_Lok (x_st (I := xI) (xr_newa (kd := 2) (b := true) (ty := .byte) rfl rfl (in_t1 (List.mem_of_getElem? (i := 121) rfl) rfl) (x_dk dl_24_ok 15 rfl))))))
  (x_Tok2
  (x_Lok (x_st (I := xI) (xr_putF (ci := 8) (k := 4) (ix := 25) (N := 17) (fk := 2) (C := RX8) (T := TX8) (ty0 := tyX8) (ty := .array .byte) rfl in_X8 tyX8_ok nmX8 (by decide) (in_t1 (List.mem_of_getElem? (i := 73) rfl) rfl) rfl rfl rfl rfl x_fit_arr (x_dk dl_24_ok 16 rfl))))
  (x_Tok2
  (x_Lok (x_st (I := xI) (xr_aload_n (i := 0) (x_dk dl_24_ok 17 rfl))))
  (x_Lok (x_st (I := xI) (xr_bipush (n := 32) (z := 32) (v := 32) (x_dk dl_24_ok 18 rfl) (by decide) (by decide)))))))
  (x_Tok2
  (x_Tok2
  (x_Lok (x_st (I := xI) (xr_newa (kd := 1) (b := false) (ty := .int) rfl rfl (in_t1 (List.mem_of_getElem? (i := 64) rfl) rfl) (x_dk dl_24_ok 19 rfl))))
  (x_Tok2
  (x_Lok (x_st (I := xI) (xr_putF (ci := 8) (k := 15) (ix := 29) (N := 17) (fk := 2) (C := RX8) (T := TX8) (ty0 := tyX8) (ty := .array .int) rfl in_X8 tyX8_ok nmX8 (by decide) (in_t1 (List.mem_of_getElem? (i := 84) rfl) rfl) rfl rfl rfl rfl x_fit_arr (x_dk dl_24_ok 20 rfl))))
  (x_Lok (x_st (I := xI) (xr_aload_n (i := 0) (x_dk dl_24_ok 21 rfl))))))
  (x_Tok2
  (x_Tok2
  (x_Lok (x_st (I := xI) (xr_sipush (n := 500) (z := 500) (v := 500) (x_dk dl_24_ok 22 rfl) (by decide) (by decide))))
  (x_Lok (x_st (I := xI) (xr_newa (kd := 1) (b := false) (ty := .int) rfl rfl (in_t1 (List.mem_of_getElem? (i := 64) rfl) rfl) (x_dk dl_24_ok 23 rfl)))))
  (x_Tok2
  (x_Lok (x_st (I := xI) (xr_putF (ci := 8) (k := 16) (ix := 33) (N := 17) (fk := 2) (C := RX8) (T := TX8) (ty0 := tyX8) (ty := .array .int) rfl in_X8 tyX8_ok nmX8 (by decide) (in_t1 (List.mem_of_getElem? (i := 85) rfl) rfl) rfl rfl rfl rfl x_fit_arr (x_dk dl_24_ok 24 rfl))))
  (x_Lok (x_rt (I := xI) (k := 0) ⟨(x_dk dl_24_ok 25 rfl), rfl⟩)))))))
def tb_24 : Nat → xE := tb_24_0
theorem tb_24_ok (K : xKx) : ∀ pc, x_EOq cls K xI m_24 pc (tb_24 pc) := tb_24_0_ok K
def dl_25 : List (Nat × Instr × Nat) := [(0, .aload_n 0, 1), (1, .invokespecial 3, 3), (4, .aload_n 0, 1), (5, .bipush 16, 2), (7, .newarray .int, 2), (9, .putfield 9, 3), (12, .aload_n 0, 1), (13, .bipush 16, 2), (15, .newarray .int, 2), (17, .putfield 15, 3), (20, .aload_n 0, 1), (21, .bipush 16, 2), (23, .newarray .int, 2), (25, .putfield 18, 3), (28, .aload_n 0, 1), (29, .bipush 16, 2), (31, .newarray .int, 2), (33, .putfield 21, 3), (36, .aload_n 0, 1), (37, .bipush 16, 2), (39, .newarray .int, 2), (41, .putfield 24, 3), (44, .aload_n 0, 1), (45, .bipush 8, 2), (47, .newarray .int, 2), (49, .putfield 27, 3), (52, .aload_n 0, 1), (53, .bipush 8, 2), (55, .newarray .int, 2), (57, .putfield 30, 3), (60, .aload_n 0, 1), (61, .bipush 8, 2), (63, .newarray .int, 2), (65, .putfield 33, 3), (68, .aload_n 0, 1), (69, .bipush 8, 2), (71, .newarray .int, 2), (73, .putfield 36, 3), (76, .aload_n 0, 1), (77, .bipush 8, 2), (79, .newarray .int, 2), (81, .putfield 39, 3), (84, .aload_n 0, 1), (85, .bipush 8, 2), (87, .newarray .int, 2), (89, .putfield 42, 3), (92, .return_, 1)]
set_option maxRecDepth 20000 in
theorem dl_25_ok : dl_25.all (fun q => decide (decode prog_11_method_1_code q.1 = .ok (q.2.1, q.2.2))) = true := by decide +kernel
def tb_25_0 : Nat → xE := (x_T 20 (x_T 7 (x_T 1 (x_T 0 (x_L 0 (0, xi_load 0 2 1, 0, 0)) (x_L 1 (0, xi_oi 4, 0, 0))) (x_T 4 (x_L 4 (0, xi_load 0 2 5, 0, 0)) (x_T 5 (x_L 5 (0, xi_push (0, 16, 16) 7, 0, 0)) (x_L 7 (0, xi_newa 1 0 (0, 0, 0) (xm_c m_25) (xm_s m_25) 9, 0, 0))))) (x_T 13 (x_T 9 (x_L 9 (0, xi_putf 9 2 2 12, 0, 0)) (x_T 12 (x_L 12 (0, xi_load 0 2 13, 0, 0)) (x_L 13 (0, xi_push (0, 16, 16) 15, 0, 0)))) (x_T 15 (x_L 15 (0, xi_newa 1 0 (0, 0, 0) (xm_c m_25) (xm_s m_25) 17, 0, 0)) (x_T 17 (x_L 17 (0, xi_putf 9 3 2 20, 0, 0)) (x_L 20 (0, xi_load 0 2 21, 0, 0)))))) (x_T 31 (x_T 25 (x_T 21 (x_L 21 (0, xi_push (0, 16, 16) 23, 0, 0)) (x_T 23 (x_L 23 (0, xi_newa 1 0 (0, 0, 0) (xm_c m_25) (xm_s m_25) 25, 0, 0)) (x_L 25 (0, xi_putf 9 4 2 28, 0, 0)))) (x_T 28 (x_L 28 (0, xi_load 0 2 29, 0, 0)) (x_T 29 (x_L 29 (0, xi_push (0, 16, 16) 31, 0, 0)) (x_L 31 (0, xi_newa 1 0 (0, 0, 0) (xm_c m_25) (xm_s m_25) 33, 0, 0))))) (x_T 37 (x_T 33 (x_L 33 (0, xi_putf 9 5 2 36, 0, 0)) (x_T 36 (x_L 36 (0, xi_load 0 2 37, 0, 0)) (x_L 37 (0, xi_push (0, 16, 16) 39, 0, 0)))) (x_T 39 (x_L 39 (0, xi_newa 1 0 (0, 0, 0) (xm_c m_25) (xm_s m_25) 41, 0, 0)) (x_T 41 (x_L 41 (0, xi_putf 9 6 2 44, 0, 0)) (x_L 44 (0, xi_load 0 2 45, 0, 0)))))))
set_option maxRecDepth 20000 in
set_option maxHeartbeats 4000000 in
theorem tb_25_0_ok (K : xKx) : ∀ pc, x_EOq cls K xI m_25 pc (tb_25_0 pc) :=
  (x_Tok2
  (x_Tok2
  (x_Tok2
  (x_Tok2
  (x_Lok (x_st (I := xI) (xr_aload_n (i := 0) (x_dk dl_25_ok 0 rfl))))
  (x_Lok (x_st (I := xI) (xr_oi (ix := 3) (in_t3 (List.mem_of_getElem? (i := 136) rfl) rfl) (in_t1 (List.mem_of_getElem? (i := 27) rfl) rfl) (in_t1 (List.mem_of_getElem? (i := 28) rfl) rfl) (x_dk dl_25_ok 1 rfl)))))
  (x_Tok2
  (x_Lok (x_st (I := xI) (xr_aload_n (i := 0) (x_dk dl_25_ok 2 rfl))))
  (x_Tok2
  (x_Lok (x_st (I := xI) (xr_bipush (n := 16) (z := 16) (v := 16) (x_dk dl_25_ok 3 rfl) (by decide) (by decide))))
  (x_Lok (x_st (I := xI) (xr_newa (kd := 1) (b := false) (ty := .int) rfl rfl (in_t1 (List.mem_of_getElem? (i := 64) rfl) rfl) (x_dk dl_25_ok 4 rfl)))))))
  (x_Tok2
  (x_Tok2
  (x_Lok (x_st (I := xI) (xr_putF (ci := 9) (k := 2) (ix := 9) (N := 17) (fk := 2) (C := RX9) (T := TX9) (ty0 := tyX9) (ty := .array .int) rfl in_X9 tyX9_ok nmX9 (by decide) (in_t3 (List.mem_of_getElem? (i := 141) rfl) rfl) rfl rfl rfl rfl x_fit_arr (x_dk dl_25_ok 5 rfl))))
  (x_Tok2
  (x_Lok (x_st (I := xI) (xr_aload_n (i := 0) (x_dk dl_25_ok 6 rfl))))
  (x_Lok (x_st (I := xI) (xr_bipush (n := 16) (z := 16) (v := 16) (x_dk dl_25_ok 7 rfl) (by decide) (by decide))))))
  (x_Tok2
  (x_Lok (x_st (I := xI) (xr_newa (kd := 1) (b := false) (ty := .int) rfl rfl (in_t1 (List.mem_of_getElem? (i := 64) rfl) rfl) (x_dk dl_25_ok 8 rfl))))
  (x_Tok2
  (x_Lok (x_st (I := xI) (xr_putF (ci := 9) (k := 3) (ix := 15) (N := 17) (fk := 2) (C := RX9) (T := TX9) (ty0 := tyX9) (ty := .array .int) rfl in_X9 tyX9_ok nmX9 (by decide) (in_t3 (List.mem_of_getElem? (i := 142) rfl) rfl) rfl rfl rfl rfl x_fit_arr (x_dk dl_25_ok 9 rfl))))
  (x_Lok (x_st (I := xI) (xr_aload_n (i := 0) (x_dk dl_25_ok 10 rfl))))))))
  (x_Tok2
  (x_Tok2
  (x_Tok2
  (x_Lok (x_st (I := xI) (xr_bipush (n := 16) (z := 16) (v := 16) (x_dk dl_25_ok 11 rfl) (by decide) (by decide))))
  (x_Tok2
  (x_Lok (x_st (I := xI) (xr_newa (kd := 1) (b := false) (ty := .int) rfl rfl (in_t1 (List.mem_of_getElem? (i := 64) rfl) rfl) (x_dk dl_25_ok 12 rfl))))
  (x_Lok (x_st (I := xI) (xr_putF (ci := 9) (k := 4) (ix := 18) (N := 17) (fk := 2) (C := RX9) (T := TX9) (ty0 := tyX9) (ty := .array .int) rfl in_X9 tyX9_ok nmX9 (by decide) (in_t3 (List.mem_of_getElem? (i := 143) rfl) rfl) rfl rfl rfl rfl x_fit_arr (x_dk dl_25_ok 13 rfl))))))
  (x_Tok2
  (x_Lok (x_st (I := xI) (xr_aload_n (i := 0) (x_dk dl_25_ok 14 rfl))))
  (x_Tok2
  (x_Lok (x_st (I := xI) (xr_bipush (n := 16) (z := 16) (v := 16) (x_dk dl_25_ok 15 rfl) (by decide) (by decide))))
  (x_Lok (x_st (I := xI) (xr_newa (kd := 1) (b := false) (ty := .int) rfl rfl (in_t1 (List.mem_of_getElem? (i := 64) rfl) rfl) (x_dk dl_25_ok 16 rfl)))))))
  (x_Tok2
  (x_Tok2
  (x_Lok (x_st (I := xI) (xr_putF (ci := 9) (k := 5) (ix := 21) (N := 17) (fk := 2) (C := RX9) (T := TX9) (ty0 := tyX9) (ty := .array .int) rfl in_X9 tyX9_ok nmX9 (by decide) (in_t3 (List.mem_of_getElem? (i := 144) rfl) rfl) rfl rfl rfl rfl x_fit_arr (x_dk dl_25_ok 17 rfl))))
  (x_Tok2
  (x_Lok (x_st (I := xI) (xr_aload_n (i := 0) (x_dk dl_25_ok 18 rfl))))
  (x_Lok (x_st (I := xI) (xr_bipush (n := 16) (z := 16) (v := 16) (x_dk dl_25_ok 19 rfl) (by decide) (by decide))))))
  (x_Tok2
  (x_Lok (x_st (I := xI) (xr_newa (kd := 1) (b := false) (ty := .int) rfl rfl (in_t1 (List.mem_of_getElem? (i := 64) rfl) rfl) (x_dk dl_25_ok 20 rfl))))
  (x_Tok2
  (x_Lok (x_st (I := xI) (xr_putF (ci := 9) (k := 6) (ix := 24) (N := 17) (fk := 2) (C := RX9) (T := TX9) (ty0 := tyX9) (ty := .array .int) rfl in_X9 tyX9_ok nmX9 (by decide) (in_t3 (List.mem_of_getElem? (i := 145) rfl) rfl) rfl rfl rfl rfl x_fit_arr (x_dk dl_25_ok 21 rfl))))
  (x_Lok (x_st (I := xI) (xr_aload_n (i := 0) (x_dk dl_25_ok 22 rfl)))))))))
def tb_25_23 : Nat → xE := (x_T 68 (x_T 55 (x_T 49 (x_T 45 (x_L 45 (0, xi_push (0, 8, 8) 47, 0, 0)) (x_T 47 (x_L 47 (0, xi_newa 1 0 (0, 0, 0) (xm_c m_25) (xm_s m_25) 49, 0, 0)) (x_L 49 (0, xi_putf 9 7 2 52, 0, 0)))) (x_T 52 (x_L 52 (0, xi_load 0 2 53, 0, 0)) (x_T 53 (x_L 53 (0, xi_push (0, 8, 8) 55, 0, 0)) (x_L 55 (0, xi_newa 1 0 (0, 0, 0) (xm_c m_25) (xm_s m_25) 57, 0, 0))))) (x_T 61 (x_T 57 (x_L 57 (0, xi_putf 9 8 2 60, 0, 0)) (x_T 60 (x_L 60 (0, xi_load 0 2 61, 0, 0)) (x_L 61 (0, xi_push (0, 8, 8) 63, 0, 0)))) (x_T 63 (x_L 63 (0, xi_newa 1 0 (0, 0, 0) (xm_c m_25) (xm_s m_25) 65, 0, 0)) (x_T 65 (x_L 65 (0, xi_putf 9 9 2 68, 0, 0)) (x_L 68 (0, xi_load 0 2 69, 0, 0)))))) (x_T 79 (x_T 73 (x_T 69 (x_L 69 (0, xi_push (0, 8, 8) 71, 0, 0)) (x_T 71 (x_L 71 (0, xi_newa 1 0 (0, 0, 0) (xm_c m_25) (xm_s m_25) 73, 0, 0)) (x_L 73 (0, xi_putf 9 10 2 76, 0, 0)))) (x_T 76 (x_L 76 (0, xi_load 0 2 77, 0, 0)) (x_T 77 (x_L 77 (0, xi_push (0, 8, 8) 79, 0, 0)) (x_L 79 (0, xi_newa 1 0 (0, 0, 0) (xm_c m_25) (xm_s m_25) 81, 0, 0))))) (x_T 85 (x_T 81 (x_L 81 (0, xi_putf 9 11 2 84, 0, 0)) (x_T 84 (x_L 84 (0, xi_load 0 2 85, 0, 0)) (x_L 85 (0, xi_push (0, 8, 8) 87, 0, 0)))) (x_T 87 (x_L 87 (0, xi_newa 1 0 (0, 0, 0) (xm_c m_25) (xm_s m_25) 89, 0, 0)) (x_T 89 (x_L 89 (0, xi_putf 9 12 2 92, 0, 0)) (x_L 92 (1, x_nof, 0, 0)))))))
set_option maxRecDepth 20000 in
set_option maxHeartbeats 4000000 in
theorem tb_25_23_ok (K : xKx) : ∀ pc, x_EOq cls K xI m_25 pc (tb_25_23 pc) :=
  (x_Tok2
  (x_Tok2
  (x_Tok2
  (x_Tok2
  (x_Lok (x_st (I := xI) (xr_bipush (n := 8) (z := 8) (v := 8) (x_dk dl_25_ok 23 rfl) (by decide) (by decide))))
  (x_Tok2
  (x_Lok (x_st (I := xI) (xr_newa (kd := 1) (b := false) (ty := .int) rfl rfl (in_t1 (List.mem_of_getElem? (i := 64) rfl) rfl) (x_dk dl_25_ok 24 rfl))))
  (x_Lok (x_st (I := xI) (xr_putF (ci := 9) (k := 7) (ix := 27) (N := 17) (fk := 2) (C := RX9) (T := TX9) (ty0 := tyX9) (ty := .array .int) rfl in_X9 tyX9_ok nmX9 (by decide) (in_t3 (List.mem_of_getElem? (i := 146) rfl) rfl) rfl rfl rfl rfl x_fit_arr (x_dk dl_25_ok 25 rfl))))))
  (x_Tok2
  (x_Lok (x_st (I := xI) (xr_aload_n (i := 0) (x_dk dl_25_ok 26 rfl))))
  (x_Tok2
  (x_Lok (x_st (I := xI) (xr_bipush (n := 8) (z := 8) (v := 8) (x_dk dl_25_ok 27 rfl) (by decide) (by decide))))
  (x_Lok (x_st (I := xI) (xr_newa (kd := 1) (b := false) (ty := .int) rfl rfl (in_t1 (List.mem_of_getElem? (i := 64) rfl) rfl) (x_dk dl_25_ok 28 rfl)))))))
  (x_Tok2
  (x_Tok2
  (x_Lok (x_st (I := xI) (xr_putF (ci := 9) (k := 8) (ix := 30) (N := 17) (fk := 2) (C := RX9) (T := TX9) (ty0 := tyX9) (ty := .array .int) rfl in_X9 tyX9_ok nmX9 (by decide) (in_t3 (List.mem_of_getElem? (i := 147) rfl) rfl) rfl rfl rfl rfl x_fit_arr (x_dk dl_25_ok 29 rfl))))
  (x_Tok2
  (x_Lok (x_st (I := xI) (xr_aload_n (i := 0) (x_dk dl_25_ok 30 rfl))))
  (x_Lok (x_st (I := xI) (xr_bipush (n := 8) (z := 8) (v := 8) (x_dk dl_25_ok 31 rfl) (by decide) (by decide))))))
  (x_Tok2
  (x_Lok (x_st (I := xI) (xr_newa (kd := 1) (b := false) (ty := .int) rfl rfl (in_t1 (List.mem_of_getElem? (i := 64) rfl) rfl) (x_dk dl_25_ok 32 rfl))))
  (x_Tok2
  (x_Lok (x_st (I := xI) (xr_putF (ci := 9) (k := 9) (ix := 33) (N := 17) (fk := 2) (C := RX9) (T := TX9) (ty0 := tyX9) (ty := .array .int) rfl in_X9 tyX9_ok nmX9 (by decide) (in_t3 (List.mem_of_getElem? (i := 149) rfl) rfl) rfl rfl rfl rfl x_fit_arr (x_dk dl_25_ok 33 rfl))))
  (x_Lok (x_st (I := xI) (xr_aload_n (i := 0) (x_dk dl_25_ok 34 rfl))))))))
  (x_Tok2
  (x_Tok2
  (x_Tok2
  (x_Lok (x_st (I := xI) (xr_bipush (n := 8) (z := 8) (v := 8) (x_dk dl_25_ok 35 rfl) (by decide) (by decide))))
  (x_Tok2
  (x_Lok (x_st (I := xI) (xr_newa (kd := 1) (b := false) (ty := .int) rfl rfl (in_t1 (List.mem_of_getElem? (i := 64) rfl) rfl) (x_dk dl_25_ok 36 rfl))))
  (x_Lok (x_st (I := xI) (xr_putF (ci := 9) (k := 10) (ix := 36) (N := 17) (fk := 2) (C := RX9) (T := TX9) (ty0 := tyX9) (ty := .array .int) rfl in_X9 tyX9_ok nmX9 (by decide) (in_t3 (List.mem_of_getElem? (i := 150) rfl) rfl) rfl rfl rfl rfl x_fit_arr (x_dk dl_25_ok 37 rfl))))))
  (x_Tok2
  (x_Lok (x_st (I := xI) (xr_aload_n (i := 0) (x_dk dl_25_ok 38 rfl))))
  (x_Tok2
  (x_Lok (x_st (I := xI) (xr_bipush (n := 8) (z := 8) (v := 8) (x_dk dl_25_ok 39 rfl) (by decide) (by decide))))
  (x_Lok (x_st (I := xI) (xr_newa (kd := 1) (b := false) (ty := .int) rfl rfl (in_t1 (List.mem_of_getElem? (i := 64) rfl) rfl) (x_dk dl_25_ok 40 rfl)))))))
  (x_Tok2
  (x_Tok2
  (x_Lok (x_st (I := xI) (xr_putF (ci := 9) (k := 11) (ix := 39) (N := 17) (fk := 2) (C := RX9) (T := TX9) (ty0 := tyX9) (ty := .array .int) rfl in_X9 tyX9_ok nmX9 (by decide) (in_t3 (List.mem_of_getElem? (i := 151) rfl) rfl) rfl rfl rfl rfl x_fit_arr (x_dk dl_25_ok 41 rfl))))
  (x_Tok2
  (x_Lok (x_st (I := xI) (xr_aload_n (i := 0) (x_dk dl_25_ok 42 rfl))))
  (x_Lok (x_st (I := xI) (xr_bipush (n := 8) (z := 8) (v := 8) (x_dk dl_25_ok 43 rfl) (by decide) (by decide))))))
  (x_Tok2
  (x_Lok (x_st (I := xI) (xr_newa (kd := 1) (b := false) (ty := .int) rfl rfl (in_t1 (List.mem_of_getElem? (i := 64) rfl) rfl) (x_dk dl_25_ok 44 rfl))))
  (x_Tok2
  (x_Lok (x_st (I := xI) (xr_putF (ci := 9) (k := 12) (ix := 42) (N := 17) (fk := 2) (C := RX9) (T := TX9) (ty0 := tyX9) (ty := .array .int) rfl in_X9 tyX9_ok nmX9 (by decide) (in_t3 (List.mem_of_getElem? (i := 152) rfl) rfl) rfl rfl rfl rfl x_fit_arr (x_dk dl_25_ok 45 rfl))))
  (x_Lok (x_rt (I := xI) (k := 0) ⟨(x_dk dl_25_ok 46 rfl), rfl⟩)))))))
def tb_25 : Nat → xE := (x_T 44 tb_25_0 tb_25_23)
theorem tb_25_ok (K : xKx) : ∀ pc, x_EOq cls K xI m_25 pc (tb_25 pc) := (x_Tok2 (tb_25_0_ok K) (tb_25_23_ok K))
end
section
def dl_26 : List (Nat × Instr × Nat) := [(0, .aload_n 0, 1), (1, .invokespecial 3, 3), (4, .aload_n 0, 1), (5, .bipush 20, 2), (7, .newarray .int, 2), (9, .putfield 11, 3), (12, .aload_n 0, 1), (13, .bipush 20, 2), (15, .newarray .int, 2), (17, .putfield 15, 3), (20, .aload_n 0, 1), (21, .sipush 600, 3), (24, .newarray .int, 2), (26, .putfield 18, 3), (29, .aload_n 0, 1), (30, .sipush 600, 3), (33, .newarray .int, 2), (35, .putfield 21, 3), (38, .aload_n 0, 1), (39, .sipush 600, 3), (42, .newarray .int, 2), (44, .putfield 24, 3), (47, .aload_n 0, 1), (48, .iload_n 1, 1), (49, .putfield 27, 3), (52, .return_, 1)]
set_option maxRecDepth 20000 in
theorem dl_26_ok : dl_26.all (fun q => decide (decode prog_12_method_1_code q.1 = .ok (q.2.1, q.2.2))) = true := by decide +kernel
def tb_26_0 : Nat → xE := (x_T 24 (x_T 9 (x_T 4 (x_T 0 (x_L 0 (0, xi_load 0 2 1, 0, 0)) (x_T 1 (x_L 1 (0, xi_oi 4, 0, 0)) (x_L 4 (0, xi_load 0 2 5, 0, 0)))) (x_T 5 (x_L 5 (0, xi_push (0, 20, 20) 7, 0, 0)) (x_T 7 (x_L 7 (0, xi_newa 1 0 (0, 0, 0) (xm_c m_26) (xm_s m_26) 9, 0, 0)) (x_L 9 (0, xi_putf 10 16 2 12, 0, 0))))) (x_T 15 (x_T 12 (x_L 12 (0, xi_load 0 2 13, 0, 0)) (x_T 13 (x_L 13 (0, xi_push (0, 20, 20) 15, 0, 0)) (x_L 15 (0, xi_newa 1 0 (0, 0, 0) (xm_c m_26) (xm_s m_26) 17, 0, 0)))) (x_T 20 (x_T 17 (x_L 17 (0, xi_putf 10 17 2 20, 0, 0)) (x_L 20 (0, xi_load 0 2 21, 0, 0))) (x_T 21 (x_L 21 (0, xi_push (0, 600, 600) 24, 0, 0)) (x_L 24 (0, xi_newa 1 0 (0, 0, 0) (xm_c m_26) (xm_s m_26) 26, 0, 0)))))) (x_T 38 (x_T 30 (x_T 26 (x_L 26 (0, xi_putf 10 18 2 29, 0, 0)) (x_T 29 (x_L 29 (0, xi_load 0 2 30, 0, 0)) (x_L 30 (0, xi_push (0, 600, 600) 33, 0, 0)))) (x_T 33 (x_L 33 (0, xi_newa 1 0 (0, 0, 0) (xm_c m_26) (xm_s m_26) 35, 0, 0)) (x_T 35 (x_L 35 (0, xi_putf 10 19 2 38, 0, 0)) (x_L 38 (0, xi_load 0 2 39, 0, 0))))) (x_T 44 (x_T 39 (x_L 39 (0, xi_push (0, 600, 600) 42, 0, 0)) (x_T 42 (x_L 42 (0, xi_newa 1 0 (0, 0, 0) (xm_c m_26) (xm_s m_26) 44, 0, 0)) (x_L 44 (0, xi_putf 10 20 2 47, 0, 0)))) (x_T 48 (x_T 47 (x_L 47 (0, xi_load 0 2 48, 0, 0)) (x_L 48 (0, xi_load 1 0 49, 0, 0))) (x_T 49 (x_L 49 (0, xi_putf 10 0 0 52, 0, 0)) (x_L 52 (1, x_nof, 0, 0)))))))
set_option maxRecDepth 20000 in
set_option maxHeartbeats 4000000 in
theorem tb_26_0_ok (K : xKx) : ∀ pc, x_EOq cls K xI m_26 pc (tb_26_0 pc) :=
  (x_Tok2
  (x_Tok2
  (x_Tok2
  (x_Tok2
  (x_Lok (x_st (I := xI) (xr_aload_n (i := 0) (x_dk dl_26_ok 0 rfl))))
  (x_Tok2
  (x_Lok (x_st (I := xI) (xr_oi (ix := 3) (in_t3 (List.mem_of_getElem? (i := 8) rfl) rfl) (in_t1 (List.mem_of_getElem? (i := 27) rfl) rfl) (in_t1 (List.mem_of_getElem? (i := 28) rfl) rfl) (x_dk dl_26_ok 1 rfl))))
  (x_Lok (x_st (I := xI) (xr_aload_n (i := 0) (x_dk dl_26_ok 2 rfl))))))
  (x_Tok2
  (x_Lok (x_st (I := xI) (xr_bipush (n := 20) (z := 20) (v := 20) (x_dk dl_26_ok 3 rfl) (by decide) (by decide))))
  (x_Tok2
  (x_Lok (x_st (I := xI) (xr_newa (kd := 1) (b := false) (ty := .int) rfl rfl (in_t1 (List.mem_of_getElem? (i := 64) rfl) rfl) (x_dk dl_26_ok 4 rfl))))
  (x_Lok (x_st (I := xI) (xr_putF (ci := 10) (k := 16) (ix := 11) (N := 21) (fk := 2) (C := RX10) (T := TX10) (ty0 := tyX10) (ty := .array .int) rfl in_X10 tyX10_ok nmX10 (by decide) (in_t3 (List.mem_of_getElem? (i := 40) rfl) rfl) rfl rfl rfl rfl x_fit_arr (x_dk dl_26_ok 5 rfl)))))))
  (x_Tok2
  (x_Tok2
  (x_Lok (x_st (I := xI) (xr_aload_n (i := 0) (x_dk dl_26_ok 6 rfl))))
  (x_Tok2
  (x_Lok (x_st (I := xI) (xr_bipush (n := 20) (z := 20) (v := 20) (x_dk dl_26_ok 7 rfl) (by decide) (by decide))))
  (x_Lok (x_st (I := xI) (xr_newa (kd := 1) (b := false) (ty := .int) rfl rfl (in_t1 (List.mem_of_getElem? (i := 64) rfl) rfl) (x_dk dl_26_ok 8 rfl))))))
  (x_Tok2
  (x_Tok2
  (x_Lok (x_st (I := xI) (xr_putF (ci := 10) (k := 17) (ix := 15) (N := 21) (fk := 2) (C := RX10) (T := TX10) (ty0 := tyX10) (ty := .array .int) rfl in_X10 tyX10_ok nmX10 (by decide) (in_t3 (List.mem_of_getElem? (i := 41) rfl) rfl) rfl rfl rfl rfl x_fit_arr (x_dk dl_26_ok 9 rfl))))
  (x_Lok (x_st (I := xI) (xr_aload_n (i := 0) (x_dk dl_26_ok 10 rfl)))))
  (x_Tok2
  (x_Lok (x_st (I := xI) (xr_sipush (n := 600) (z := 600) (v := 600) (x_dk dl_26_ok 11 rfl) (by decide) (by decide))))
  (x_Lok (x_st (I := xI) (xr_newa (kd := 1) (b := false) (ty := .int) rfl rfl (in_t1 (List.mem_of_getElem? (i := 64) rfl) rfl) (x_dk dl_26_ok 12 rfl))))))))
  (x_Tok2
  (x_Tok2
  (x_Tok2
  (x_Lok (x_st (I := xI) (xr_putF (ci := 10) (k := 18) (ix := 18) (N := 21) (fk := 2) (C := RX10) (T := TX10) (ty0 := tyX10) (ty := .array .int) rfl in_X10 tyX10_ok nmX10 (by decide) (in_t3 (List.mem_of_getElem? (i := 42) rfl) rfl) rfl rfl rfl rfl x_fit_arr (x_dk dl_26_ok 13 rfl))))
  (x_Tok2
  (x_Lok (x_st (I := xI) (xr_aload_n (i := 0) (x_dk dl_26_ok 14 rfl))))
  (x_Lok (x_st (I := xI) (xr_sipush (n := 600) (z := 600) (v := 600) (x_dk dl_26_ok 15 rfl) (by decide) (by decide))))))
  (x_Tok2
  (x_Lok (x_st (I := xI) (xr_newa (kd := 1) (b := false) (ty := .int) rfl rfl (in_t1 (List.mem_of_getElem? (i := 64) rfl) rfl) (x_dk dl_26_ok 16 rfl))))
  (x_Tok2
  (x_Lok (x_st (I := xI) (xr_putF (ci := 10) (k := 19) (ix := 21) (N := 21) (fk := 2) (C := RX10) (T := TX10) (ty0 := tyX10) (ty := .array .int) rfl in_X10 tyX10_ok nmX10 (by decide) (in_t3 (List.mem_of_getElem? (i := 43) rfl) rfl) rfl rfl rfl rfl x_fit_arr (x_dk dl_26_ok 17 rfl))))
  (x_Lok (x_st (I := xI) (xr_aload_n (i := 0) (x_dk dl_26_ok 18 rfl)))))))
  (x_Tok2
  (x_Tok2
  (x_Lok (x_st (I := xI) (xr_sipush (n := 600) (z := 600) (v := 600) (x_dk dl_26_ok 19 rfl) (by decide) (by decide))))
  (x_Tok2
  (x_Lok (x_st (I := xI) (xr_newa (kd := 1) (b := false) (ty := .int) rfl rfl (in_t1 (List.mem_of_getElem? (i := 64) rfl) rfl) (x_dk dl_26_ok 20 rfl))))
  (x_Lok (x_st (I := xI) (xr_putF (ci := 10) (k := 20) (ix := 24) (N := 21) (fk := 2) (C := RX10) (T := TX10) (ty0 := tyX10) (ty := .array .int) rfl in_X10 tyX10_ok nmX10 (by decide) (in_t3 (List.mem_of_getElem? (i := 44) rfl) rfl) rfl rfl rfl rfl x_fit_arr (x_dk dl_26_ok 21 rfl))))))
  (x_Tok2
  (x_Tok2
  (x_Lok (x_st (I := xI) (xr_aload_n (i := 0) (x_dk dl_26_ok 22 rfl))))
  (x_Lok (x_st (I := xI) (xr_iload_n (i := 1) (x_dk dl_26_ok 23 rfl)))))
  (x_Tok2
  (x_Lok (x_st (I := xI) (xr_putF (ci := 10) (k := 0) (ix := 27) (N := 21) (fk := 0) (C := RX10) (T := TX10) (ty0 := tyX10) (ty := .int) rfl in_X10 tyX10_ok nmX10 (by decide) (in_t3 (List.mem_of_getElem? (i := 9) rfl) rfl) rfl rfl rfl rfl x_fit_int (x_dk dl_26_ok 24 rfl))))
  (x_Lok (x_rt (I := xI) (k := 0) ⟨(x_dk dl_26_ok 25 rfl), rfl⟩)))))))
def tb_26 : Nat → xE := tb_26_0
theorem tb_26_ok (K : xKx) : ∀ pc, x_EOq cls K xI m_26 pc (tb_26 pc) := tb_26_0_ok K
def dl_27 : List (Nat × Instr × Nat) := [(0, .aload_n 0, 1), (1, .iconst (-1), 1), (2, .iconst 0, 1), (3, .iconst 0, 1), (4, .invokevirtual 31, 3), (7, .aload_n 0, 1), (8, .iconst 0, 1), (9, .putfield 35, 3), (12, .aload_n 0, 1), (13, .iconst 0, 1), (14, .putfield 38, 3), (17, .return_, 1)]
set_option maxRecDepth 20000 in
theorem dl_27_ok : dl_27.all (fun q => decide (decode prog_12_method_2_code q.1 = .ok (q.2.1, q.2.2))) = true := by decide +kernel
def tb_27_0 : Nat → xE := (x_T 7 (x_T 2 (x_T 0 (x_L 0 (0, xi_load 0 2 1, 0, 0)) (x_T 1 (x_L 1 (0, xi_push (0, (-1), (-1)) 2, 0, 0)) (x_L 2 (0, xi_push (0, 0, 0) 3, 0, 0)))) (x_T 3 (x_L 3 (0, xi_push (0, 0, 0) 4, 0, 0)) (x_T 4 (x_L 4 (2, x_nof, 28, 4)) (x_L 7 (0, xi_load 0 2 8, 0, 0))))) (x_T 12 (x_T 8 (x_L 8 (0, xi_push (0, 0, 0) 9, 0, 0)) (x_T 9 (x_L 9 (0, xi_putf 10 1 0 12, 0, 0)) (x_L 12 (0, xi_load 0 2 13, 0, 0)))) (x_T 13 (x_L 13 (0, xi_push (0, 0, 0) 14, 0, 0)) (x_T 14 (x_L 14 (0, xi_putf 10 4 0 17, 0, 0)) (x_L 17 (1, x_nof, 0, 0))))))
set_option maxRecDepth 20000 in
set_option maxHeartbeats 4000000 in
theorem tb_27_0_ok (K : xKx) : ∀ pc, x_EOq cls K xI m_27 pc (tb_27_0 pc) :=
  (x_Tok2
  (x_Tok2
  (x_Tok2
  (x_Lok (x_st (I := xI) (xr_aload_n (i := 0) (x_dk dl_27_ok 0 rfl))))
  (x_Tok2
  (x_Lok (x_st (I := xI) (xr_iconst (n := (-1)) (z := (-1)) (v := (-1)) (x_dk dl_27_ok 1 rfl) (by decide) (by decide))))
  (x_Lok (x_st (I := xI) (xr_iconst (n := 0) (z := 0) (v := 0) (x_dk dl_27_ok 2 rfl) (by decide) (by decide))))))
  (x_Tok2
  (x_Lok (x_st (I := xI) (xr_iconst (n := 0) (z := 0) (v := 0) (x_dk dl_27_ok 3 rfl) (by decide) (by decide))))
  (x_Tok2
  (x_Lok (x_ca (I := xI) (q' := m_28) rfl (xr_callV (q' := m_28) (ix := 31) (n := 3) (in_t4 (List.mem_of_getElem? (i := 102) rfl) rfl) good_w (in_t1 (List.mem_of_getElem? (i := 10) rfl) rfl) (in_t4 (List.mem_of_getElem? (i := 99) rfl) rfl) (in_t4 (List.mem_of_getElem? (i := 100) rfl) rfl) (in_t4 (List.mem_of_getElem? (i := 101) rfl) rfl) (by decide +kernel) (by decide +kernel) (by decide +kernel) (x_dk dl_27_ok 4 rfl))))
  (x_Lok (x_st (I := xI) (xr_aload_n (i := 0) (x_dk dl_27_ok 5 rfl)))))))
  (x_Tok2
  (x_Tok2
  (x_Lok (x_st (I := xI) (xr_iconst (n := 0) (z := 0) (v := 0) (x_dk dl_27_ok 6 rfl) (by decide) (by decide))))
  (x_Tok2
  (x_Lok (x_st (I := xI) (xr_putf (ci := 10) (k := 1) (ix := 35) (N := 21) (fk := 0) (C := RX10) (T := TX10) (ty0 := tyX10) (ty := .int) rfl in_X10 tyX10_ok nmX10 (by decide) (in_t3 (List.mem_of_getElem? (i := 11) rfl) rfl) rfl rfl x_fit_int (x_dk dl_27_ok 7 rfl))))
  (x_Lok (x_st (I := xI) (xr_aload_n (i := 0) (x_dk dl_27_ok 8 rfl))))))
  (x_Tok2
  (x_Lok (x_st (I := xI) (xr_iconst (n := 0) (z := 0) (v := 0) (x_dk dl_27_ok 9 rfl) (by decide) (by decide))))
  (x_Tok2
  (x_Lok (x_st (I := xI) (xr_putf (ci := 10) (k := 4) (ix := 38) (N := 21) (fk := 0) (C := RX10) (T := TX10) (ty0 := tyX10) (ty := .int) rfl in_X10 tyX10_ok nmX10 (by decide) (in_t3 (List.mem_of_getElem? (i := 19) rfl) rfl) rfl rfl x_fit_int (x_dk dl_27_ok 10 rfl))))
  (x_Lok (x_rt (I := xI) (k := 0) ⟨(x_dk dl_27_ok 11 rfl), rfl⟩))))))
def tb_27 : Nat → xE := tb_27_0
theorem tb_27_ok (K : xKx) : ∀ pc, x_EOq cls K xI m_27 pc (tb_27 pc) := tb_27_0_ok K
def dl_28 : List (Nat × Instr × Nat) := [(0, .aload_n 0, 1), (1, .iconst 1, 1), (2, .putfield 35, 3), (5, .aload_n 0, 1), (6, .iload_n 1, 1), (7, .putfield 41, 3), (10, .aload_n 0, 1), (11, .iload_n 3, 1), (12, .putfield 44, 3), (15, .aload_n 0, 1), (16, .iconst 0, 1), (17, .putfield 47, 3), (20, .aload_n 0, 1), (21, .iconst 0, 1), (22, .putfield 50, 3), (25, .aload_n 0, 1), (26, .iconst 0, 1), (27, .putfield 53, 3), (30, .aload_n 0, 1), (31, .iconst (-1), 1), (32, .putfield 57, 3), (35, .aload_n 0, 1), (36, .iconst 0, 1), (37, .putfield 60, 3), (40, .aload_n 0, 1), (41, .iconst 0, 1), (42, .putfield 38, 3), (45, .aload_n 0, 1), (46, .iconst 0, 1), (47, .putfield 63, 3), (50, .aload_n 0, 1), (51, .iload_n 2, 1), (52, .invokevirtual 66, 3), (55, .pop, 1), (56, .return_, 1)]
set_option maxRecDepth 20000 in
theorem dl_28_ok : dl_28.all (fun q => decide (decode prog_12_method_3_code q.1 = .ok (q.2.1, q.2.2))) = true := by decide +kernel
def tb_28_0 : Nat → xE := (x_T 26 (x_T 11 (x_T 5 (x_T 1 (x_T 0 (x_L 0 (0, xi_load 0 2 1, 0, 0)) (x_L 1 (0, xi_push (0, 1, 1) 2, 0, 0))) (x_T 2 (x_L 2 (0, xi_putf 10 1 0 5, 0, 0)) (x_L 5 (0, xi_load 0 2 6, 0, 0)))) (x_T 7 (x_T 6 (x_L 6 (0, xi_load 1 0 7, 0, 0)) (x_L 7 (0, xi_putf 10 2 0 10, 0, 0))) (x_T 10 (x_L 10 (0, xi_load 0 2 11, 0, 0)) (x_L 11 (0, xi_load 3 0 12, 0, 0))))) (x_T 17 (x_T 15 (x_T 12 (x_L 12 (0, xi_putf 10 7 0 15, 0, 0)) (x_L 15 (0, xi_load 0 2 16, 0, 0))) (x_T 16 (x_L 16 (0, xi_push (0, 0, 0) 17, 0, 0)) (x_L 17 (0, xi_putf 10 5 0 20, 0, 0)))) (x_T 21 (x_T 20 (x_L 20 (0, xi_load 0 2 21, 0, 0)) (x_L 21 (0, xi_push (0, 0, 0) 22, 0, 0))) (x_T 22 (x_L 22 (0, xi_putf 10 6 0 25, 0, 0)) (x_T 25 (x_L 25 (0, xi_load 0 2 26, 0, 0)) (x_L 26 (0, xi_push (0, 0, 0) 27, 0, 0))))))) (x_T 41 (x_T 32 (x_T 30 (x_T 27 (x_L 27 (0, xi_putf 10 10 1 30, 0, 0)) (x_L 30 (0, xi_load 0 2 31, 0, 0))) (x_T 31 (x_L 31 (0, xi_push (0, (-1), (-1)) 32, 0, 0)) (x_L 32 (0, xi_putf 10 11 0 35, 0, 0)))) (x_T 36 (x_T 35 (x_L 35 (0, xi_load 0 2 36, 0, 0)) (x_L 36 (0, xi_push (0, 0, 0) 37, 0, 0))) (x_T 37 (x_L 37 (0, xi_putf 10 14 0 40, 0, 0)) (x_T 40 (x_L 40 (0, xi_load 0 2 41, 0, 0)) (x_L 41 (0, xi_push (0, 0, 0) 42, 0, 0)))))) (x_T 47 (x_T 45 (x_T 42 (x_L 42 (0, xi_putf 10 4 0 45, 0, 0)) (x_L 45 (0, xi_load 0 2 46, 0, 0))) (x_T 46 (x_L 46 (0, xi_push (0, 0, 0) 47, 0, 0)) (x_L 47 (0, xi_putf 10 15 0 50, 0, 0)))) (x_T 51 (x_T 50 (x_L 50 (0, xi_load 0 2 51, 0, 0)) (x_L 51 (0, xi_load 2 0 52, 0, 0))) (x_T 52 (x_L 52 (2, x_nof, 29, 2)) (x_T 55 (x_L 55 (0, xi_stk xf_pop 56, 0, 0)) (x_L 56 (1, x_nof, 0, 0))))))))
set_option maxRecDepth 20000 in
set_option maxHeartbeats 4000000 in
theorem tb_28_0_ok (K : xKx) : ∀ pc, x_EOq cls K xI m_28 pc (tb_28_0 pc) :=
  (x_Tok2
  (x_Tok2
  (x_Tok2
  (x_Tok2
  (x_Tok2
  (x_Lok (x_st (I := xI) (xr_aload_n (i := 0) (x_dk dl_28_ok 0 rfl))))
  (x_Lok (x_st (I := xI) (xr_iconst (n := 1) (z := 1) (v := 1) (x_dk dl_28_ok 1 rfl) (by decide) (by decide)))))
  (x_Tok2
  (x_Lok (x_st (I := xI) (xr_putf (ci := 10) (k := 1) (ix := 35) (N := 21) (fk := 0) (C := RX10) (T := TX10) (ty0 := tyX10) (ty := .int) rfl in_X10 tyX10_ok nmX10 (by decide) (in_t3 (List.mem_of_getElem? (i := 11) rfl) rfl) rfl rfl x_fit_int (x_dk dl_28_ok 2 rfl))))
  (x_Lok (x_st (I := xI) (xr_aload_n (i := 0) (x_dk dl_28_ok 3 rfl))))))
  (x_Tok2
  (x_Tok2
  (x_Lok (x_st (I := xI) (xr_iload_n (i := 1) (x_dk dl_28_ok 4 rfl))))
  (x_Lok (x_st (I := xI) (xr_putf (ci := 10) (k := 2) (ix := 41) (N := 21) (fk := 0) (C := RX10) (T := TX10) (ty0 := tyX10) (ty := .int) rfl in_X10 tyX10_ok nmX10 (by decide) (in_t3 (List.mem_of_getElem? (i := 14) rfl) rfl) rfl rfl x_fit_int (x_dk dl_28_ok 5 rfl)))))
  (x_Tok2
  (x_Lok (x_st (I := xI) (xr_aload_n (i := 0) (x_dk dl_28_ok 6 rfl))))
  (x_Lok (x_st (I := xI) (xr_iload_n (i := 3) (x_dk dl_28_ok 7 rfl)))))))
  (x_Tok2
  (x_Tok2
  (x_Tok2
  (x_Lok (x_st (I := xI) (xr_putf (ci := 10) (k := 7) (ix := 44) (N := 21) (fk := 0) (C := RX10) (T := TX10) (ty0 := tyX10) (ty := .int) rfl in_X10 tyX10_ok nmX10 (by decide) (in_t3 (List.mem_of_getElem? (i := 27) rfl) rfl) rfl rfl x_fit_int (x_dk dl_28_ok 8 rfl))))
  (x_Lok (x_st (I := xI) (xr_aload_n (i := 0) (x_dk dl_28_ok 9 rfl)))))
  (x_Tok2
  (x_Lok (x_st (I := xI) (xr_iconst (n := 0) (z := 0) (v := 0) (x_dk dl_28_ok 10 rfl) (by decide) (by decide))))
  (x_Lok (x_st (I := xI) (xr_putf (ci := 10) (k := 5) (ix := 47) (N := 21) (fk := 0) (C := RX10) (T := TX10) (ty0 := tyX10) (ty := .int) rfl in_X10 tyX10_ok nmX10 (by decide) (in_t3 (List.mem_of_getElem? (i := 22) rfl) rfl) rfl rfl x_fit_int (x_dk dl_28_ok 11 rfl))))))
  (x_Tok2
  (x_Tok2
  (x_Lok (x_st (I := xI) (xr_aload_n (i := 0) (x_dk dl_28_ok 12 rfl))))
  (x_Lok (x_st (I := xI) (xr_iconst (n := 0) (z := 0) (v := 0) (x_dk dl_28_ok 13 rfl) (by decide) (by decide)))))
  (x_Tok2
  (x_Lok (x_st (I := xI) (xr_putf (ci := 10) (k := 6) (ix := 50) (N := 21) (fk := 0) (C := RX10) (T := TX10) (ty0 := tyX10) (ty := .int) rfl in_X10 tyX10_ok nmX10 (by decide) (in_t3 (List.mem_of_getElem? (i := 25) rfl) rfl) rfl rfl x_fit_int (x_dk dl_28_ok 14 rfl))))
  (x_Tok2
  (x_Lok (x_st (I := xI) (xr_aload_n (i := 0) (x_dk dl_28_ok 15 rfl))))
  (x_Lok (x_st (I := xI) (xr_iconst (n := 0) (z := 0) (v := 0) (x_dk dl_28_ok 16 rfl) (by decide) (by decide)))))))))
  (x_Tok2
  (x_Tok2
  (x_Tok2
  (x_Tok2
  (x_Lok (x_st (I := xI) (xr_putf (ci := 10) (k := 10) (ix := 53) (N := 21) (fk := 1) (C := RX10) (T := TX10) (ty0 := tyX10) (ty := .boolean) rfl in_X10 tyX10_ok nmX10 (by decide) (in_t3 (List.mem_of_getElem? (i := 31) rfl) rfl) rfl rfl x_fit_bool (x_dk dl_28_ok 17 rfl))))
  (x_Lok (x_st (I := xI) (xr_aload_n (i := 0) (x_dk dl_28_ok 18 rfl)))))
  (x_Tok2
  (x_Lok (x_st (I := xI) (xr_iconst (n := (-1)) (z := (-1)) (v := (-1)) (x_dk dl_28_ok 19 rfl) (by decide) (by decide))))
  (x_Lok (x_st (I := xI) (xr_putf (ci := 10) (k := 11) (ix := 57) (N := 21) (fk := 0) (C := RX10) (T := TX10) (ty0 := tyX10) (ty := .int) rfl in_X10 tyX10_ok nmX10 (by decide) (in_t3 (List.mem_of_getElem? (i := 33) rfl) rfl) rfl rfl x_fit_int (x_dk dl_28_ok 20 rfl))))))
  (x_Tok2
  (x_Tok2
  (x_Lok (x_st (I := xI) (xr_aload_n (i := 0) (x_dk dl_28_ok 21 rfl))))
  (x_Lok (x_st (I := xI) (xr_iconst (n := 0) (z := 0) (v := 0) (x_dk dl_28_ok 22 rfl) (by decide) (by decide)))))
  (x_Tok2
  (x_Lok (x_st (I := xI) (xr_putf (ci := 10) (k := 14) (ix := 60) (N := 21) (fk := 0) (C := RX10) (T := TX10) (ty0 := tyX10) (ty := .int) rfl in_X10 tyX10_ok nmX10 (by decide) (in_t3 (List.mem_of_getElem? (i := 37) rfl) rfl) rfl rfl x_fit_int (x_dk dl_28_ok 23 rfl))))
  (x_Tok2
  (x_Lok (x_st (I := xI) (xr_aload_n (i := 0) (x_dk dl_28_ok 24 rfl))))
  (x_Lok (x_st (I := xI) (xr_iconst (n := 0) (z := 0) (v := 0) (x_dk dl_28_ok 25 rfl) (by decide) (by decide))))))))
  (x_Tok2
  (x_Tok2
  (x_Tok2
  (x_Lok (x_st (I := xI) (xr_putf (ci := 10) (k := 4) (ix := 38) (N := 21) (fk := 0) (C := RX10) (T := TX10) (ty0 := tyX10) (ty := .int) rfl in_X10 tyX10_ok nmX10 (by decide) (in_t3 (List.mem_of_getElem? (i := 19) rfl) rfl) rfl rfl x_fit_int (x_dk dl_28_ok 26 rfl))))
  (x_Lok (x_st (I := xI) (xr_aload_n (i := 0) (x_dk dl_28_ok 27 rfl)))))
  (x_Tok2
  (x_Lok (x_st (I := xI) (xr_iconst (n := 0) (z := 0) (v := 0) (x_dk dl_28_ok 28 rfl) (by decide) (by decide))))
  (x_Lok (x_st (I := xI) (xr_putf (ci := 10) (k := 15) (ix := 63) (N := 21) (fk := 0) (C := RX10) (T := TX10) (ty0 := tyX10) (ty := .int) rfl in_X10 tyX10_ok nmX10 (by decide) (in_t3 (List.mem_of_getElem? (i := 39) rfl) rfl) rfl rfl x_fit_int (x_dk dl_28_ok 29 rfl))))))
  (x_Tok2
  (x_Tok2
  (x_Lok (x_st (I := xI) (xr_aload_n (i := 0) (x_dk dl_28_ok 30 rfl))))
  (x_Lok (x_st (I := xI) (xr_iload_n (i := 2) (x_dk dl_28_ok 31 rfl)))))
  (x_Tok2
  (x_Lok (x_ca (I := xI) (q' := m_29) rfl (xr_callV (q' := m_29) (ix := 66) (n := 1) (in_t4 (List.mem_of_getElem? (i := 106) rfl) rfl) good_w (in_t1 (List.mem_of_getElem? (i := 10) rfl) rfl) (in_t4 (List.mem_of_getElem? (i := 103) rfl) rfl) (in_t4 (List.mem_of_getElem? (i := 104) rfl) rfl) (in_t4 (List.mem_of_getElem? (i := 105) rfl) rfl) (by decide +kernel) (by decide +kernel) (by decide +kernel) (x_dk dl_28_ok 32 rfl))))
  (x_Tok2
  (x_Lok (x_st (I := xI) (xr_pop (x_dk dl_28_ok 33 rfl))))
  (x_Lok (x_rt (I := xI) (k := 0) ⟨(x_dk dl_28_ok 34 rfl), rfl⟩))))))))
def tb_28 : Nat → xE := tb_28_0
theorem tb_28_ok (K : xKx) : ∀ pc, x_EOq cls K xI m_28 pc (tb_28 pc) := tb_28_0_ok K
def dl_29 : List (Nat × Instr × Nat) := [(0, .aload_n 0, 1), (1, .getfield 38, 3), (4, .bipush 20, 2), (6, .if_icmp .lt 5, 3), (11, .aload_n 0, 1), (12, .getfield 11, 3), (15, .aload_n 0, 1), (16, .getfield 38, 3), (19, .aload_n 0, 1), (20, .getfield 70, 3), (23, .iastore, 1), (24, .aload_n 0, 1), (25, .getfield 15, 3), (28, .aload_n 0, 1), (29, .getfield 38, 3), (32, .aload_n 0, 1), (33, .getfield 63, 3), (36, .iastore, 1), (37, .aload_n 0, 1), (38, .dup, 1), (39, .getfield 38, 3), (42, .iconst 1, 1), (43, .iadd, 1), (44, .putfield 38, 3), (47, .aload_n 0, 1), (48, .iload_n 1, 1), (49, .putfield 70, 3), (52, .iconst 1, 1), (53, .ireturn, 1)]
set_option maxRecDepth 20000 in
theorem dl_29_ok : dl_29.all (fun q => decide (decode prog_12_method_5_code q.1 = .ok (q.2.1, q.2.2))) = true := by decide +kernel
def tb_29_0 : Nat → xE := (x_T 28 (x_T 15 (x_T 4 (x_T 0 (x_L 0 (0, xi_load 0 2 1, 0, 0)) (x_T 1 (x_L 1 (0, xi_getf 10 4 4, 0, 0)) (x_L 4 (0, xi_push (0, 20, 20) 6, 0, 0)))) (x_T 11 (x_T 6 (x_L 6 (0, xi_if2 2 11 9, 0, 0)) (x_L 11 (0, xi_load 0 2 12, 0, 0))) (x_T 12 (x_L 12 (0, xi_getf 10 16 15, 0, 0)) (x_L 15 (0, xi_load 0 2 16, 0, 0))))) (x_T 20 (x_T 16 (x_L 16 (0, xi_getf 10 4 19, 0, 0)) (x_T 19 (x_L 19 (0, xi_load 0 2 20, 0, 0)) (x_L 20 (0, xi_getf 10 3 23, 0, 0)))) (x_T 24 (x_T 23 (x_L 23 (0, xi_ast false 24, 0, 0)) (x_L 24 (0, xi_load 0 2 25, 0, 0))) (x_T 25 (x_L 25 (0, xi_getf 10 17 28, 0, 0)) (x_L 28 (0, xi_load 0 2 29, 0, 0)))))) (x_T 39 (x_T 33 (x_T 29 (x_L 29 (0, xi_getf 10 4 32, 0, 0)) (x_T 32 (x_L 32 (0, xi_load 0 2 33, 0, 0)) (x_L 33 (0, xi_getf 10 15 36, 0, 0)))) (x_T 37 (x_T 36 (x_L 36 (0, xi_ast false 37, 0, 0)) (x_L 37 (0, xi_load 0 2 38, 0, 0))) (x_T 38 (x_L 38 (0, xi_stk xf_dup 39, 0, 0)) (x_L 39 (0, xi_getf 10 4 42, 0, 0))))) (x_T 47 (x_T 43 (x_T 42 (x_L 42 (0, xi_push (0, 1, 1) 43, 0, 0)) (x_L 43 (0, xi_bin xF_add 44, 0, 0))) (x_T 44 (x_L 44 (0, xi_putf 10 4 0 47, 0, 0)) (x_L 47 (0, xi_load 0 2 48, 0, 0)))) (x_T 49 (x_T 48 (x_L 48 (0, xi_load 1 0 49, 0, 0)) (x_L 49 (0, xi_putf 10 3 0 52, 0, 0))) (x_T 52 (x_L 52 (0, xi_push (0, 1, 1) 53, 0, 0)) (x_L 53 (1, x_nof, 4, 0)))))))
set_option maxRecDepth 20000 in
set_option maxHeartbeats 4000000 in
theorem tb_29_0_ok (K : xKx) : ∀ pc, x_EOq cls K xI m_29 pc (tb_29_0 pc) :=
  (x_Tok2
  (x_Tok2
  (x_Tok2
  (x_Tok2
  (x_Lok (x_st (I := xI) (xr_aload_n (i := 0) (x_dk dl_29_ok 0 rfl))))
  (x_Tok2
  (x_Lok (x_st (I := xI) (xr_getf (ci := 10) (k := 4) (ix := 38) (N := 21) (C := RX10) (T := TX10) rfl in_X10 (by decide) (in_t3 (List.mem_of_getElem? (i := 19) rfl) rfl) (x_dk dl_29_ok 1 rfl))))
  (x_Lok (x_st (I := xI) (xr_bipush (n := 20) (z := 20) (v := 20) (x_dk dl_29_ok 2 rfl) (by decide) (by decide))))))
  (x_Tok2
  (x_Tok2
  (x_Lok (x_st (I := xI) (xr_icmplt (off := 5) (tg := 11) (x_dk dl_29_ok 3 rfl) (by decide))))
  (x_Lok (x_st (I := xI) (xr_aload_n (i := 0) (x_dk dl_29_ok 4 rfl)))))
  (x_Tok2
  (x_Lok (x_st (I := xI) (xr_getf (ci := 10) (k := 16) (ix := 11) (N := 21) (C := RX10) (T := TX10) rfl in_X10 (by decide) (in_t3 (List.mem_of_getElem? (i := 40) rfl) rfl) (x_dk dl_29_ok 5 rfl))))
  (x_Lok (x_st (I := xI) (xr_aload_n (i := 0) (x_dk dl_29_ok 6 rfl)))))))
  (x_Tok2
  (x_Tok2
  (x_Lok (x_st (I := xI) (xr_getf (ci := 10) (k := 4) (ix := 38) (N := 21) (C := RX10) (T := TX10) rfl in_X10 (by decide) (in_t3 (List.mem_of_getElem? (i := 19) rfl) rfl) (x_dk dl_29_ok 7 rfl))))
  (x_Tok2
  (x_Lok (x_st (I := xI) (xr_aload_n (i := 0) (x_dk dl_29_ok 8 rfl))))
  (x_Lok (x_st (I := xI) (xr_getf (ci := 10) (k := 3) (ix := 70) (N := 21) (C := RX10) (T := TX10) rfl in_X10 (by decide) (in_t3 (List.mem_of_getElem? (i := 17) rfl) rfl) (x_dk dl_29_ok 9 rfl))))))
  (x_Tok2
  (x_Tok2
  (x_Lok (x_st (I := xI) (xr_iastore (x_dk dl_29_ok 10 rfl))))
  (x_Lok (x_st (I := xI) (xr_aload_n (i := 0) (x_dk dl_29_ok 11 rfl)))))
  (x_Tok2
  (x_Lok (x_st (I := xI) (xr_getf (ci := 10) (k := 17) (ix := 15) (N := 21) (C := RX10) (T := TX10) rfl in_X10 (by decide) (in_t3 (List.mem_of_getElem? (i := 41) rfl) rfl) (x_dk dl_29_ok 12 rfl))))
  (x_Lok (x_st (I := xI) (xr_aload_n (i := 0) (x_dk dl_29_ok 13 rfl))))))))
  (x_Tok2
  (x_Tok2
  (x_Tok2
  (x_Lok (x_st (I := xI) (xr_getf (ci := 10) (k := 4) (ix := 38) (N := 21) (C := RX10) (T := TX10) rfl in_X10 (by decide) (in_t3 (List.mem_of_getElem? (i := 19) rfl) rfl) (x_dk dl_29_ok 14 rfl))))
  (x_Tok2
  (x_Lok (x_st (I := xI) (xr_aload_n (i := 0) (x_dk dl_29_ok 15 rfl))))
  (x_Lok (x_st (I := xI) (xr_getf (ci := 10) (k := 15) (ix := 63) (N := 21) (C := RX10) (T := TX10) rfl in_X10 (by decide) (in_t3 (List.mem_of_getElem? (i := 39) rfl) rfl) (x_dk dl_29_ok 16 rfl))))))
  (x_Tok2
  (x_Tok2
  (x_Lok (x_st (I := xI) (xr_iastore (x_dk dl_29_ok 17 rfl))))
  (x_Lok (x_st (I := xI) (xr_aload_n (i := 0) (x_dk dl_29_ok 18 rfl)))))
  (x_Tok2
  (x_Lok (x_st (I := xI) (xr_dup (x_dk dl_29_ok 19 rfl))))
  (x_Lok (x_st (I := xI) (xr_getf (ci := 10) (k := 4) (ix := 38) (N := 21) (C := RX10) (T := TX10) rfl in_X10 (by decide) (in_t3 (List.mem_of_getElem? (i := 19) rfl) rfl) (x_dk dl_29_ok 20 rfl)))))))
  (x_Tok2
  (x_Tok2
  (x_Tok2
  (x_Lok (x_st (I := xI) (xr_iconst (n := 1) (z := 1) (v := 1) (x_dk dl_29_ok 21 rfl) (by decide) (by decide))))
  (x_Lok (x_st (I := xI) (xr_iadd (x_dk dl_29_ok 22 rfl)))))
  (x_Tok2
  (x_Lok (x_st (I := xI) (xr_putf (ci := 10) (k := 4) (ix := 38) (N := 21) (fk := 0) (C := RX10) (T := TX10) (ty0 := tyX10) (ty := .int) rfl in_X10 tyX10_ok nmX10 (by decide) (in_t3 (List.mem_of_getElem? (i := 19) rfl) rfl) rfl rfl x_fit_int (x_dk dl_29_ok 23 rfl))))
  (x_Lok (x_st (I := xI) (xr_aload_n (i := 0) (x_dk dl_29_ok 24 rfl))))))
  (x_Tok2
  (x_Tok2
  (x_Lok (x_st (I := xI) (xr_iload_n (i := 1) (x_dk dl_29_ok 25 rfl))))
  (x_Lok (x_st (I := xI) (xr_putf (ci := 10) (k := 3) (ix := 70) (N := 21) (fk := 0) (C := RX10) (T := TX10) (ty0 := tyX10) (ty := .int) rfl in_X10 tyX10_ok nmX10 (by decide) (in_t3 (List.mem_of_getElem? (i := 17) rfl) rfl) rfl rfl x_fit_int (x_dk dl_29_ok 26 rfl)))))
  (x_Tok2
  (x_Lok (x_st (I := xI) (xr_iconst (n := 1) (z := 1) (v := 1) (x_dk dl_29_ok 27 rfl) (by decide) (by decide))))
  (x_Lok (x_rt (I := xI) (k := 4) ⟨(x_dk dl_29_ok 28 rfl), rfl⟩)))))))
def tb_29 : Nat → xE := tb_29_0
theorem tb_29_ok (K : xKx) : ∀ pc, x_EOq cls K xI m_29 pc (tb_29 pc) := tb_29_0_ok K
def dl_30 : List (Nat × Instr × Nat) := [(0, .aload_n 0, 1), (1, .invokespecial 1, 3), (4, .aload_n 0, 1), (5, .new 7, 3), (8, .dup, 1), (9, .invokespecial 9, 3), (12, .putfield 10, 3), (15, .aload_n 0, 1), (16, .new 16, 3), (19, .dup, 1), (20, .invokespecial 18, 3), (23, .putfield 19, 3), (26, .aload_n 0, 1), (27, .aload_n 0, 1), (28, .getfield 19, 3), (31, .getfield 23, 3), (34, .putfield 27, 3), (37, .aload_n 0, 1), (38, .aload_n 0, 1), (39, .getfield 19, 3), (42, .getfield 28, 3), (45, .putfield 32, 3), (48, .aload_n 0, 1), (49, .aload_n 0, 1), (50, .getfield 19, 3), (53, .getfield 33, 3), (56, .putfield 37, 3), (59, .aload_n 0, 1), (60, .aload_n 0, 1), (61, .getfield 19, 3), (64, .getfield 38, 3), (67, .putfield 42, 3), (70, .aload_n 0, 1), (71, .new 43, 3), (74, .dup, 1), (75, .invokespecial 45, 3), (78, .putfield 46, 3), (81, .aload_n 0, 1), (82, .new 50, 3), (85, .dup, 1), (86, .invokespecial 52, 3), (89, .putfield 53, 3), (92, .aload_n 0, 1), (93, .bipush 6, 2), (95, .newarray .int, 2), (97, .putfield 57, 3), (100, .aload_n 0, 1), (101, .sipush 8000, 3), (104, .newarray .int, 2), (106, .putfield 61, 3), (109, .aload_n 0, 1), (110, .iconst 4, 1), (111, .newarray .int, 2), (113, .putfield 64, 3), (116, .aload_n 0, 1), (117, .iconst 1, 1), (118, .putfield 67, 3), (121, .aload_n 0, 1), (122, .invokevirtual 71, 3), (125, .return_, 1)]
set_option maxRecDepth 20000 in
theorem dl_30_ok : dl_30.all (fun q => decide (decode prog_1_method_1_code q.1 = .ok (q.2.1, q.2.2))) = true := by decide +kernel
def tb_30_0 : Nat → xE := (x_T 28 (x_T 12 (x_T 4 (x_T 0 (x_L 0 (0, xi_load 0 2 1, 0, 0)) (x_T 1 (x_L 1 (0, xi_oi 4, 0, 0)) (x_L 4 (0, xi_load 0 2 5, 0, 0)))) (x_T 8 (x_T 5 (x_L 5 (0, xi_new (x_nc 8 ks_X8) (xm_c m_30) (xm_s m_30) 8, 0, 0)) (x_L 8 (0, xi_stk xf_dup 9, 0, 0))) (x_T 9 (x_L 9 (2, x_nof, 24, 1)) (x_L 12 (0, xi_putf 11 0 2 15, 0, 0))))) (x_T 20 (x_T 16 (x_T 15 (x_L 15 (0, xi_load 0 2 16, 0, 0)) (x_L 16 (0, xi_new (x_nc 3 ks_X3) (xm_c m_30) (xm_s m_30) 19, 0, 0))) (x_T 19 (x_L 19 (0, xi_stk xf_dup 20, 0, 0)) (x_L 20 (2, x_nof, 12, 1)))) (x_T 26 (x_T 23 (x_L 23 (0, xi_putf 11 1 2 26, 0, 0)) (x_L 26 (0, xi_load 0 2 27, 0, 0))) (x_T 27 (x_L 27 (0, xi_load 0 2 28, 0, 0)) (x_L 28 (0, xi_getf 11 1 31, 0, 0)))))) (x_T 45 (x_T 37 (x_T 31 (x_L 31 (0, xi_getf 3 0 34, 0, 0)) (x_T 34 (x_L 34 (0, xi_putf 11 2 2 37, 0, 0)) (x_L 37 (0, xi_load 0 2 38, 0, 0)))) (x_T 39 (x_T 38 (x_L 38 (0, xi_load 0 2 39, 0, 0)) (x_L 39 (0, xi_getf 11 1 42, 0, 0))) (x_T 42 (x_L 42 (0, xi_getf 3 1 45, 0, 0)) (x_L 45 (0, xi_putf 11 3 2 48, 0, 0))))) (x_T 53 (x_T 49 (x_T 48 (x_L 48 (0, xi_load 0 2 49, 0, 0)) (x_L 49 (0, xi_load 0 2 50, 0, 0))) (x_T 50 (x_L 50 (0, xi_getf 11 1 53, 0, 0)) (x_L 53 (0, xi_getf 3 2 56, 0, 0)))) (x_T 59 (x_T 56 (x_L 56 (0, xi_putf 11 4 2 59, 0, 0)) (x_L 59 (0, xi_load 0 2 60, 0, 0))) (x_T 60 (x_L 60 (0, xi_load 0 2 61, 0, 0)) (x_L 61 (0, xi_getf 11 1 64, 0, 0)))))))
set_option maxRecDepth 20000 in
set_option maxHeartbeats 4000000 in
theorem tb_30_0_ok (K : xKx) : ∀ pc, x_EOq cls K xI m_30 pc (tb_30_0 pc) :=
  (x_Tok2
  (x_Tok2
  (x_Tok2
  (x_Tok2
  (x_Lok (x_st (I := xI) (xr_aload_n (i := 0) (x_dk dl_30_ok 0 rfl))))
  (x_Tok2
  (x_Lok (x_st (I := xI) (xr_oi (ix := 1) (in_t1 (List.mem_of_getElem? (i := 26) rfl) rfl) (in_t1 (List.mem_of_getElem? (i := 27) rfl) rfl) (in_t1 (List.mem_of_getElem? (i := 28) rfl) rfl) (x_dk dl_30_ok 1 rfl))))
  (x_Lok (x_st (I := xI) (xr_aload_n (i := 0) (x_dk dl_30_ok 2 rfl))))))
  (x_Tok2
  (x_Tok2
  (x_Lok (x_st (I := xI) (xr_new (ci := 8) (ix := 7) (N := 17) (C := RX8) (T := TX8) (ty0 := tyX8) (ks := ks_X8) rfl in_X8 tyX8_ok (in_t1 (List.mem_of_getElem? (i := 29) rfl) rfl) (in_t1 (List.mem_of_getElem? (i := 30) rfl) rfl) (in_t1 (List.mem_of_getElem? (i := 2) rfl) rfl) rfl df_X8 (x_dk dl_30_ok 3 rfl))))
  (x_Lok (x_st (I := xI) (xr_dup (x_dk dl_30_ok 4 rfl)))))
  (x_Tok2
  (x_Lok (x_ca (I := xI) (q' := m_24) rfl (xr_callIN (q' := m_24) (ix := 9) (n := 0) (host := "RobotCellHouse") (in_t1 (List.mem_of_getElem? (i := 33) rfl) rfl) good_w (in_t1 (List.mem_of_getElem? (i := 2) rfl) rfl) (List.mem_of_getElem? (i := 0) rfl) (in_t1 (List.mem_of_getElem? (i := 32) rfl) rfl) rfl rfl (by decide +kernel) (by decide +kernel) (by decide +kernel) (x_dk dl_30_ok 5 rfl))))
  (x_Lok (x_st (I := xI) (xr_putF (ci := 11) (k := 0) (ix := 10) (N := 15) (fk := 2) (C := RX11) (T := TX11) (ty0 := tyX11) (ty := .object "RobotCellHouse$Reader") rfl in_X11 tyX11_ok nmX11 (by decide) (in_t4 (List.mem_of_getElem? (i := 108) rfl) rfl) rfl rfl rfl rfl x_fit_obj (x_dk dl_30_ok 6 rfl)))))))
  (x_Tok2
  (x_Tok2
  (x_Tok2
  (x_Lok (x_st (I := xI) (xr_aload_n (i := 0) (x_dk dl_30_ok 7 rfl))))
  (x_Lok (x_st (I := xI) (xr_new (ci := 3) (ix := 16) (N := 12) (C := RX3) (T := TX3) (ty0 := tyX3) (ks := ks_X3) rfl in_X3 tyX3_ok (in_t1 (List.mem_of_getElem? (i := 122) rfl) rfl) (in_t1 (List.mem_of_getElem? (i := 123) rfl) rfl) (in_t1 (List.mem_of_getElem? (i := 4) rfl) rfl) rfl df_X3 (x_dk dl_30_ok 8 rfl)))))
  (x_Tok2
  (x_Lok (x_st (I := xI) (xr_dup (x_dk dl_30_ok 9 rfl))))
  (x_Lok (x_ca (I := xI) (q' := m_12) rfl (xr_callI (q' := m_12) (ix := 18) (n := 0) (in_t1 (List.mem_of_getElem? (i := 126) rfl) rfl) good_w (in_t1 (List.mem_of_getElem? (i := 4) rfl) rfl) (in_t1 (List.mem_of_getElem? (i := 124) rfl) rfl) (in_t1 (List.mem_of_getElem? (i := 125) rfl) rfl) rfl rfl (by decide +kernel) (by decide +kernel) (by decide +kernel) (x_dk dl_30_ok 10 rfl))))))
  (x_Tok2
  (x_Tok2
  (x_Lok (x_st (I := xI) (xr_putF (ci := 11) (k := 1) (ix := 19) (N := 15) (fk := 2) (C := RX11) (T := TX11) (ty0 := tyX11) (ty := .object "RobotCellHouse$Doer") rfl in_X11 tyX11_ok nmX11 (by decide) (in_t4 (List.mem_of_getElem? (i := 109) rfl) rfl) rfl rfl rfl rfl x_fit_obj (x_dk dl_30_ok 11 rfl))))
  (x_Lok (x_st (I := xI) (xr_aload_n (i := 0) (x_dk dl_30_ok 12 rfl)))))
  (x_Tok2
  (x_Lok (x_st (I := xI) (xr_aload_n (i := 0) (x_dk dl_30_ok 13 rfl))))
  (x_Lok (x_st (I := xI) (xr_getf (ci := 11) (k := 1) (ix := 19) (N := 15) (C := RX11) (T := TX11) rfl in_X11 (by decide) (in_t4 (List.mem_of_getElem? (i := 109) rfl) rfl) (x_dk dl_30_ok 14 rfl))))))))
  (x_Tok2
  (x_Tok2
  (x_Tok2
  (x_Lok (x_st (I := xI) (xr_getf (ci := 3) (k := 0) (ix := 23) (N := 12) (C := RX3) (T := TX3) rfl in_X3 (by decide) (in_t3 (List.mem_of_getElem? (i := 89) rfl) rfl) (x_dk dl_30_ok 15 rfl))))
  (x_Tok2
  (x_Lok (x_st (I := xI) (xr_putF (ci := 11) (k := 2) (ix := 27) (N := 15) (fk := 2) (C := RX11) (T := TX11) (ty0 := tyX11) (ty := .array (.object "RobotCellHouse$Arm")) rfl in_X11 tyX11_ok nmX11 (by decide) (in_t4 (List.mem_of_getElem? (i := 110) rfl) rfl) rfl rfl rfl rfl x_fit_arr (x_dk dl_30_ok 16 rfl))))
  (x_Lok (x_st (I := xI) (xr_aload_n (i := 0) (x_dk dl_30_ok 17 rfl))))))
  (x_Tok2
  (x_Tok2
  (x_Lok (x_st (I := xI) (xr_aload_n (i := 0) (x_dk dl_30_ok 18 rfl))))
  (x_Lok (x_st (I := xI) (xr_getf (ci := 11) (k := 1) (ix := 19) (N := 15) (C := RX11) (T := TX11) rfl in_X11 (by decide) (in_t4 (List.mem_of_getElem? (i := 109) rfl) rfl) (x_dk dl_30_ok 19 rfl)))))
  (x_Tok2
  (x_Lok (x_st (I := xI) (xr_getf (ci := 3) (k := 1) (ix := 28) (N := 12) (C := RX3) (T := TX3) rfl in_X3 (by decide) (in_t3 (List.mem_of_getElem? (i := 91) rfl) rfl) (x_dk dl_30_ok 20 rfl))))
  (x_Lok (x_st (I := xI) (xr_putF (ci := 11) (k := 3) (ix := 32) (N := 15) (fk := 2) (C := RX11) (T := TX11) (ty0 := tyX11) (ty := .object "RobotCellHouse$Points") rfl in_X11 tyX11_ok nmX11 (by decide) (in_t4 (List.mem_of_getElem? (i := 111) rfl) rfl) rfl rfl rfl rfl x_fit_obj (x_dk dl_30_ok 21 rfl)))))))
  (x_Tok2
  (x_Tok2
  (x_Tok2
  (x_Lok (x_st (I := xI) (xr_aload_n (i := 0) (x_dk dl_30_ok 22 rfl))))
  (x_Lok (x_st (I := xI) (xr_aload_n (i := 0) (x_dk dl_30_ok 23 rfl)))))
  (x_Tok2
  (x_Lok (x_st (I := xI) (xr_getf (ci := 11) (k := 1) (ix := 19) (N := 15) (C := RX11) (T := TX11) rfl in_X11 (by decide) (in_t4 (List.mem_of_getElem? (i := 109) rfl) rfl) (x_dk dl_30_ok 24 rfl))))
  (x_Lok (x_st (I := xI) (xr_getf (ci := 3) (k := 2) (ix := 33) (N := 12) (C := RX3) (T := TX3) rfl in_X3 (by decide) (in_t3 (List.mem_of_getElem? (i := 93) rfl) rfl) (x_dk dl_30_ok 25 rfl))))))
  (x_Tok2
  (x_Tok2
  (x_Lok (x_st (I := xI) (xr_putF (ci := 11) (k := 4) (ix := 37) (N := 15) (fk := 2) (C := RX11) (T := TX11) (ty0 := tyX11) (ty := .object "RobotCellHouse$Floor") rfl in_X11 tyX11_ok nmX11 (by decide) (in_t4 (List.mem_of_getElem? (i := 112) rfl) rfl) rfl rfl rfl rfl x_fit_obj (x_dk dl_30_ok 26 rfl))))
  (x_Lok (x_st (I := xI) (xr_aload_n (i := 0) (x_dk dl_30_ok 27 rfl)))))
  (x_Tok2
  (x_Lok (x_st (I := xI) (xr_aload_n (i := 0) (x_dk dl_30_ok 28 rfl))))
  (x_Lok (x_st (I := xI) (xr_getf (ci := 11) (k := 1) (ix := 19) (N := 15) (C := RX11) (T := TX11) rfl in_X11 (by decide) (in_t4 (List.mem_of_getElem? (i := 109) rfl) rfl) (x_dk dl_30_ok 29 rfl)))))))))
def tb_30_30 : Nat → xE := (x_T 95 (x_T 78 (x_T 70 (x_T 64 (x_L 64 (0, xi_getf 3 3 67, 0, 0)) (x_T 67 (x_L 67 (0, xi_putf 11 5 2 70, 0, 0)) (x_L 70 (0, xi_load 0 2 71, 0, 0)))) (x_T 74 (x_T 71 (x_L 71 (0, xi_new (x_nc 9 ks_X9) (xm_c m_30) (xm_s m_30) 74, 0, 0)) (x_L 74 (0, xi_stk xf_dup 75, 0, 0))) (x_T 75 (x_L 75 (2, x_nof, 25, 1)) (x_L 78 (0, xi_putf 11 6 2 81, 0, 0))))) (x_T 86 (x_T 82 (x_T 81 (x_L 81 (0, xi_load 0 2 82, 0, 0)) (x_L 82 (0, xi_new (x_nc 6 ks_X6) (xm_c m_30) (xm_s m_30) 85, 0, 0))) (x_T 85 (x_L 85 (0, xi_stk xf_dup 86, 0, 0)) (x_L 86 (2, x_nof, 17, 1)))) (x_T 92 (x_T 89 (x_L 89 (0, xi_putf 11 7 2 92, 0, 0)) (x_L 92 (0, xi_load 0 2 93, 0, 0))) (x_T 93 (x_L 93 (0, xi_push (0, 6, 6) 95, 0, 0)) (x_L 95 (0, xi_newa 1 0 (0, 0, 0) (xm_c m_30) (xm_s m_30) 97, 0, 0)))))) (x_T 110 (x_T 101 (x_T 97 (x_L 97 (0, xi_putf 11 8 2 100, 0, 0)) (x_T 100 (x_L 100 (0, xi_load 0 2 101, 0, 0)) (x_L 101 (0, xi_push (0, 8000, 8000) 104, 0, 0)))) (x_T 106 (x_T 104 (x_L 104 (0, xi_newa 1 0 (0, 0, 0) (xm_c m_30) (xm_s m_30) 106, 0, 0)) (x_L 106 (0, xi_putf 11 9 2 109, 0, 0))) (x_T 109 (x_L 109 (0, xi_load 0 2 110, 0, 0)) (x_L 110 (0, xi_push (0, 4, 4) 111, 0, 0))))) (x_T 117 (x_T 113 (x_T 111 (x_L 111 (0, xi_newa 1 0 (0, 0, 0) (xm_c m_30) (xm_s m_30) 113, 0, 0)) (x_L 113 (0, xi_putf 11 10 2 116, 0, 0))) (x_T 116 (x_L 116 (0, xi_load 0 2 117, 0, 0)) (x_L 117 (0, xi_push (0, 1, 1) 118, 0, 0)))) (x_T 121 (x_T 118 (x_L 118 (0, xi_putf 11 14 1 121, 0, 0)) (x_L 121 (0, xi_load 0 2 122, 0, 0))) (x_T 122 (x_L 122 (2, x_nof, 31, 1)) (x_L 125 (1, x_nof, 0, 0)))))))
set_option maxRecDepth 20000 in
set_option maxHeartbeats 4000000 in
theorem tb_30_30_ok (K : xKx) : ∀ pc, x_EOq cls K xI m_30 pc (tb_30_30 pc) :=
  (x_Tok2
  (x_Tok2
  (x_Tok2
  (x_Tok2
  (x_Lok (x_st (I := xI) (xr_getf (ci := 3) (k := 3) (ix := 38) (N := 12) (C := RX3) (T := TX3) rfl in_X3 (by decide) (in_t3 (List.mem_of_getElem? (i := 95) rfl) rfl) (x_dk dl_30_ok 30 rfl))))
  (x_Tok2
  (x_Lok (x_st (I := xI) (xr_putF (ci := 11) (k := 5) (ix := 42) (N := 15) (fk := 2) (C := RX11) (T := TX11) (ty0 := tyX11) (ty := .object "RobotCellHouse$Core") rfl in_X11 tyX11_ok nmX11 (by decide) (in_t4 (List.mem_of_getElem? (i := 113) rfl) rfl) rfl rfl rfl rfl x_fit_obj (x_dk dl_30_ok 31 rfl))))
  (x_Lok (x_st (I := xI) (xr_aload_n (i := 0) (x_dk dl_30_ok 32 rfl))))))
  (x_Tok2
  (x_Tok2
  (x_Lok (x_st (I := xI) (xr_new (ci := 9) (ix := 43) (N := 17) (C := RX9) (T := TX9) (ty0 := tyX9) (ks := ks_X9) rfl in_X9 tyX9_ok (in_t3 (List.mem_of_getElem? (i := 131) rfl) rfl) (in_t3 (List.mem_of_getElem? (i := 132) rfl) rfl) (in_t1 (List.mem_of_getElem? (i := 11) rfl) rfl) rfl df_X9 (x_dk dl_30_ok 33 rfl))))
  (x_Lok (x_st (I := xI) (xr_dup (x_dk dl_30_ok 34 rfl)))))
  (x_Tok2
  (x_Lok (x_ca (I := xI) (q' := m_25) rfl (xr_callIN (q' := m_25) (ix := 45) (n := 0) (host := "RobotCellHouse") (in_t3 (List.mem_of_getElem? (i := 135) rfl) rfl) good_w (in_t1 (List.mem_of_getElem? (i := 11) rfl) rfl) (List.mem_of_getElem? (i := 7) rfl) (in_t3 (List.mem_of_getElem? (i := 134) rfl) rfl) rfl rfl (by decide +kernel) (by decide +kernel) (by decide +kernel) (x_dk dl_30_ok 35 rfl))))
  (x_Lok (x_st (I := xI) (xr_putF (ci := 11) (k := 6) (ix := 46) (N := 15) (fk := 2) (C := RX11) (T := TX11) (ty0 := tyX11) (ty := .object "RobotCellHouse$Shapes") rfl in_X11 tyX11_ok nmX11 (by decide) (in_t4 (List.mem_of_getElem? (i := 114) rfl) rfl) rfl rfl rfl rfl x_fit_obj (x_dk dl_30_ok 36 rfl)))))))
  (x_Tok2
  (x_Tok2
  (x_Tok2
  (x_Lok (x_st (I := xI) (xr_aload_n (i := 0) (x_dk dl_30_ok 37 rfl))))
  (x_Lok (x_st (I := xI) (xr_new (ci := 6) (ix := 50) (N := 13) (C := RX6) (T := TX6) (ty0 := tyX6) (ks := ks_X6) rfl in_X6 tyX6_ok (in_t3 (List.mem_of_getElem? (i := 192) rfl) rfl) (in_t3 (List.mem_of_getElem? (i := 193) rfl) rfl) (in_t1 (List.mem_of_getElem? (i := 12) rfl) rfl) rfl df_X6 (x_dk dl_30_ok 38 rfl)))))
  (x_Tok2
  (x_Lok (x_st (I := xI) (xr_dup (x_dk dl_30_ok 39 rfl))))
  (x_Lok (x_ca (I := xI) (q' := m_17) rfl (xr_callIN (q' := m_17) (ix := 52) (n := 0) (host := "RobotCellHouse") (in_t3 (List.mem_of_getElem? (i := 196) rfl) rfl) good_w (in_t1 (List.mem_of_getElem? (i := 12) rfl) rfl) (List.mem_of_getElem? (i := 8) rfl) (in_t3 (List.mem_of_getElem? (i := 195) rfl) rfl) rfl rfl (by decide +kernel) (by decide +kernel) (by decide +kernel) (x_dk dl_30_ok 40 rfl))))))
  (x_Tok2
  (x_Tok2
  (x_Lok (x_st (I := xI) (xr_putF (ci := 11) (k := 7) (ix := 53) (N := 15) (fk := 2) (C := RX11) (T := TX11) (ty0 := tyX11) (ty := .object "RobotCellHouse$Planner") rfl in_X11 tyX11_ok nmX11 (by decide) (in_t4 (List.mem_of_getElem? (i := 115) rfl) rfl) rfl rfl rfl rfl x_fit_obj (x_dk dl_30_ok 41 rfl))))
  (x_Lok (x_st (I := xI) (xr_aload_n (i := 0) (x_dk dl_30_ok 42 rfl)))))
  (x_Tok2
  (x_Lok (x_st (I := xI) (xr_bipush (n := 6) (z := 6) (v := 6) (x_dk dl_30_ok 43 rfl) (by decide) (by decide))))
  (x_Lok (x_st (I := xI) (xr_newa (kd := 1) (b := false) (ty := .int) rfl rfl (in_t1 (List.mem_of_getElem? (i := 64) rfl) rfl) (x_dk dl_30_ok 44 rfl))))))))
  (x_Tok2
  (x_Tok2
  (x_Tok2
  (x_Lok (x_st (I := xI) (xr_putF (ci := 11) (k := 8) (ix := 57) (N := 15) (fk := 2) (C := RX11) (T := TX11) (ty0 := tyX11) (ty := .array .int) rfl in_X11 tyX11_ok nmX11 (by decide) (in_t4 (List.mem_of_getElem? (i := 116) rfl) rfl) rfl rfl rfl rfl x_fit_arr (x_dk dl_30_ok 45 rfl))))
  (x_Tok2
  (x_Lok (x_st (I := xI) (xr_aload_n (i := 0) (x_dk dl_30_ok 46 rfl))))
  (x_Lok (x_st (I := xI) (xr_sipush (n := 8000) (z := 8000) (v := 8000) (x_dk dl_30_ok 47 rfl) (by decide) (by decide))))))
  (x_Tok2
  (x_Tok2
  (x_Lok (x_st (I := xI) (xr_newa (kd := 1) (b := false) (ty := .int) rfl rfl (in_t1 (List.mem_of_getElem? (i := 64) rfl) rfl) (x_dk dl_30_ok 48 rfl))))
  (x_Lok (x_st (I := xI) (xr_putF (ci := 11) (k := 9) (ix := 61) (N := 15) (fk := 2) (C := RX11) (T := TX11) (ty0 := tyX11) (ty := .array .int) rfl in_X11 tyX11_ok nmX11 (by decide) (in_t4 (List.mem_of_getElem? (i := 117) rfl) rfl) rfl rfl rfl rfl x_fit_arr (x_dk dl_30_ok 49 rfl)))))
  (x_Tok2
  (x_Lok (x_st (I := xI) (xr_aload_n (i := 0) (x_dk dl_30_ok 50 rfl))))
  (x_Lok (x_st (I := xI) (xr_iconst (n := 4) (z := 4) (v := 4) (x_dk dl_30_ok 51 rfl) (by decide) (by decide)))))))
  (x_Tok2
  (x_Tok2
  (x_Tok2
  (x_Lok (x_st (I := xI) (xr_newa (kd := 1) (b := false) (ty := .int) rfl rfl (in_t1 (List.mem_of_getElem? (i := 64) rfl) rfl) (x_dk dl_30_ok 52 rfl))))
  (x_Lok (x_st (I := xI) (xr_putF (ci := 11) (k := 10) (ix := 64) (N := 15) (fk := 2) (C := RX11) (T := TX11) (ty0 := tyX11) (ty := .array .int) rfl in_X11 tyX11_ok nmX11 (by decide) (in_t4 (List.mem_of_getElem? (i := 118) rfl) rfl) rfl rfl rfl rfl x_fit_arr (x_dk dl_30_ok 53 rfl)))))
  (x_Tok2
  (x_Lok (x_st (I := xI) (xr_aload_n (i := 0) (x_dk dl_30_ok 54 rfl))))
  (x_Lok (x_st (I := xI) (xr_iconst (n := 1) (z := 1) (v := 1) (x_dk dl_30_ok 55 rfl) (by decide) (by decide))))))
  (x_Tok2
  (x_Tok2
  (x_Lok (x_st (I := xI) (xr_putf (ci := 11) (k := 14) (ix := 67) (N := 15) (fk := 1) (C := RX11) (T := TX11) (ty0 := tyX11) (ty := .boolean) rfl in_X11 tyX11_ok nmX11 (by decide) (in_t4 (List.mem_of_getElem? (i := 122) rfl) rfl) rfl rfl x_fit_bool (x_dk dl_30_ok 56 rfl))))
  (x_Lok (x_st (I := xI) (xr_aload_n (i := 0) (x_dk dl_30_ok 57 rfl)))))
  (x_Tok2
  (x_Lok (x_ca (I := xI) (q' := m_31) rfl (xr_callV (q' := m_31) (ix := 71) (n := 0) (in_t4 (List.mem_of_getElem? (i := 2) rfl) rfl) good_w (in_t1 (List.mem_of_getElem? (i := 1) rfl) rfl) (in_t3 (List.mem_of_getElem? (i := 239) rfl) rfl) (in_t4 (List.mem_of_getElem? (i := 1) rfl) rfl) (in_s1 (List.mem_of_getElem? (i := 0) rfl)) (by decide +kernel) (by decide +kernel) (by decide +kernel) (x_dk dl_30_ok 58 rfl))))
  (x_Lok (x_rt (I := xI) (k := 0) ⟨(x_dk dl_30_ok 59 rfl), rfl⟩)))))))
def tb_30 : Nat → xE := (x_T 61 tb_30_0 tb_30_30)
theorem tb_30_ok (K : xKx) : ∀ pc, x_EOq cls K xI m_30 pc (tb_30 pc) := (x_Tok2 (tb_30_0_ok K) (tb_30_30_ok K))
def dl_31 : List (Nat × Instr × Nat) := [(0, .aload_n 0, 1), (1, .iconst 0, 1), (2, .putfield 94, 3), (5, .aload_n 0, 1), (6, .iconst 0, 1), (7, .putfield 246, 3), (10, .aload_n 0, 1), (11, .iconst 0, 1), (12, .putfield 91, 3), (15, .iconst 0, 1), (16, .istore_n 1, 1), (17, .iload_n 1, 1), (18, .iconst 4, 1), (19, .if_icmp .ge 22, 3), (22, .aload_n 0, 1), (23, .getfield 27, 3), (26, .iload_n 1, 1), (27, .aaload, 1), (28, .iconst 0, 1), (29, .iconst 0, 1), (30, .iconst 0, 1), (31, .iconst 0, 1), (32, .invokevirtual 97, 3), (35, .iinc 1 1, 3), (38, .goto (-21), 3), (41, .aload_n 0, 1), (42, .getfield 46, 3), (45, .iconst 0, 1), (46, .putfield 149, 3), (49, .aload_n 0, 1), (50, .getfield 46, 3), (53, .iconst 0, 1), (54, .putfield 198, 3), (57, .aload_n 0, 1), (58, .getfield 32, 3), (61, .invokevirtual 413, 3), (64, .aload_n 0, 1), (65, .getfield 37, 3), (68, .iconst 0, 1), (69, .putfield 167, 3), (72, .aload_n 0, 1), (73, .getfield 37, 3), (76, .iconst 0, 1), (77, .putfield 371, 3), (80, .aload_n 0, 1), (81, .getfield 42, 3), (84, .invokevirtual 414, 3), (87, .aload_n 0, 1), (88, .getfield 53, 3), (91, .iconst 0, 1), (92, .putfield 293, 3), (95, .aload_n 0, 1), (96, .getfield 64, 3), (99, .iconst 0, 1), (100, .invokestatic 415, 3), (103, .aload_n 0, 1), (104, .invokevirtual 249, 3), (107, .return_, 1)]
set_option maxRecDepth 20000 in
theorem dl_31_ok : dl_31.all (fun q => decide (decode prog_1_method_63_code q.1 = .ok (q.2.1, q.2.2))) = true := by decide +kernel
def tb_31_0 : Nat → xE := (x_T 19 (x_T 10 (x_T 2 (x_T 0 (x_L 0 (0, xi_load 0 2 1, 0, 0)) (x_T 1 (x_L 1 (0, xi_push (0, 0, 0) 2, 0, 0)) (x_L 2 (0, xi_putf 11 11 0 5, 0, 0)))) (x_T 6 (x_T 5 (x_L 5 (0, xi_load 0 2 6, 0, 0)) (x_L 6 (0, xi_push (0, 0, 0) 7, 0, 0))) (x_T 7 (x_L 7 (0, xi_putf 11 12 0 10, 0, 0)) (x_L 10 (0, xi_load 0 2 11, 0, 0))))) (x_T 15 (x_T 11 (x_L 11 (0, xi_push (0, 0, 0) 12, 0, 0)) (x_T 12 (x_L 12 (0, xi_putf 11 13 1 15, 0, 0)) (x_L 15 (0, xi_push (0, 0, 0) 16, 0, 0)))) (x_T 17 (x_T 16 (x_L 16 (0, xi_stor 1 0 17, 0, 0)) (x_L 17 (0, xi_load 1 0 18, 0, 0))) (x_T 18 (x_L 18 (0, xi_push (0, 4, 4) 19, 0, 0)) (x_L 19 (0, xi_if2 3 41 22, 0, 0)))))) (x_T 30 (x_T 26 (x_T 22 (x_L 22 (0, xi_load 0 2 23, 0, 0)) (x_T 23 (x_L 23 (0, xi_getf 11 2 26, 0, 0)) (x_L 26 (0, xi_load 1 0 27, 0, 0)))) (x_T 28 (x_T 27 (x_L 27 (0, xi_aald 28, 0, 0)) (x_L 28 (0, xi_push (0, 0, 0) 29, 0, 0))) (x_T 29 (x_L 29 (0, xi_push (0, 0, 0) 30, 0, 0)) (x_L 30 (0, xi_push (0, 0, 0) 31, 0, 0))))) (x_T 38 (x_T 32 (x_T 31 (x_L 31 (0, xi_push (0, 0, 0) 32, 0, 0)) (x_L 32 (2, x_nof, 2, 5))) (x_T 35 (x_L 35 (0, xi_inc 1 1 38, 0, 0)) (x_L 38 (0, xi_goto 17, 0, 0)))) (x_T 42 (x_T 41 (x_L 41 (0, xi_load 0 2 42, 0, 0)) (x_L 42 (0, xi_getf 11 6 45, 0, 0))) (x_T 45 (x_L 45 (0, xi_push (0, 0, 0) 46, 0, 0)) (x_L 46 (0, xi_putf 9 0 0 49, 0, 0)))))))
set_option maxRecDepth 20000 in
set_option maxHeartbeats 4000000 in
theorem tb_31_0_ok (K : xKx) : ∀ pc, x_EOq cls K xI m_31 pc (tb_31_0 pc) :=
  (x_Tok2
  (x_Tok2
  (x_Tok2
  (x_Tok2
  (x_Lok (x_st (I := xI) (xr_aload_n (i := 0) (x_dk dl_31_ok 0 rfl))))
  (x_Tok2
  (x_Lok (x_st (I := xI) (xr_iconst (n := 0) (z := 0) (v := 0) (x_dk dl_31_ok 1 rfl) (by decide) (by decide))))
  (x_Lok (x_st (I := xI) (xr_putf (ci := 11) (k := 11) (ix := 94) (N := 15) (fk := 0) (C := RX11) (T := TX11) (ty0 := tyX11) (ty := .int) rfl in_X11 tyX11_ok nmX11 (by decide) (in_t4 (List.mem_of_getElem? (i := 119) rfl) rfl) rfl rfl x_fit_int (x_dk dl_31_ok 2 rfl))))))
  (x_Tok2
  (x_Tok2
  (x_Lok (x_st (I := xI) (xr_aload_n (i := 0) (x_dk dl_31_ok 3 rfl))))
  (x_Lok (x_st (I := xI) (xr_iconst (n := 0) (z := 0) (v := 0) (x_dk dl_31_ok 4 rfl) (by decide) (by decide)))))
  (x_Tok2
  (x_Lok (x_st (I := xI) (xr_putf (ci := 11) (k := 12) (ix := 246) (N := 15) (fk := 0) (C := RX11) (T := TX11) (ty0 := tyX11) (ty := .int) rfl in_X11 tyX11_ok nmX11 (by decide) (in_t4 (List.mem_of_getElem? (i := 120) rfl) rfl) rfl rfl x_fit_int (x_dk dl_31_ok 5 rfl))))
  (x_Lok (x_st (I := xI) (xr_aload_n (i := 0) (x_dk dl_31_ok 6 rfl)))))))
  (x_Tok2
  (x_Tok2
  (x_Lok (x_st (I := xI) (xr_iconst (n := 0) (z := 0) (v := 0) (x_dk dl_31_ok 7 rfl) (by decide) (by decide))))
  (x_Tok2
  (x_Lok (x_st (I := xI) (xr_putf (ci := 11) (k := 13) (ix := 91) (N := 15) (fk := 1) (C := RX11) (T := TX11) (ty0 := tyX11) (ty := .boolean) rfl in_X11 tyX11_ok nmX11 (by decide) (in_t4 (List.mem_of_getElem? (i := 121) rfl) rfl) rfl rfl x_fit_bool (x_dk dl_31_ok 8 rfl))))
  (x_Lok (x_st (I := xI) (xr_iconst (n := 0) (z := 0) (v := 0) (x_dk dl_31_ok 9 rfl) (by decide) (by decide))))))
  (x_Tok2
  (x_Tok2
  (x_Lok (x_st (I := xI) (xr_istore_n (i := 1) (x_dk dl_31_ok 10 rfl) (by decide +kernel))))
  (x_Lok (x_st (I := xI) (xr_iload_n (i := 1) (x_dk dl_31_ok 11 rfl)))))
  (x_Tok2
  (x_Lok (x_st (I := xI) (xr_iconst (n := 4) (z := 4) (v := 4) (x_dk dl_31_ok 12 rfl) (by decide) (by decide))))
  (x_Lok (x_st (I := xI) (xr_icmpge (off := 22) (tg := 41) (x_dk dl_31_ok 13 rfl) (by decide))))))))
  (x_Tok2
  (x_Tok2
  (x_Tok2
  (x_Lok (x_st (I := xI) (xr_aload_n (i := 0) (x_dk dl_31_ok 14 rfl))))
  (x_Tok2
  (x_Lok (x_st (I := xI) (xr_getf (ci := 11) (k := 2) (ix := 27) (N := 15) (C := RX11) (T := TX11) rfl in_X11 (by decide) (in_t4 (List.mem_of_getElem? (i := 110) rfl) rfl) (x_dk dl_31_ok 15 rfl))))
  (x_Lok (x_st (I := xI) (xr_iload_n (i := 1) (x_dk dl_31_ok 16 rfl))))))
  (x_Tok2
  (x_Tok2
  (x_Lok (x_st (I := xI) (xr_aaload (x_dk dl_31_ok 17 rfl))))
  (x_Lok (x_st (I := xI) (xr_iconst (n := 0) (z := 0) (v := 0) (x_dk dl_31_ok 18 rfl) (by decide) (by decide)))))
  (x_Tok2
  (x_Lok (x_st (I := xI) (xr_iconst (n := 0) (z := 0) (v := 0) (x_dk dl_31_ok 19 rfl) (by decide) (by decide))))
  (x_Lok (x_st (I := xI) (xr_iconst (n := 0) (z := 0) (v := 0) (x_dk dl_31_ok 20 rfl) (by decide) (by decide)))))))
  (x_Tok2
  (x_Tok2
  (x_Tok2
  (x_Lok (x_st (I := xI) (xr_iconst (n := 0) (z := 0) (v := 0) (x_dk dl_31_ok 21 rfl) (by decide) (by decide))))
  (x_Lok (x_ca (I := xI) (q' := m_2) rfl (xr_callV (q' := m_2) (ix := 97) (n := 4) (in_t4 (List.mem_of_getElem? (i := 6) rfl) rfl) good_w (in_t1 (List.mem_of_getElem? (i := 8) rfl) rfl) (in_t4 (List.mem_of_getElem? (i := 3) rfl) rfl) (in_t4 (List.mem_of_getElem? (i := 4) rfl) rfl) (in_t4 (List.mem_of_getElem? (i := 5) rfl) rfl) (by decide +kernel) (by decide +kernel) (by decide +kernel) (x_dk dl_31_ok 22 rfl)))))
  (x_Tok2
  (x_Lok (x_st (I := xI) (xr_iinc (i := 1) (n := 1) (x_dk dl_31_ok 23 rfl) (by decide +kernel) (by decide))))
  (x_Lok (x_st (I := xI) (xr_goto (off := (-21)) (tg := 17) (x_dk dl_31_ok 24 rfl) (by decide))))))
  (x_Tok2
  (x_Tok2
  (x_Lok (x_st (I := xI) (xr_aload_n (i := 0) (x_dk dl_31_ok 25 rfl))))
  (x_Lok (x_st (I := xI) (xr_getf (ci := 11) (k := 6) (ix := 46) (N := 15) (C := RX11) (T := TX11) rfl in_X11 (by decide) (in_t4 (List.mem_of_getElem? (i := 114) rfl) rfl) (x_dk dl_31_ok 26 rfl)))))
  (x_Tok2
  (x_Lok (x_st (I := xI) (xr_iconst (n := 0) (z := 0) (v := 0) (x_dk dl_31_ok 27 rfl) (by decide) (by decide))))
  (x_Lok (x_st (I := xI) (xr_putf (ci := 9) (k := 0) (ix := 149) (N := 17) (fk := 0) (C := RX9) (T := TX9) (ty0 := tyX9) (ty := .int) rfl in_X9 tyX9_ok nmX9 (by decide) (in_t3 (List.mem_of_getElem? (i := 138) rfl) rfl) rfl rfl x_fit_int (x_dk dl_31_ok 28 rfl)))))))))
def tb_31_29 : Nat → xE := (x_T 76 (x_T 61 (x_T 53 (x_T 49 (x_L 49 (0, xi_load 0 2 50, 0, 0)) (x_T 50 (x_L 50 (0, xi_getf 11 6 53, 0, 0)) (x_L 53 (0, xi_push (0, 0, 0) 54, 0, 0)))) (x_T 57 (x_T 54 (x_L 54 (0, xi_putf 9 1 0 57, 0, 0)) (x_L 57 (0, xi_load 0 2 58, 0, 0))) (x_T 58 (x_L 58 (0, xi_getf 11 3 61, 0, 0)) (x_L 61 (2, x_nof, 19, 1))))) (x_T 68 (x_T 64 (x_L 64 (0, xi_load 0 2 65, 0, 0)) (x_T 65 (x_L 65 (0, xi_getf 11 4 68, 0, 0)) (x_L 68 (0, xi_push (0, 0, 0) 69, 0, 0)))) (x_T 72 (x_T 69 (x_L 69 (0, xi_putf 4 0 0 72, 0, 0)) (x_L 72 (0, xi_load 0 2 73, 0, 0))) (x_T 73 (x_L 73 (0, xi_getf 11 4 76, 0, 0)) (x_L 76 (0, xi_push (0, 0, 0) 77, 0, 0)))))) (x_T 91 (x_T 81 (x_T 77 (x_L 77 (0, xi_putf 4 1 0 80, 0, 0)) (x_T 80 (x_L 80 (0, xi_load 0 2 81, 0, 0)) (x_L 81 (0, xi_getf 11 5 84, 0, 0)))) (x_T 87 (x_T 84 (x_L 84 (2, x_nof, 10, 1)) (x_L 87 (0, xi_load 0 2 88, 0, 0))) (x_T 88 (x_L 88 (0, xi_getf 11 7 91, 0, 0)) (x_L 91 (0, xi_push (0, 0, 0) 92, 0, 0))))) (x_T 99 (x_T 95 (x_T 92 (x_L 92 (0, xi_putf 6 0 0 95, 0, 0)) (x_L 95 (0, xi_load 0 2 96, 0, 0))) (x_T 96 (x_L 96 (0, xi_getf 11 10 99, 0, 0)) (x_L 99 (0, xi_push (0, 0, 0) 100, 0, 0)))) (x_T 103 (x_T 100 (x_L 100 (2, x_nof, 33, 2)) (x_L 103 (0, xi_load 0 2 104, 0, 0))) (x_T 104 (x_L 104 (2, x_nof, 32, 1)) (x_L 107 (1, x_nof, 0, 0)))))))
set_option maxRecDepth 20000 in
set_option maxHeartbeats 4000000 in
theorem tb_31_29_ok (K : xKx) : ∀ pc, x_EOq cls K xI m_31 pc (tb_31_29 pc) :=
  (x_Tok2
  (x_Tok2
  (x_Tok2
  (x_Tok2
  (x_Lok (x_st (I := xI) (xr_aload_n (i := 0) (x_dk dl_31_ok 29 rfl))))
  (x_Tok2
  (x_Lok (x_st (I := xI) (xr_getf (ci := 11) (k := 6) (ix := 46) (N := 15) (C := RX11) (T := TX11) rfl in_X11 (by decide) (in_t4 (List.mem_of_getElem? (i := 114) rfl) rfl) (x_dk dl_31_ok 30 rfl))))
  (x_Lok (x_st (I := xI) (xr_iconst (n := 0) (z := 0) (v := 0) (x_dk dl_31_ok 31 rfl) (by decide) (by decide))))))
  (x_Tok2
  (x_Tok2
  (x_Lok (x_st (I := xI) (xr_putf (ci := 9) (k := 1) (ix := 198) (N := 17) (fk := 0) (C := RX9) (T := TX9) (ty0 := tyX9) (ty := .int) rfl in_X9 tyX9_ok nmX9 (by decide) (in_t3 (List.mem_of_getElem? (i := 140) rfl) rfl) rfl rfl x_fit_int (x_dk dl_31_ok 32 rfl))))
  (x_Lok (x_st (I := xI) (xr_aload_n (i := 0) (x_dk dl_31_ok 33 rfl)))))
  (x_Tok2
  (x_Lok (x_st (I := xI) (xr_getf (ci := 11) (k := 3) (ix := 32) (N := 15) (C := RX11) (T := TX11) rfl in_X11 (by decide) (in_t4 (List.mem_of_getElem? (i := 111) rfl) rfl) (x_dk dl_31_ok 34 rfl))))
  (x_Lok (x_ca (I := xI) (q' := m_19) rfl (xr_callV (q' := m_19) (ix := 413) (n := 0) (in_t4 (List.mem_of_getElem? (i := 43) rfl) rfl) good_w (in_t1 (List.mem_of_getElem? (i := 5) rfl) rfl) (in_t4 (List.mem_of_getElem? (i := 40) rfl) rfl) (in_t4 (List.mem_of_getElem? (i := 41) rfl) rfl) (in_t4 (List.mem_of_getElem? (i := 42) rfl) rfl) (by decide +kernel) (by decide +kernel) (by decide +kernel) (x_dk dl_31_ok 35 rfl)))))))
  (x_Tok2
  (x_Tok2
  (x_Lok (x_st (I := xI) (xr_aload_n (i := 0) (x_dk dl_31_ok 36 rfl))))
  (x_Tok2
  (x_Lok (x_st (I := xI) (xr_getf (ci := 11) (k := 4) (ix := 37) (N := 15) (C := RX11) (T := TX11) rfl in_X11 (by decide) (in_t4 (List.mem_of_getElem? (i := 112) rfl) rfl) (x_dk dl_31_ok 37 rfl))))
  (x_Lok (x_st (I := xI) (xr_iconst (n := 0) (z := 0) (v := 0) (x_dk dl_31_ok 38 rfl) (by decide) (by decide))))))
  (x_Tok2
  (x_Tok2
  (x_Lok (x_st (I := xI) (xr_putf (ci := 4) (k := 0) (ix := 167) (N := 20) (fk := 0) (C := RX4) (T := TX4) (ty0 := tyX4) (ty := .int) rfl in_X4 tyX4_ok nmX4 (by decide) (in_t1 (List.mem_of_getElem? (i := 176) rfl) rfl) rfl rfl x_fit_int (x_dk dl_31_ok 39 rfl))))
  (x_Lok (x_st (I := xI) (xr_aload_n (i := 0) (x_dk dl_31_ok 40 rfl)))))
  (x_Tok2
  (x_Lok (x_st (I := xI) (xr_getf (ci := 11) (k := 4) (ix := 37) (N := 15) (C := RX11) (T := TX11) rfl in_X11 (by decide) (in_t4 (List.mem_of_getElem? (i := 112) rfl) rfl) (x_dk dl_31_ok 41 rfl))))
  (x_Lok (x_st (I := xI) (xr_iconst (n := 0) (z := 0) (v := 0) (x_dk dl_31_ok 42 rfl) (by decide) (by decide))))))))
  (x_Tok2
  (x_Tok2
  (x_Tok2
  (x_Lok (x_st (I := xI) (xr_putf (ci := 4) (k := 1) (ix := 371) (N := 20) (fk := 0) (C := RX4) (T := TX4) (ty0 := tyX4) (ty := .int) rfl in_X4 tyX4_ok nmX4 (by decide) (in_t1 (List.mem_of_getElem? (i := 178) rfl) rfl) rfl rfl x_fit_int (x_dk dl_31_ok 43 rfl))))
  (x_Tok2
  (x_Lok (x_st (I := xI) (xr_aload_n (i := 0) (x_dk dl_31_ok 44 rfl))))
  (x_Lok (x_st (I := xI) (xr_getf (ci := 11) (k := 5) (ix := 42) (N := 15) (C := RX11) (T := TX11) rfl in_X11 (by decide) (in_t4 (List.mem_of_getElem? (i := 113) rfl) rfl) (x_dk dl_31_ok 45 rfl))))))
  (x_Tok2
  (x_Tok2
  (x_Lok (x_ca (I := xI) (q' := m_10) rfl (xr_callV (q' := m_10) (ix := 414) (n := 0) (in_t4 (List.mem_of_getElem? (i := 52) rfl) rfl) good_w (in_t1 (List.mem_of_getElem? (i := 7) rfl) rfl) (in_t4 (List.mem_of_getElem? (i := 49) rfl) rfl) (in_t4 (List.mem_of_getElem? (i := 50) rfl) rfl) (in_t4 (List.mem_of_getElem? (i := 51) rfl) rfl) (by decide +kernel) (by decide +kernel) (by decide +kernel) (x_dk dl_31_ok 46 rfl))))
  (x_Lok (x_st (I := xI) (xr_aload_n (i := 0) (x_dk dl_31_ok 47 rfl)))))
  (x_Tok2
  (x_Lok (x_st (I := xI) (xr_getf (ci := 11) (k := 7) (ix := 53) (N := 15) (C := RX11) (T := TX11) rfl in_X11 (by decide) (in_t4 (List.mem_of_getElem? (i := 115) rfl) rfl) (x_dk dl_31_ok 48 rfl))))
  (x_Lok (x_st (I := xI) (xr_iconst (n := 0) (z := 0) (v := 0) (x_dk dl_31_ok 49 rfl) (by decide) (by decide)))))))
  (x_Tok2
  (x_Tok2
  (x_Tok2
  (x_Lok (x_st (I := xI) (xr_putf (ci := 6) (k := 0) (ix := 293) (N := 13) (fk := 0) (C := RX6) (T := TX6) (ty0 := tyX6) (ty := .int) rfl in_X6 tyX6_ok nmX6 (by decide) (in_t3 (List.mem_of_getElem? (i := 199) rfl) rfl) rfl rfl x_fit_int (x_dk dl_31_ok 50 rfl))))
  (x_Lok (x_st (I := xI) (xr_aload_n (i := 0) (x_dk dl_31_ok 51 rfl)))))
  (x_Tok2
  (x_Lok (x_st (I := xI) (xr_getf (ci := 11) (k := 10) (ix := 64) (N := 15) (C := RX11) (T := TX11) rfl in_X11 (by decide) (in_t4 (List.mem_of_getElem? (i := 118) rfl) rfl) (x_dk dl_31_ok 52 rfl))))
  (x_Lok (x_st (I := xI) (xr_iconst (n := 0) (z := 0) (v := 0) (x_dk dl_31_ok 53 rfl) (by decide) (by decide))))))
  (x_Tok2
  (x_Tok2
  (x_Lok (x_ca (I := xI) (q' := m_33) rfl (xr_callS (q' := m_33) (ix := 415) (n := 2) (in_t4 (List.mem_of_getElem? (i := 9) rfl) rfl) good_w (in_t1 (List.mem_of_getElem? (i := 13) rfl) rfl) (in_t4 (List.mem_of_getElem? (i := 53) rfl) rfl) (in_t4 (List.mem_of_getElem? (i := 8) rfl) rfl) (by decide +kernel) (by decide +kernel) (x_dk dl_31_ok 54 rfl))))
  (x_Lok (x_st (I := xI) (xr_aload_n (i := 0) (x_dk dl_31_ok 55 rfl)))))
  (x_Tok2
  (x_Lok (x_ca (I := xI) (q' := m_32) rfl (xr_callV (q' := m_32) (ix := 249) (n := 0) (in_t4 (List.mem_of_getElem? (i := 57) rfl) rfl) good_w (in_t1 (List.mem_of_getElem? (i := 1) rfl) rfl) (in_t4 (List.mem_of_getElem? (i := 54) rfl) rfl) (in_t4 (List.mem_of_getElem? (i := 56) rfl) rfl) (in_s1 (List.mem_of_getElem? (i := 2) rfl)) (by decide +kernel) (by decide +kernel) (by decide +kernel) (x_dk dl_31_ok 56 rfl))))
  (x_Lok (x_rt (I := xI) (k := 0) ⟨(x_dk dl_31_ok 57 rfl), rfl⟩)))))))
def tb_31 : Nat → xE := (x_T 46 tb_31_0 tb_31_29)
theorem tb_31_ok (K : xKx) : ∀ pc, x_EOq cls K xI m_31 pc (tb_31 pc) := (x_Tok2 (tb_31_0_ok K) (tb_31_29_ok K))
def dl_32 : List (Nat × Instr × Nat) := [(0, .iconst 0, 1), (1, .istore_n 1, 1), (2, .iload_n 1, 1), (3, .iconst 4, 1), (4, .if_icmp .ge 18, 3), (7, .aload_n 0, 1), (8, .getfield 27, 3), (11, .iload_n 1, 1), (12, .aaload, 1), (13, .invokevirtual 421, 3), (16, .iinc 1 1, 3), (19, .goto (-17), 3), (22, .aload_n 0, 1), (23, .getfield 32, 3), (26, .invokevirtual 422, 3), (29, .aload_n 0, 1), (30, .getfield 37, 3), (33, .invokevirtual 423, 3), (36, .aload_n 0, 1), (37, .getfield 42, 3), (40, .invokevirtual 424, 3), (43, .aload_n 0, 1), (44, .getfield 19, 3), (47, .invokevirtual 425, 3), (50, .aload_n 0, 1), (51, .getfield 57, 3), (54, .iconst 0, 1), (55, .invokestatic 415, 3), (58, .return_, 1)]
set_option maxRecDepth 20000 in
theorem dl_32_ok : dl_32.all (fun q => decide (decode prog_1_method_64_code q.1 = .ok (q.2.1, q.2.2))) = true := by decide +kernel
def tb_32_0 : Nat → xE := (x_T 23 (x_T 8 (x_T 2 (x_T 0 (x_L 0 (0, xi_push (0, 0, 0) 1, 0, 0)) (x_T 1 (x_L 1 (0, xi_stor 1 0 2, 0, 0)) (x_L 2 (0, xi_load 1 0 3, 0, 0)))) (x_T 4 (x_T 3 (x_L 3 (0, xi_push (0, 4, 4) 4, 0, 0)) (x_L 4 (0, xi_if2 3 22 7, 0, 0))) (x_T 7 (x_L 7 (0, xi_load 0 2 8, 0, 0)) (x_L 8 (0, xi_getf 11 2 11, 0, 0))))) (x_T 13 (x_T 11 (x_L 11 (0, xi_load 1 0 12, 0, 0)) (x_T 12 (x_L 12 (0, xi_aald 13, 0, 0)) (x_L 13 (2, x_nof, 3, 1)))) (x_T 19 (x_T 16 (x_L 16 (0, xi_inc 1 1 19, 0, 0)) (x_L 19 (0, xi_goto 2, 0, 0))) (x_T 22 (x_L 22 (0, xi_load 0 2 23, 0, 0)) (x_L 23 (0, xi_getf 11 3 26, 0, 0)))))) (x_T 40 (x_T 30 (x_T 26 (x_L 26 (2, x_nof, 20, 1)) (x_T 29 (x_L 29 (0, xi_load 0 2 30, 0, 0)) (x_L 30 (0, xi_getf 11 4 33, 0, 0)))) (x_T 36 (x_T 33 (x_L 33 (2, x_nof, 15, 1)) (x_L 36 (0, xi_load 0 2 37, 0, 0))) (x_T 37 (x_L 37 (0, xi_getf 11 5 40, 0, 0)) (x_L 40 (2, x_nof, 11, 1))))) (x_T 50 (x_T 44 (x_T 43 (x_L 43 (0, xi_load 0 2 44, 0, 0)) (x_L 44 (0, xi_getf 11 1 47, 0, 0))) (x_T 47 (x_L 47 (2, x_nof, 13, 1)) (x_L 50 (0, xi_load 0 2 51, 0, 0)))) (x_T 54 (x_T 51 (x_L 51 (0, xi_getf 11 8 54, 0, 0)) (x_L 54 (0, xi_push (0, 0, 0) 55, 0, 0))) (x_T 55 (x_L 55 (2, x_nof, 33, 2)) (x_L 58 (1, x_nof, 0, 0)))))))
set_option maxRecDepth 20000 in
set_option maxHeartbeats 4000000 in
theorem tb_32_0_ok (K : xKx) : ∀ pc, x_EOq cls K xI m_32 pc (tb_32_0 pc) :=
  (x_Tok2
  (x_Tok2
  (x_Tok2
  (x_Tok2
  (x_Lok (x_st (I := xI) (xr_iconst (n := 0) (z := 0) (v := 0) (x_dk dl_32_ok 0 rfl) (by decide) (by decide))))
  (x_Tok2
  (x_Lok (x_st (I := xI) (xr_istore_n (i := 1) (x_dk dl_32_ok 1 rfl) (by decide +kernel))))
  (x_Lok (x_st (I := xI) (xr_iload_n (i := 1) (x_dk dl_32_ok 2 rfl))))))
  (x_Tok2
  (x_Tok2
  (x_Lok (x_st (I := xI) (xr_iconst (n := 4) (z := 4) (v := 4) (x_dk dl_32_ok 3 rfl) (by decide) (by decide))))
  (x_Lok (x_st (I := xI) (xr_icmpge (off := 18) (tg := 22) (x_dk dl_32_ok 4 rfl) (by decide)))))
  (x_Tok2
  (x_Lok (x_st (I := xI) (xr_aload_n (i := 0) (x_dk dl_32_ok 5 rfl))))
  (x_Lok (x_st (I := xI) (xr_getf (ci := 11) (k := 2) (ix := 27) (N := 15) (C := RX11) (T := TX11) rfl in_X11 (by decide) (in_t4 (List.mem_of_getElem? (i := 110) rfl) rfl) (x_dk dl_32_ok 6 rfl)))))))
  (x_Tok2
  (x_Tok2
  (x_Lok (x_st (I := xI) (xr_iload_n (i := 1) (x_dk dl_32_ok 7 rfl))))
  (x_Tok2
  (x_Lok (x_st (I := xI) (xr_aaload (x_dk dl_32_ok 8 rfl))))
  (x_Lok (x_ca (I := xI) (q' := m_3) rfl (xr_callV (q' := m_3) (ix := 421) (n := 0) (in_t4 (List.mem_of_getElem? (i := 17) rfl) rfl) good_w (in_t1 (List.mem_of_getElem? (i := 8) rfl) rfl) (in_t4 (List.mem_of_getElem? (i := 58) rfl) rfl) (in_t4 (List.mem_of_getElem? (i := 15) rfl) rfl) (in_t4 (List.mem_of_getElem? (i := 16) rfl) rfl) (by decide +kernel) (by decide +kernel) (by decide +kernel) (x_dk dl_32_ok 9 rfl))))))
  (x_Tok2
  (x_Tok2
  (x_Lok (x_st (I := xI) (xr_iinc (i := 1) (n := 1) (x_dk dl_32_ok 10 rfl) (by decide +kernel) (by decide))))
  (x_Lok (x_st (I := xI) (xr_goto (off := (-17)) (tg := 2) (x_dk dl_32_ok 11 rfl) (by decide)))))
  (x_Tok2
  (x_Lok (x_st (I := xI) (xr_aload_n (i := 0) (x_dk dl_32_ok 12 rfl))))
  (x_Lok (x_st (I := xI) (xr_getf (ci := 11) (k := 3) (ix := 32) (N := 15) (C := RX11) (T := TX11) rfl in_X11 (by decide) (in_t4 (List.mem_of_getElem? (i := 111) rfl) rfl) (x_dk dl_32_ok 13 rfl))))))))
  (x_Tok2
  (x_Tok2
  (x_Tok2
  (x_Lok (x_ca (I := xI) (q' := m_20) rfl (xr_callV (q' := m_20) (ix := 422) (n := 0) (in_t4 (List.mem_of_getElem? (i := 62) rfl) rfl) good_w (in_t1 (List.mem_of_getElem? (i := 5) rfl) rfl) (in_t4 (List.mem_of_getElem? (i := 59) rfl) rfl) (in_t4 (List.mem_of_getElem? (i := 60) rfl) rfl) (in_t4 (List.mem_of_getElem? (i := 61) rfl) rfl) (by decide +kernel) (by decide +kernel) (by decide +kernel) (x_dk dl_32_ok 14 rfl))))
  (x_Tok2
  (x_Lok (x_st (I := xI) (xr_aload_n (i := 0) (x_dk dl_32_ok 15 rfl))))
  (x_Lok (x_st (I := xI) (xr_getf (ci := 11) (k := 4) (ix := 37) (N := 15) (C := RX11) (T := TX11) rfl in_X11 (by decide) (in_t4 (List.mem_of_getElem? (i := 112) rfl) rfl) (x_dk dl_32_ok 16 rfl))))))
  (x_Tok2
  (x_Tok2
  (x_Lok (x_ca (I := xI) (q' := m_15) rfl (xr_callV (q' := m_15) (ix := 423) (n := 0) (in_t4 (List.mem_of_getElem? (i := 74) rfl) rfl) good_w (in_t1 (List.mem_of_getElem? (i := 6) rfl) rfl) (in_t4 (List.mem_of_getElem? (i := 71) rfl) rfl) (in_t4 (List.mem_of_getElem? (i := 72) rfl) rfl) (in_t4 (List.mem_of_getElem? (i := 73) rfl) rfl) (by decide +kernel) (by decide +kernel) (by decide +kernel) (x_dk dl_32_ok 17 rfl))))
  (x_Lok (x_st (I := xI) (xr_aload_n (i := 0) (x_dk dl_32_ok 18 rfl)))))
  (x_Tok2
  (x_Lok (x_st (I := xI) (xr_getf (ci := 11) (k := 5) (ix := 42) (N := 15) (C := RX11) (T := TX11) rfl in_X11 (by decide) (in_t4 (List.mem_of_getElem? (i := 113) rfl) rfl) (x_dk dl_32_ok 19 rfl))))
  (x_Lok (x_ca (I := xI) (q' := m_11) rfl (xr_callV (q' := m_11) (ix := 424) (n := 0) (in_t4 (List.mem_of_getElem? (i := 90) rfl) rfl) good_w (in_t1 (List.mem_of_getElem? (i := 7) rfl) rfl) (in_t4 (List.mem_of_getElem? (i := 87) rfl) rfl) (in_t4 (List.mem_of_getElem? (i := 88) rfl) rfl) (in_t4 (List.mem_of_getElem? (i := 89) rfl) rfl) (by decide +kernel) (by decide +kernel) (by decide +kernel) (x_dk dl_32_ok 20 rfl)))))))
  (x_Tok2
  (x_Tok2
  (x_Tok2
  (x_Lok (x_st (I := xI) (xr_aload_n (i := 0) (x_dk dl_32_ok 21 rfl))))
  (x_Lok (x_st (I := xI) (xr_getf (ci := 11) (k := 1) (ix := 19) (N := 15) (C := RX11) (T := TX11) rfl in_X11 (by decide) (in_t4 (List.mem_of_getElem? (i := 109) rfl) rfl) (x_dk dl_32_ok 22 rfl)))))
  (x_Tok2
  (x_Lok (x_ca (I := xI) (q' := m_13) rfl (xr_callV (q' := m_13) (ix := 425) (n := 0) (in_t4 (List.mem_of_getElem? (i := 94) rfl) rfl) good_w (in_t1 (List.mem_of_getElem? (i := 4) rfl) rfl) (in_t4 (List.mem_of_getElem? (i := 91) rfl) rfl) (in_t4 (List.mem_of_getElem? (i := 92) rfl) rfl) (in_t4 (List.mem_of_getElem? (i := 93) rfl) rfl) (by decide +kernel) (by decide +kernel) (by decide +kernel) (x_dk dl_32_ok 23 rfl))))
  (x_Lok (x_st (I := xI) (xr_aload_n (i := 0) (x_dk dl_32_ok 24 rfl))))))
  (x_Tok2
  (x_Tok2
  (x_Lok (x_st (I := xI) (xr_getf (ci := 11) (k := 8) (ix := 57) (N := 15) (C := RX11) (T := TX11) rfl in_X11 (by decide) (in_t4 (List.mem_of_getElem? (i := 116) rfl) rfl) (x_dk dl_32_ok 25 rfl))))
  (x_Lok (x_st (I := xI) (xr_iconst (n := 0) (z := 0) (v := 0) (x_dk dl_32_ok 26 rfl) (by decide) (by decide)))))
  (x_Tok2
  (x_Lok (x_ca (I := xI) (q' := m_33) rfl (xr_callS (q' := m_33) (ix := 415) (n := 2) (in_t4 (List.mem_of_getElem? (i := 9) rfl) rfl) good_w (in_t1 (List.mem_of_getElem? (i := 13) rfl) rfl) (in_t4 (List.mem_of_getElem? (i := 53) rfl) rfl) (in_t4 (List.mem_of_getElem? (i := 8) rfl) rfl) (by decide +kernel) (by decide +kernel) (x_dk dl_32_ok 27 rfl))))
  (x_Lok (x_rt (I := xI) (k := 0) ⟨(x_dk dl_32_ok 28 rfl), rfl⟩)))))))
def tb_32 : Nat → xE := tb_32_0
theorem tb_32_ok (K : xKx) : ∀ pc, x_EOq cls K xI m_32 pc (tb_32 pc) := tb_32_0_ok K
def dl_33 : List (Nat × Instr × Nat) := [(0, .iconst 0, 1), (1, .istore_n 2, 1), (2, .aload_n 0, 1), (3, .arraylength, 1), (4, .istore_n 3, 1), (5, .iload_n 2, 1), (6, .iload_n 3, 1), (7, .if_icmp .ge 13, 3), (10, .aload_n 0, 1), (11, .iload_n 2, 1), (12, .iload_n 1, 1), (13, .iastore, 1), (14, .iinc 2 1, 3), (17, .goto (-12), 3), (20, .return_, 1)]
set_option maxRecDepth 20000 in
theorem dl_33_ok : dl_33.all (fun q => decide (decode prog_20_method_103_code q.1 = .ok (q.2.1, q.2.2))) = true := by decide +kernel
def tb_33_0 : Nat → xE := (x_T 6 (x_T 2 (x_T 0 (x_L 0 (0, xi_push (0, 0, 0) 1, 0, 0)) (x_T 1 (x_L 1 (0, xi_stor 2 0 2, 0, 0)) (x_L 2 (0, xi_load 0 2 3, 0, 0)))) (x_T 4 (x_T 3 (x_L 3 (0, xi_alen 4, 0, 0)) (x_L 4 (0, xi_stor 3 0 5, 0, 0))) (x_T 5 (x_L 5 (0, xi_load 2 0 6, 0, 0)) (x_L 6 (0, xi_load 3 0 7, 0, 0))))) (x_T 12 (x_T 10 (x_T 7 (x_L 7 (0, xi_if2 3 20 10, 0, 0)) (x_L 10 (0, xi_load 0 2 11, 0, 0))) (x_T 11 (x_L 11 (0, xi_load 2 0 12, 0, 0)) (x_L 12 (0, xi_load 1 0 13, 0, 0)))) (x_T 14 (x_T 13 (x_L 13 (0, xi_ast false 14, 0, 0)) (x_L 14 (0, xi_inc 2 1 17, 0, 0))) (x_T 17 (x_L 17 (0, xi_goto 5, 0, 0)) (x_L 20 (1, x_nof, 0, 0))))))
set_option maxRecDepth 20000 in
set_option maxHeartbeats 4000000 in
theorem tb_33_0_ok (K : xKx) : ∀ pc, x_EOq cls K xI m_33 pc (tb_33_0 pc) :=
  (x_Tok2
  (x_Tok2
  (x_Tok2
  (x_Lok (x_st (I := xI) (xr_iconst (n := 0) (z := 0) (v := 0) (x_dk dl_33_ok 0 rfl) (by decide) (by decide))))
  (x_Tok2
  (x_Lok (x_st (I := xI) (xr_istore_n (i := 2) (x_dk dl_33_ok 1 rfl) (by decide +kernel))))
  (x_Lok (x_st (I := xI) (xr_aload_n (i := 0) (x_dk dl_33_ok 2 rfl))))))
  (x_Tok2
  (x_Tok2
  (x_Lok (x_st (I := xI) (xr_alen (x_dk dl_33_ok 3 rfl))))
  (x_Lok (x_st (I := xI) (xr_istore_n (i := 3) (x_dk dl_33_ok 4 rfl) (by decide +kernel)))))
  (x_Tok2
  (x_Lok (x_st (I := xI) (xr_iload_n (i := 2) (x_dk dl_33_ok 5 rfl))))
  (x_Lok (x_st (I := xI) (xr_iload_n (i := 3) (x_dk dl_33_ok 6 rfl)))))))
  (x_Tok2
  (x_Tok2
  (x_Tok2
  (x_Lok (x_st (I := xI) (xr_icmpge (off := 13) (tg := 20) (x_dk dl_33_ok 7 rfl) (by decide))))
  (x_Lok (x_st (I := xI) (xr_aload_n (i := 0) (x_dk dl_33_ok 8 rfl)))))
  (x_Tok2
  (x_Lok (x_st (I := xI) (xr_iload_n (i := 2) (x_dk dl_33_ok 9 rfl))))
  (x_Lok (x_st (I := xI) (xr_iload_n (i := 1) (x_dk dl_33_ok 10 rfl))))))
  (x_Tok2
  (x_Tok2
  (x_Lok (x_st (I := xI) (xr_iastore (x_dk dl_33_ok 11 rfl))))
  (x_Lok (x_st (I := xI) (xr_iinc (i := 2) (n := 1) (x_dk dl_33_ok 12 rfl) (by decide +kernel) (by decide)))))
  (x_Tok2
  (x_Lok (x_st (I := xI) (xr_goto (off := (-12)) (tg := 5) (x_dk dl_33_ok 13 rfl) (by decide))))
  (x_Lok (x_rt (I := xI) (k := 0) ⟨(x_dk dl_33_ok 14 rfl), rfl⟩))))))
def tb_33 : Nat → xE := tb_33_0
theorem tb_33_ok (K : xKx) : ∀ pc, x_EOq cls K xI m_33 pc (tb_33 pc) := tb_33_0_ok K
end
section
def xC : Nat → Nat → xE := (x_TC 16 (x_TC 7 (x_TC 3 (x_TC 1 (x_TC 0 (fun _ => fun _ => x_e7) (fun _ => tb_1)) (x_TC 2 (fun _ => tb_2) (fun _ => tb_3))) (x_TC 5 (x_TC 4 (fun _ => tb_4) (fun _ => tb_5)) (x_TC 6 (fun _ => tb_6) (fun _ => tb_7)))) (x_TC 11 (x_TC 9 (x_TC 8 (fun _ => tb_8) (fun _ => tb_9)) (x_TC 10 (fun _ => tb_10) (fun _ => tb_11))) (x_TC 13 (x_TC 12 (fun _ => tb_12) (fun _ => tb_13)) (x_TC 14 (fun _ => tb_14) (x_TC 15 (fun _ => tb_15) (fun _ => tb_16)))))) (x_TC 24 (x_TC 20 (x_TC 18 (x_TC 17 (fun _ => tb_17) (fun _ => tb_18)) (x_TC 19 (fun _ => tb_19) (fun _ => tb_20))) (x_TC 22 (x_TC 21 (fun _ => tb_21) (fun _ => tb_22)) (x_TC 23 (fun _ => tb_23) (fun _ => tb_24)))) (x_TC 28 (x_TC 26 (x_TC 25 (fun _ => tb_25) (fun _ => tb_26)) (x_TC 27 (fun _ => tb_27) (fun _ => tb_28))) (x_TC 30 (x_TC 29 (fun _ => tb_29) (fun _ => tb_30)) (x_TC 31 (fun _ => tb_31) (x_TC 32 (fun _ => tb_32) (fun _ => tb_33)))))))
set_option maxRecDepth 100000 in
set_option maxHeartbeats 40000000 in
theorem t_ctor : (x_ex 1 xC xI 16000 12 30 (0, [(0, (1, 0, 0))], [], [x_nc 11 ks_X11], [], 0, 0)).isSome = true := by decide +kernel
end
