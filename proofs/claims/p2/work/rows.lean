section
-- ===== PART A: goes FIRST, ahead of the names: the tables' words, and 'selects' of the private methods out of them =====
/-- a private method of a class that the tables say can be made, by its rows of tables_1 -/
def lw_okq (q : MethodName × Nat) : Prop := (q.1.cls ≠ "java/lang/invoke/MethodHandle" ∧ q.1.cls ≠ "java/lang/invoke/VarHandle") ∧ Cond.instantiable q.1.cls q.2 ∈ tables_1 ∧ Cond.privateMethod q.1 ∈ tables_1 ∧ Cond.instanceMethod q.1 ∈ tables_1
theorem lw_p0 : lw_okq (⟨"RobotCellHouse", "clear", "()V"⟩, 15) := ⟨⟨by decide +kernel, by decide +kernel⟩, List.mem_of_getElem? (i := 22) (by decide +kernel), List.mem_of_getElem? (i := 720) (by decide +kernel), List.mem_of_getElem? (i := 721) (by decide +kernel)⟩
theorem lw_p1 : lw_okq (⟨"RobotCellHouse$Points", "arrange", "()V"⟩, 8) := ⟨⟨by decide +kernel, by decide +kernel⟩, List.mem_of_getElem? (i := 131) (by decide +kernel), List.mem_of_getElem? (i := 766) (by decide +kernel), List.mem_of_getElem? (i := 767) (by decide +kernel)⟩
theorem lw_p2 : lw_okq (⟨"RobotCellHouse", "rewind", "()V"⟩, 15) := ⟨⟨by decide +kernel, by decide +kernel⟩, List.mem_of_getElem? (i := 22) (by decide +kernel), List.mem_of_getElem? (i := 775) (by decide +kernel), List.mem_of_getElem? (i := 776) (by decide +kernel)⟩
theorem lw_p3 : lw_okq (⟨"RobotCellHouse$Points", "settle", "()V"⟩, 8) := ⟨⟨by decide +kernel, by decide +kernel⟩, List.mem_of_getElem? (i := 131) (by decide +kernel), List.mem_of_getElem? (i := 784) (by decide +kernel), List.mem_of_getElem? (i := 785) (by decide +kernel)⟩
theorem lw_p4 : lw_okq (⟨"RobotCellHouse$Points", "reckon", "(I)I"⟩, 8) := ⟨⟨by decide +kernel, by decide +kernel⟩, List.mem_of_getElem? (i := 131) (by decide +kernel), List.mem_of_getElem? (i := 788) (by decide +kernel), List.mem_of_getElem? (i := 789) (by decide +kernel)⟩
theorem lw_p5 : lw_okq (⟨"RobotCellHouse$Floor", "putBack", "(I)V"⟩, 20) := ⟨⟨by decide +kernel, by decide +kernel⟩, List.mem_of_getElem? (i := 168) (by decide +kernel), List.mem_of_getElem? (i := 796) (by decide +kernel), List.mem_of_getElem? (i := 797) (by decide +kernel)⟩
theorem lw_p6 : lw_okq (⟨"RobotCellHouse$Floor", "comeTo", "(III)V"⟩, 20) := ⟨⟨by decide +kernel, by decide +kernel⟩, List.mem_of_getElem? (i := 168) (by decide +kernel), List.mem_of_getElem? (i := 800) (by decide +kernel), List.mem_of_getElem? (i := 801) (by decide +kernel)⟩
theorem lw_p7 : lw_okq (⟨"RobotCellHouse$Floor", "lieAt", "(III)V"⟩, 20) := ⟨⟨by decide +kernel, by decide +kernel⟩, List.mem_of_getElem? (i := 168) (by decide +kernel), List.mem_of_getElem? (i := 804) (by decide +kernel), List.mem_of_getElem? (i := 805) (by decide +kernel)⟩
theorem lw_p8 : lw_okq (⟨"RobotCellHouse", "isArm", "(I)Z"⟩, 15) := ⟨⟨by decide +kernel, by decide +kernel⟩, List.mem_of_getElem? (i := 22) (by decide +kernel), List.mem_of_getElem? (i := 902) (by decide +kernel), List.mem_of_getElem? (i := 903) (by decide +kernel)⟩
theorem lw_p9 : lw_okq (⟨"RobotCellHouse", "isJoint", "(II)Z"⟩, 15) := ⟨⟨by decide +kernel, by decide +kernel⟩, List.mem_of_getElem? (i := 22) (by decide +kernel), List.mem_of_getElem? (i := 919) (by decide +kernel), List.mem_of_getElem? (i := 920) (by decide +kernel)⟩
theorem lw_p10 : lw_okq (⟨"RobotCellHouse", "isBelt", "(I)Z"⟩, 15) := ⟨⟨by decide +kernel, by decide +kernel⟩, List.mem_of_getElem? (i := 22) (by decide +kernel), List.mem_of_getElem? (i := 973) (by decide +kernel), List.mem_of_getElem? (i := 974) (by decide +kernel)⟩
theorem lw_p11 : lw_okq (⟨"RobotCellHouse$Reader", "advance", "()V"⟩, 17) := ⟨⟨by decide +kernel, by decide +kernel⟩, List.mem_of_getElem? (i := 30) (by decide +kernel), List.mem_of_getElem? (i := 1038) (by decide +kernel), List.mem_of_getElem? (i := 1039) (by decide +kernel)⟩
theorem lw_p12 : lw_okq (⟨"RobotCellHouse$Reader", "skipBlanks", "()V"⟩, 17) := ⟨⟨by decide +kernel, by decide +kernel⟩, List.mem_of_getElem? (i := 30) (by decide +kernel), List.mem_of_getElem? (i := 1042) (by decide +kernel), List.mem_of_getElem? (i := 1043) (by decide +kernel)⟩
theorem lw_p13 : lw_okq (⟨"RobotCellHouse$Reader", "byteAt", "(I)I"⟩, 17) := ⟨⟨by decide +kernel, by decide +kernel⟩, List.mem_of_getElem? (i := 30) (by decide +kernel), List.mem_of_getElem? (i := 1046) (by decide +kernel), List.mem_of_getElem? (i := 1047) (by decide +kernel)⟩
theorem lw_p14 : lw_okq (⟨"RobotCellHouse$Reader", "readNumber", "()V"⟩, 17) := ⟨⟨by decide +kernel, by decide +kernel⟩, List.mem_of_getElem? (i := 30) (by decide +kernel), List.mem_of_getElem? (i := 1053) (by decide +kernel), List.mem_of_getElem? (i := 1054) (by decide +kernel)⟩
theorem lw_p15 : lw_okq (⟨"RobotCellHouse$Reader", "readWord", "()V"⟩, 17) := ⟨⟨by decide +kernel, by decide +kernel⟩, List.mem_of_getElem? (i := 30) (by decide +kernel), List.mem_of_getElem? (i := 1067) (by decide +kernel), List.mem_of_getElem? (i := 1068) (by decide +kernel)⟩
def lw_privs_1 : List (MethodName × Nat) := [(⟨"RobotCellHouse", "clear", "()V"⟩, 15), (⟨"RobotCellHouse$Points", "arrange", "()V"⟩, 8), (⟨"RobotCellHouse", "rewind", "()V"⟩, 15), (⟨"RobotCellHouse$Points", "settle", "()V"⟩, 8), (⟨"RobotCellHouse$Points", "reckon", "(I)I"⟩, 8), (⟨"RobotCellHouse$Floor", "putBack", "(I)V"⟩, 20), (⟨"RobotCellHouse$Floor", "comeTo", "(III)V"⟩, 20), (⟨"RobotCellHouse$Floor", "lieAt", "(III)V"⟩, 20), (⟨"RobotCellHouse", "isArm", "(I)Z"⟩, 15), (⟨"RobotCellHouse", "isJoint", "(II)Z"⟩, 15), (⟨"RobotCellHouse", "isBelt", "(I)Z"⟩, 15), (⟨"RobotCellHouse$Reader", "advance", "()V"⟩, 17), (⟨"RobotCellHouse$Reader", "skipBlanks", "()V"⟩, 17), (⟨"RobotCellHouse$Reader", "byteAt", "(I)I"⟩, 17), (⟨"RobotCellHouse$Reader", "readNumber", "()V"⟩, 17), (⟨"RobotCellHouse$Reader", "readWord", "()V"⟩, 17)]
theorem lw_r1 : ∀ q ∈ lw_privs_1, lw_okq q := List.forall_mem_cons.mpr ⟨lw_p0, List.forall_mem_cons.mpr ⟨lw_p1, List.forall_mem_cons.mpr ⟨lw_p2, List.forall_mem_cons.mpr ⟨lw_p3, List.forall_mem_cons.mpr ⟨lw_p4, List.forall_mem_cons.mpr ⟨lw_p5, List.forall_mem_cons.mpr ⟨lw_p6, List.forall_mem_cons.mpr ⟨lw_p7, List.forall_mem_cons.mpr ⟨lw_p8, List.forall_mem_cons.mpr ⟨lw_p9, List.forall_mem_cons.mpr ⟨lw_p10, List.forall_mem_cons.mpr ⟨lw_p11, List.forall_mem_cons.mpr ⟨lw_p12, List.forall_mem_cons.mpr ⟨lw_p13, List.forall_mem_cons.mpr ⟨lw_p14, List.forall_mem_cons.mpr ⟨lw_p15, fun _ h => absurd h List.not_mem_nil⟩⟩⟩⟩⟩⟩⟩⟩⟩⟩⟩⟩⟩⟩⟩⟩
theorem lw_p16 : lw_okq (⟨"RobotCellHouse$Reader", "wordKind", "()I"⟩, 17) := ⟨⟨by decide +kernel, by decide +kernel⟩, List.mem_of_getElem? (i := 30) (by decide +kernel), List.mem_of_getElem? (i := 1071) (by decide +kernel), List.mem_of_getElem? (i := 1072) (by decide +kernel)⟩
theorem lw_p17 : lw_okq (⟨"RobotCellHouse$Reader", "readSign", "(I)V"⟩, 17) := ⟨⟨by decide +kernel, by decide +kernel⟩, List.mem_of_getElem? (i := 30) (by decide +kernel), List.mem_of_getElem? (i := 1124) (by decide +kernel), List.mem_of_getElem? (i := 1125) (by decide +kernel)⟩
theorem lw_p18 : lw_okq (⟨"RobotCellHouse$Reader", "declarations", "()V"⟩, 17) := ⟨⟨by decide +kernel, by decide +kernel⟩, List.mem_of_getElem? (i := 30) (by decide +kernel), List.mem_of_getElem? (i := 1188) (by decide +kernel), List.mem_of_getElem? (i := 1189) (by decide +kernel)⟩
theorem lw_p19 : lw_okq (⟨"RobotCellHouse$Reader", "declareVariable", "()V"⟩, 17) := ⟨⟨by decide +kernel, by decide +kernel⟩, List.mem_of_getElem? (i := 30) (by decide +kernel), List.mem_of_getElem? (i := 1192) (by decide +kernel), List.mem_of_getElem? (i := 1193) (by decide +kernel)⟩
theorem lw_p20 : lw_okq (⟨"RobotCellHouse$Reader", "checkNewName", "()V"⟩, 17) := ⟨⟨by decide +kernel, by decide +kernel⟩, List.mem_of_getElem? (i := 30) (by decide +kernel), List.mem_of_getElem? (i := 1196) (by decide +kernel), List.mem_of_getElem? (i := 1197) (by decide +kernel)⟩
theorem lw_p21 : lw_okq (⟨"RobotCellHouse$Reader", "findVariable", "(I)I"⟩, 17) := ⟨⟨by decide +kernel, by decide +kernel⟩, List.mem_of_getElem? (i := 30) (by decide +kernel), List.mem_of_getElem? (i := 1200) (by decide +kernel), List.mem_of_getElem? (i := 1201) (by decide +kernel)⟩
theorem lw_p22 : lw_okq (⟨"RobotCellHouse$Reader", "isSameName", "(II)Z"⟩, 17) := ⟨⟨by decide +kernel, by decide +kernel⟩, List.mem_of_getElem? (i := 30) (by decide +kernel), List.mem_of_getElem? (i := 1204) (by decide +kernel), List.mem_of_getElem? (i := 1205) (by decide +kernel)⟩
theorem lw_p23 : lw_okq (⟨"RobotCellHouse$Reader", "findRoutine", "(I)I"⟩, 17) := ⟨⟨by decide +kernel, by decide +kernel⟩, List.mem_of_getElem? (i := 30) (by decide +kernel), List.mem_of_getElem? (i := 1208) (by decide +kernel), List.mem_of_getElem? (i := 1209) (by decide +kernel)⟩
theorem lw_p24 : lw_okq (⟨"RobotCellHouse$Reader", "complain", "(II)V"⟩, 17) := ⟨⟨by decide +kernel, by decide +kernel⟩, List.mem_of_getElem? (i := 30) (by decide +kernel), List.mem_of_getElem? (i := 1212) (by decide +kernel), List.mem_of_getElem? (i := 1213) (by decide +kernel)⟩
theorem lw_p25 : lw_okq (⟨"RobotCellHouse$Reader", "accept", "(I)V"⟩, 17) := ⟨⟨by decide +kernel, by decide +kernel⟩, List.mem_of_getElem? (i := 30) (by decide +kernel), List.mem_of_getElem? (i := 1216) (by decide +kernel), List.mem_of_getElem? (i := 1217) (by decide +kernel)⟩
theorem lw_p26 : lw_okq (⟨"RobotCellHouse$Reader", "refuse", "()V"⟩, 17) := ⟨⟨by decide +kernel, by decide +kernel⟩, List.mem_of_getElem? (i := 30) (by decide +kernel), List.mem_of_getElem? (i := 1220) (by decide +kernel), List.mem_of_getElem? (i := 1221) (by decide +kernel)⟩
theorem lw_p27 : lw_okq (⟨"RobotCellHouse$Reader", "stick", "(I)V"⟩, 17) := ⟨⟨by decide +kernel, by decide +kernel⟩, List.mem_of_getElem? (i := 30) (by decide +kernel), List.mem_of_getElem? (i := 1224) (by decide +kernel), List.mem_of_getElem? (i := 1225) (by decide +kernel)⟩
theorem lw_p28 : lw_okq (⟨"RobotCellHouse$Reader", "routine", "()V"⟩, 17) := ⟨⟨by decide +kernel, by decide +kernel⟩, List.mem_of_getElem? (i := 30) (by decide +kernel), List.mem_of_getElem? (i := 1228) (by decide +kernel), List.mem_of_getElem? (i := 1229) (by decide +kernel)⟩
theorem lw_p29 : lw_okq (⟨"RobotCellHouse$Reader", "block", "()V"⟩, 17) := ⟨⟨by decide +kernel, by decide +kernel⟩, List.mem_of_getElem? (i := 30) (by decide +kernel), List.mem_of_getElem? (i := 1232) (by decide +kernel), List.mem_of_getElem? (i := 1233) (by decide +kernel)⟩
theorem lw_p30 : lw_okq (⟨"RobotCellHouse$Reader", "isStatement", "()Z"⟩, 17) := ⟨⟨by decide +kernel, by decide +kernel⟩, List.mem_of_getElem? (i := 30) (by decide +kernel), List.mem_of_getElem? (i := 1236) (by decide +kernel), List.mem_of_getElem? (i := 1237) (by decide +kernel)⟩
theorem lw_p31 : lw_okq (⟨"RobotCellHouse$Reader", "statement", "()V"⟩, 17) := ⟨⟨by decide +kernel, by decide +kernel⟩, List.mem_of_getElem? (i := 30) (by decide +kernel), List.mem_of_getElem? (i := 1241) (by decide +kernel), List.mem_of_getElem? (i := 1242) (by decide +kernel)⟩
def lw_privs_2 : List (MethodName × Nat) := [(⟨"RobotCellHouse$Reader", "wordKind", "()I"⟩, 17), (⟨"RobotCellHouse$Reader", "readSign", "(I)V"⟩, 17), (⟨"RobotCellHouse$Reader", "declarations", "()V"⟩, 17), (⟨"RobotCellHouse$Reader", "declareVariable", "()V"⟩, 17), (⟨"RobotCellHouse$Reader", "checkNewName", "()V"⟩, 17), (⟨"RobotCellHouse$Reader", "findVariable", "(I)I"⟩, 17), (⟨"RobotCellHouse$Reader", "isSameName", "(II)Z"⟩, 17), (⟨"RobotCellHouse$Reader", "findRoutine", "(I)I"⟩, 17), (⟨"RobotCellHouse$Reader", "complain", "(II)V"⟩, 17), (⟨"RobotCellHouse$Reader", "accept", "(I)V"⟩, 17), (⟨"RobotCellHouse$Reader", "refuse", "()V"⟩, 17), (⟨"RobotCellHouse$Reader", "stick", "(I)V"⟩, 17), (⟨"RobotCellHouse$Reader", "routine", "()V"⟩, 17), (⟨"RobotCellHouse$Reader", "block", "()V"⟩, 17), (⟨"RobotCellHouse$Reader", "isStatement", "()Z"⟩, 17), (⟨"RobotCellHouse$Reader", "statement", "()V"⟩, 17)]
theorem lw_r2 : ∀ q ∈ lw_privs_2, lw_okq q := List.forall_mem_cons.mpr ⟨lw_p16, List.forall_mem_cons.mpr ⟨lw_p17, List.forall_mem_cons.mpr ⟨lw_p18, List.forall_mem_cons.mpr ⟨lw_p19, List.forall_mem_cons.mpr ⟨lw_p20, List.forall_mem_cons.mpr ⟨lw_p21, List.forall_mem_cons.mpr ⟨lw_p22, List.forall_mem_cons.mpr ⟨lw_p23, List.forall_mem_cons.mpr ⟨lw_p24, List.forall_mem_cons.mpr ⟨lw_p25, List.forall_mem_cons.mpr ⟨lw_p26, List.forall_mem_cons.mpr ⟨lw_p27, List.forall_mem_cons.mpr ⟨lw_p28, List.forall_mem_cons.mpr ⟨lw_p29, List.forall_mem_cons.mpr ⟨lw_p30, List.forall_mem_cons.mpr ⟨lw_p31, fun _ h => absurd h List.not_mem_nil⟩⟩⟩⟩⟩⟩⟩⟩⟩⟩⟩⟩⟩⟩⟩⟩
theorem lw_p32 : lw_okq (⟨"RobotCellHouse$Reader", "assignment", "()V"⟩, 17) := ⟨⟨by decide +kernel, by decide +kernel⟩, List.mem_of_getElem? (i := 30) (by decide +kernel), List.mem_of_getElem? (i := 1249) (by decide +kernel), List.mem_of_getElem? (i := 1250) (by decide +kernel)⟩
theorem lw_p33 : lw_okq (⟨"RobotCellHouse$Reader", "variableHere", "()I"⟩, 17) := ⟨⟨by decide +kernel, by decide +kernel⟩, List.mem_of_getElem? (i := 30) (by decide +kernel), List.mem_of_getElem? (i := 1253) (by decide +kernel), List.mem_of_getElem? (i := 1254) (by decide +kernel)⟩
theorem lw_p34 : lw_okq (⟨"RobotCellHouse$Reader", "exp", "()V"⟩, 17) := ⟨⟨by decide +kernel, by decide +kernel⟩, List.mem_of_getElem? (i := 30) (by decide +kernel), List.mem_of_getElem? (i := 1258) (by decide +kernel), List.mem_of_getElem? (i := 1259) (by decide +kernel)⟩
theorem lw_p35 : lw_okq (⟨"RobotCellHouse$Reader", "all", "()V"⟩, 17) := ⟨⟨by decide +kernel, by decide +kernel⟩, List.mem_of_getElem? (i := 30) (by decide +kernel), List.mem_of_getElem? (i := 1262) (by decide +kernel), List.mem_of_getElem? (i := 1263) (by decide +kernel)⟩
theorem lw_p36 : lw_okq (⟨"RobotCellHouse$Reader", "fact", "()V"⟩, 17) := ⟨⟨by decide +kernel, by decide +kernel⟩, List.mem_of_getElem? (i := 30) (by decide +kernel), List.mem_of_getElem? (i := 1266) (by decide +kernel), List.mem_of_getElem? (i := 1267) (by decide +kernel)⟩
theorem lw_p37 : lw_okq (⟨"RobotCellHouse$Reader", "opens", "()Z"⟩, 17) := ⟨⟨by decide +kernel, by decide +kernel⟩, List.mem_of_getElem? (i := 30) (by decide +kernel), List.mem_of_getElem? (i := 1270) (by decide +kernel), List.mem_of_getElem? (i := 1271) (by decide +kernel)⟩
theorem lw_p38 : lw_okq (⟨"RobotCellHouse$Reader", "sum", "()V"⟩, 17) := ⟨⟨by decide +kernel, by decide +kernel⟩, List.mem_of_getElem? (i := 30) (by decide +kernel), List.mem_of_getElem? (i := 1274) (by decide +kernel), List.mem_of_getElem? (i := 1275) (by decide +kernel)⟩
theorem lw_p39 : lw_okq (⟨"RobotCellHouse$Reader", "product", "()V"⟩, 17) := ⟨⟨by decide +kernel, by decide +kernel⟩, List.mem_of_getElem? (i := 30) (by decide +kernel), List.mem_of_getElem? (i := 1278) (by decide +kernel), List.mem_of_getElem? (i := 1279) (by decide +kernel)⟩
theorem lw_p40 : lw_okq (⟨"RobotCellHouse$Reader", "one", "()V"⟩, 17) := ⟨⟨by decide +kernel, by decide +kernel⟩, List.mem_of_getElem? (i := 30) (by decide +kernel), List.mem_of_getElem? (i := 1282) (by decide +kernel), List.mem_of_getElem? (i := 1283) (by decide +kernel)⟩
theorem lw_p41 : lw_okq (⟨"RobotCellHouse$Reader", "emitNumber", "()V"⟩, 17) := ⟨⟨by decide +kernel, by decide +kernel⟩, List.mem_of_getElem? (i := 30) (by decide +kernel), List.mem_of_getElem? (i := 1286) (by decide +kernel), List.mem_of_getElem? (i := 1287) (by decide +kernel)⟩
theorem lw_p42 : lw_okq (⟨"RobotCellHouse$Reader", "inParentheses", "()V"⟩, 17) := ⟨⟨by decide +kernel, by decide +kernel⟩, List.mem_of_getElem? (i := 30) (by decide +kernel), List.mem_of_getElem? (i := 1291) (by decide +kernel), List.mem_of_getElem? (i := 1292) (by decide +kernel)⟩
theorem lw_p43 : lw_okq (⟨"RobotCellHouse$Reader", "comparison", "()I"⟩, 17) := ⟨⟨by decide +kernel, by decide +kernel⟩, List.mem_of_getElem? (i := 30) (by decide +kernel), List.mem_of_getElem? (i := 1295) (by decide +kernel), List.mem_of_getElem? (i := 1296) (by decide +kernel)⟩
theorem lw_p44 : lw_okq (⟨"RobotCellHouse$Reader", "movement", "()V"⟩, 17) := ⟨⟨by decide +kernel, by decide +kernel⟩, List.mem_of_getElem? (i := 30) (by decide +kernel), List.mem_of_getElem? (i := 1303) (by decide +kernel), List.mem_of_getElem? (i := 1304) (by decide +kernel)⟩
theorem lw_p45 : lw_okq (⟨"RobotCellHouse$Reader", "withNumber", "(I)V"⟩, 17) := ⟨⟨by decide +kernel, by decide +kernel⟩, List.mem_of_getElem? (i := 30) (by decide +kernel), List.mem_of_getElem? (i := 1307) (by decide +kernel), List.mem_of_getElem? (i := 1308) (by decide +kernel)⟩
theorem lw_p46 : lw_okq (⟨"RobotCellHouse$Reader", "setting", "()V"⟩, 17) := ⟨⟨by decide +kernel, by decide +kernel⟩, List.mem_of_getElem? (i := 30) (by decide +kernel), List.mem_of_getElem? (i := 1311) (by decide +kernel), List.mem_of_getElem? (i := 1312) (by decide +kernel)⟩
theorem lw_p47 : lw_okq (⟨"RobotCellHouse$Reader", "withRoutine", "(I)V"⟩, 17) := ⟨⟨by decide +kernel, by decide +kernel⟩, List.mem_of_getElem? (i := 30) (by decide +kernel), List.mem_of_getElem? (i := 1315) (by decide +kernel), List.mem_of_getElem? (i := 1316) (by decide +kernel)⟩
def lw_privs_3 : List (MethodName × Nat) := [(⟨"RobotCellHouse$Reader", "assignment", "()V"⟩, 17), (⟨"RobotCellHouse$Reader", "variableHere", "()I"⟩, 17), (⟨"RobotCellHouse$Reader", "exp", "()V"⟩, 17), (⟨"RobotCellHouse$Reader", "all", "()V"⟩, 17), (⟨"RobotCellHouse$Reader", "fact", "()V"⟩, 17), (⟨"RobotCellHouse$Reader", "opens", "()Z"⟩, 17), (⟨"RobotCellHouse$Reader", "sum", "()V"⟩, 17), (⟨"RobotCellHouse$Reader", "product", "()V"⟩, 17), (⟨"RobotCellHouse$Reader", "one", "()V"⟩, 17), (⟨"RobotCellHouse$Reader", "emitNumber", "()V"⟩, 17), (⟨"RobotCellHouse$Reader", "inParentheses", "()V"⟩, 17), (⟨"RobotCellHouse$Reader", "comparison", "()I"⟩, 17), (⟨"RobotCellHouse$Reader", "movement", "()V"⟩, 17), (⟨"RobotCellHouse$Reader", "withNumber", "(I)V"⟩, 17), (⟨"RobotCellHouse$Reader", "setting", "()V"⟩, 17), (⟨"RobotCellHouse$Reader", "withRoutine", "(I)V"⟩, 17)]
theorem lw_r3 : ∀ q ∈ lw_privs_3, lw_okq q := List.forall_mem_cons.mpr ⟨lw_p32, List.forall_mem_cons.mpr ⟨lw_p33, List.forall_mem_cons.mpr ⟨lw_p34, List.forall_mem_cons.mpr ⟨lw_p35, List.forall_mem_cons.mpr ⟨lw_p36, List.forall_mem_cons.mpr ⟨lw_p37, List.forall_mem_cons.mpr ⟨lw_p38, List.forall_mem_cons.mpr ⟨lw_p39, List.forall_mem_cons.mpr ⟨lw_p40, List.forall_mem_cons.mpr ⟨lw_p41, List.forall_mem_cons.mpr ⟨lw_p42, List.forall_mem_cons.mpr ⟨lw_p43, List.forall_mem_cons.mpr ⟨lw_p44, List.forall_mem_cons.mpr ⟨lw_p45, List.forall_mem_cons.mpr ⟨lw_p46, List.forall_mem_cons.mpr ⟨lw_p47, fun _ h => absurd h List.not_mem_nil⟩⟩⟩⟩⟩⟩⟩⟩⟩⟩⟩⟩⟩⟩⟩⟩
theorem lw_p48 : lw_okq (⟨"RobotCellHouse$Reader", "bare", "(I)V"⟩, 17) := ⟨⟨by decide +kernel, by decide +kernel⟩, List.mem_of_getElem? (i := 30) (by decide +kernel), List.mem_of_getElem? (i := 1319) (by decide +kernel), List.mem_of_getElem? (i := 1320) (by decide +kernel)⟩
theorem lw_p49 : lw_okq (⟨"RobotCellHouse$Reader", "watching", "()V"⟩, 17) := ⟨⟨by decide +kernel, by decide +kernel⟩, List.mem_of_getElem? (i := 30) (by decide +kernel), List.mem_of_getElem? (i := 1323) (by decide +kernel), List.mem_of_getElem? (i := 1324) (by decide +kernel)⟩
theorem lw_p50 : lw_okq (⟨"RobotCellHouse$Reader", "breaking", "()V"⟩, 17) := ⟨⟨by decide +kernel, by decide +kernel⟩, List.mem_of_getElem? (i := 30) (by decide +kernel), List.mem_of_getElem? (i := 1327) (by decide +kernel), List.mem_of_getElem? (i := 1328) (by decide +kernel)⟩
theorem lw_p51 : lw_okq (⟨"RobotCellHouse$Reader", "choice", "()V"⟩, 17) := ⟨⟨by decide +kernel, by decide +kernel⟩, List.mem_of_getElem? (i := 30) (by decide +kernel), List.mem_of_getElem? (i := 1331) (by decide +kernel), List.mem_of_getElem? (i := 1332) (by decide +kernel)⟩
theorem lw_p52 : lw_okq (⟨"RobotCellHouse$Reader", "repetition", "()V"⟩, 17) := ⟨⟨by decide +kernel, by decide +kernel⟩, List.mem_of_getElem? (i := 30) (by decide +kernel), List.mem_of_getElem? (i := 1335) (by decide +kernel), List.mem_of_getElem? (i := 1336) (by decide +kernel)⟩
theorem lw_p53 : lw_okq (⟨"RobotCellHouse$Reader", "attempt", "()V"⟩, 17) := ⟨⟨by decide +kernel, by decide +kernel⟩, List.mem_of_getElem? (i := 30) (by decide +kernel), List.mem_of_getElem? (i := 1339) (by decide +kernel), List.mem_of_getElem? (i := 1340) (by decide +kernel)⟩
theorem lw_p54 : lw_okq (⟨"RobotCellHouse$Reader", "laterPart", "(I)V"⟩, 17) := ⟨⟨by decide +kernel, by decide +kernel⟩, List.mem_of_getElem? (i := 30) (by decide +kernel), List.mem_of_getElem? (i := 1343) (by decide +kernel), List.mem_of_getElem? (i := 1344) (by decide +kernel)⟩
theorem lw_p55 : lw_okq (⟨"RobotCellHouse$Reader", "findRoutines", "()V"⟩, 17) := ⟨⟨by decide +kernel, by decide +kernel⟩, List.mem_of_getElem? (i := 30) (by decide +kernel), List.mem_of_getElem? (i := 1347) (by decide +kernel), List.mem_of_getElem? (i := 1348) (by decide +kernel)⟩
theorem lw_p56 : lw_okq (⟨"RobotCellHouse", "enter", "(IIII)I"⟩, 15) := ⟨⟨by decide +kernel, by decide +kernel⟩, List.mem_of_getElem? (i := 22) (by decide +kernel), List.mem_of_getElem? (i := 1380) (by decide +kernel), List.mem_of_getElem? (i := 1381) (by decide +kernel)⟩
theorem lw_p57 : lw_okq (⟨"RobotCellHouse", "isBookOpen", "()Z"⟩, 15) := ⟨⟨by decide +kernel, by decide +kernel⟩, List.mem_of_getElem? (i := 22) (by decide +kernel), List.mem_of_getElem? (i := 1384) (by decide +kernel), List.mem_of_getElem? (i := 1385) (by decide +kernel)⟩
theorem lw_p58 : lw_okq (⟨"RobotCellHouse", "write", "(IIII)V"⟩, 15) := ⟨⟨by decide +kernel, by decide +kernel⟩, List.mem_of_getElem? (i := 22) (by decide +kernel), List.mem_of_getElem? (i := 1388) (by decide +kernel), List.mem_of_getElem? (i := 1389) (by decide +kernel)⟩
theorem lw_p59 : lw_okq (⟨"RobotCellHouse", "carryOut", "(IIII)I"⟩, 15) := ⟨⟨by decide +kernel, by decide +kernel⟩, List.mem_of_getElem? (i := 22) (by decide +kernel), List.mem_of_getElem? (i := 1392) (by decide +kernel), List.mem_of_getElem? (i := 1393) (by decide +kernel)⟩
theorem lw_p60 : lw_okq (⟨"RobotCellHouse", "halt", "(I)I"⟩, 15) := ⟨⟨by decide +kernel, by decide +kernel⟩, List.mem_of_getElem? (i := 22) (by decide +kernel), List.mem_of_getElem? (i := 1422) (by decide +kernel), List.mem_of_getElem? (i := 1423) (by decide +kernel)⟩
theorem lw_p61 : lw_okq (⟨"RobotCellHouse", "trip", "(II)V"⟩, 15) := ⟨⟨by decide +kernel, by decide +kernel⟩, List.mem_of_getElem? (i := 22) (by decide +kernel), List.mem_of_getElem? (i := 1426) (by decide +kernel), List.mem_of_getElem? (i := 1427) (by decide +kernel)⟩
theorem lw_p62 : lw_okq (⟨"RobotCellHouse", "lead", "(III)I"⟩, 15) := ⟨⟨by decide +kernel, by decide +kernel⟩, List.mem_of_getElem? (i := 22) (by decide +kernel), List.mem_of_getElem? (i := 1449) (by decide +kernel), List.mem_of_getElem? (i := 1450) (by decide +kernel)⟩
theorem lw_p63 : lw_okq (⟨"RobotCellHouse", "tick", "()V"⟩, 15) := ⟨⟨by decide +kernel, by decide +kernel⟩, List.mem_of_getElem? (i := 22) (by decide +kernel), List.mem_of_getElem? (i := 1488) (by decide +kernel), List.mem_of_getElem? (i := 1489) (by decide +kernel)⟩
def lw_privs_4 : List (MethodName × Nat) := [(⟨"RobotCellHouse$Reader", "bare", "(I)V"⟩, 17), (⟨"RobotCellHouse$Reader", "watching", "()V"⟩, 17), (⟨"RobotCellHouse$Reader", "breaking", "()V"⟩, 17), (⟨"RobotCellHouse$Reader", "choice", "()V"⟩, 17), (⟨"RobotCellHouse$Reader", "repetition", "()V"⟩, 17), (⟨"RobotCellHouse$Reader", "attempt", "()V"⟩, 17), (⟨"RobotCellHouse$Reader", "laterPart", "(I)V"⟩, 17), (⟨"RobotCellHouse$Reader", "findRoutines", "()V"⟩, 17), (⟨"RobotCellHouse", "enter", "(IIII)I"⟩, 15), (⟨"RobotCellHouse", "isBookOpen", "()Z"⟩, 15), (⟨"RobotCellHouse", "write", "(IIII)V"⟩, 15), (⟨"RobotCellHouse", "carryOut", "(IIII)I"⟩, 15), (⟨"RobotCellHouse", "halt", "(I)I"⟩, 15), (⟨"RobotCellHouse", "trip", "(II)V"⟩, 15), (⟨"RobotCellHouse", "lead", "(III)I"⟩, 15), (⟨"RobotCellHouse", "tick", "()V"⟩, 15)]
theorem lw_r4 : ∀ q ∈ lw_privs_4, lw_okq q := List.forall_mem_cons.mpr ⟨lw_p48, List.forall_mem_cons.mpr ⟨lw_p49, List.forall_mem_cons.mpr ⟨lw_p50, List.forall_mem_cons.mpr ⟨lw_p51, List.forall_mem_cons.mpr ⟨lw_p52, List.forall_mem_cons.mpr ⟨lw_p53, List.forall_mem_cons.mpr ⟨lw_p54, List.forall_mem_cons.mpr ⟨lw_p55, List.forall_mem_cons.mpr ⟨lw_p56, List.forall_mem_cons.mpr ⟨lw_p57, List.forall_mem_cons.mpr ⟨lw_p58, List.forall_mem_cons.mpr ⟨lw_p59, List.forall_mem_cons.mpr ⟨lw_p60, List.forall_mem_cons.mpr ⟨lw_p61, List.forall_mem_cons.mpr ⟨lw_p62, List.forall_mem_cons.mpr ⟨lw_p63, fun _ h => absurd h List.not_mem_nil⟩⟩⟩⟩⟩⟩⟩⟩⟩⟩⟩⟩⟩⟩⟩⟩
theorem lw_p64 : lw_okq (⟨"RobotCellHouse$Core", "isWell", "(I)Z"⟩, 15) := ⟨⟨by decide +kernel, by decide +kernel⟩, List.mem_of_getElem? (i := 247) (by decide +kernel), List.mem_of_getElem? (i := 1496) (by decide +kernel), List.mem_of_getElem? (i := 1497) (by decide +kernel)⟩
theorem lw_p65 : lw_okq (⟨"RobotCellHouse$Doer", "goOn", "(LRobotCellHouse$Task;)V"⟩, 12) := ⟨⟨by decide +kernel, by decide +kernel⟩, List.mem_of_getElem? (i := 123) (by decide +kernel), List.mem_of_getElem? (i := 1509) (by decide +kernel), List.mem_of_getElem? (i := 1510) (by decide +kernel)⟩
theorem lw_p66 : lw_okq (⟨"RobotCellHouse$Doer", "raise", "(I)V"⟩, 12) := ⟨⟨by decide +kernel, by decide +kernel⟩, List.mem_of_getElem? (i := 123) (by decide +kernel), List.mem_of_getElem? (i := 1513) (by decide +kernel), List.mem_of_getElem? (i := 1514) (by decide +kernel)⟩
theorem lw_p67 : lw_okq (⟨"RobotCellHouse$Doer", "leaveByError", "(LRobotCellHouse$Task;LRobotCellHouse$Code;)V"⟩, 12) := ⟨⟨by decide +kernel, by decide +kernel⟩, List.mem_of_getElem? (i := 123) (by decide +kernel), List.mem_of_getElem? (i := 1520) (by decide +kernel), List.mem_of_getElem? (i := 1521) (by decide +kernel)⟩
theorem lw_p68 : lw_okq (⟨"RobotCellHouse$Task", "goToPart", "(II)V"⟩, 21) := ⟨⟨by decide +kernel, by decide +kernel⟩, List.mem_of_getElem? (i := 484) (by decide +kernel), List.mem_of_getElem? (i := 1529) (by decide +kernel), List.mem_of_getElem? (i := 1530) (by decide +kernel)⟩
theorem lw_p69 : lw_okq (⟨"RobotCellHouse$Doer", "failBy", "(LRobotCellHouse$Task;I)V"⟩, 12) := ⟨⟨by decide +kernel, by decide +kernel⟩, List.mem_of_getElem? (i := 123) (by decide +kernel), List.mem_of_getElem? (i := 1537) (by decide +kernel), List.mem_of_getElem? (i := 1538) (by decide +kernel)⟩
theorem lw_p70 : lw_okq (⟨"RobotCellHouse$Doer", "releaseAll", "(LRobotCellHouse$Task;)V"⟩, 12) := ⟨⟨by decide +kernel, by decide +kernel⟩, List.mem_of_getElem? (i := 123) (by decide +kernel), List.mem_of_getElem? (i := 1545) (by decide +kernel), List.mem_of_getElem? (i := 1546) (by decide +kernel)⟩
theorem lw_p71 : lw_okq (⟨"RobotCellHouse$Doer", "release", "(I)V"⟩, 12) := ⟨⟨by decide +kernel, by decide +kernel⟩, List.mem_of_getElem? (i := 123) (by decide +kernel), List.mem_of_getElem? (i := 1549) (by decide +kernel), List.mem_of_getElem? (i := 1550) (by decide +kernel)⟩
theorem lw_p72 : lw_okq (⟨"RobotCellHouse$Doer", "watchCalls", "(LRobotCellHouse$Task;LRobotCellHouse$Code;)Z"⟩, 12) := ⟨⟨by decide +kernel, by decide +kernel⟩, List.mem_of_getElem? (i := 123) (by decide +kernel), List.mem_of_getElem? (i := 1554) (by decide +kernel), List.mem_of_getElem? (i := 1555) (by decide +kernel)⟩
theorem lw_p73 : lw_okq (⟨"RobotCellHouse$Doer", "look", "(LRobotCellHouse$Task;II)V"⟩, 12) := ⟨⟨by decide +kernel, by decide +kernel⟩, List.mem_of_getElem? (i := 123) (by decide +kernel), List.mem_of_getElem? (i := 1559) (by decide +kernel), List.mem_of_getElem? (i := 1560) (by decide +kernel)⟩
theorem lw_p74 : lw_okq (⟨"RobotCellHouse$Doer", "push", "(I)V"⟩, 12) := ⟨⟨by decide +kernel, by decide +kernel⟩, List.mem_of_getElem? (i := 123) (by decide +kernel), List.mem_of_getElem? (i := 1563) (by decide +kernel), List.mem_of_getElem? (i := 1564) (by decide +kernel)⟩
theorem lw_p75 : lw_okq (⟨"RobotCellHouse$Doer", "pop", "()I"⟩, 12) := ⟨⟨by decide +kernel, by decide +kernel⟩, List.mem_of_getElem? (i := 123) (by decide +kernel), List.mem_of_getElem? (i := 1567) (by decide +kernel), List.mem_of_getElem? (i := 1568) (by decide +kernel)⟩
theorem lw_p76 : lw_okq (⟨"RobotCellHouse$Doer", "pushSignal", "(I)V"⟩, 12) := ⟨⟨by decide +kernel, by decide +kernel⟩, List.mem_of_getElem? (i := 123) (by decide +kernel), List.mem_of_getElem? (i := 1571) (by decide +kernel), List.mem_of_getElem? (i := 1572) (by decide +kernel)⟩
theorem lw_p77 : lw_okq (⟨"RobotCellHouse$Doer", "pushJoint", "(LRobotCellHouse$Arm;I)V"⟩, 12) := ⟨⟨by decide +kernel, by decide +kernel⟩, List.mem_of_getElem? (i := 123) (by decide +kernel), List.mem_of_getElem? (i := 1576) (by decide +kernel), List.mem_of_getElem? (i := 1577) (by decide +kernel)⟩
theorem lw_p78 : lw_okq (⟨"RobotCellHouse$Doer", "changeTop", "(LRobotCellHouse$Task;II)V"⟩, 12) := ⟨⟨by decide +kernel, by decide +kernel⟩, List.mem_of_getElem? (i := 123) (by decide +kernel), List.mem_of_getElem? (i := 1580) (by decide +kernel), List.mem_of_getElem? (i := 1581) (by decide +kernel)⟩
theorem lw_p79 : lw_okq (⟨"RobotCellHouse$Doer", "combine", "(III)V"⟩, 12) := ⟨⟨by decide +kernel, by decide +kernel⟩, List.mem_of_getElem? (i := 123) (by decide +kernel), List.mem_of_getElem? (i := 1584) (by decide +kernel), List.mem_of_getElem? (i := 1585) (by decide +kernel)⟩
def lw_privs_5 : List (MethodName × Nat) := [(⟨"RobotCellHouse$Core", "isWell", "(I)Z"⟩, 15), (⟨"RobotCellHouse$Doer", "goOn", "(LRobotCellHouse$Task;)V"⟩, 12), (⟨"RobotCellHouse$Doer", "raise", "(I)V"⟩, 12), (⟨"RobotCellHouse$Doer", "leaveByError", "(LRobotCellHouse$Task;LRobotCellHouse$Code;)V"⟩, 12), (⟨"RobotCellHouse$Task", "goToPart", "(II)V"⟩, 21), (⟨"RobotCellHouse$Doer", "failBy", "(LRobotCellHouse$Task;I)V"⟩, 12), (⟨"RobotCellHouse$Doer", "releaseAll", "(LRobotCellHouse$Task;)V"⟩, 12), (⟨"RobotCellHouse$Doer", "release", "(I)V"⟩, 12), (⟨"RobotCellHouse$Doer", "watchCalls", "(LRobotCellHouse$Task;LRobotCellHouse$Code;)Z"⟩, 12), (⟨"RobotCellHouse$Doer", "look", "(LRobotCellHouse$Task;II)V"⟩, 12), (⟨"RobotCellHouse$Doer", "push", "(I)V"⟩, 12), (⟨"RobotCellHouse$Doer", "pop", "()I"⟩, 12), (⟨"RobotCellHouse$Doer", "pushSignal", "(I)V"⟩, 12), (⟨"RobotCellHouse$Doer", "pushJoint", "(LRobotCellHouse$Arm;I)V"⟩, 12), (⟨"RobotCellHouse$Doer", "changeTop", "(LRobotCellHouse$Task;II)V"⟩, 12), (⟨"RobotCellHouse$Doer", "combine", "(III)V"⟩, 12)]
theorem lw_r5 : ∀ q ∈ lw_privs_5, lw_okq q := List.forall_mem_cons.mpr ⟨lw_p64, List.forall_mem_cons.mpr ⟨lw_p65, List.forall_mem_cons.mpr ⟨lw_p66, List.forall_mem_cons.mpr ⟨lw_p67, List.forall_mem_cons.mpr ⟨lw_p68, List.forall_mem_cons.mpr ⟨lw_p69, List.forall_mem_cons.mpr ⟨lw_p70, List.forall_mem_cons.mpr ⟨lw_p71, List.forall_mem_cons.mpr ⟨lw_p72, List.forall_mem_cons.mpr ⟨lw_p73, List.forall_mem_cons.mpr ⟨lw_p74, List.forall_mem_cons.mpr ⟨lw_p75, List.forall_mem_cons.mpr ⟨lw_p76, List.forall_mem_cons.mpr ⟨lw_p77, List.forall_mem_cons.mpr ⟨lw_p78, List.forall_mem_cons.mpr ⟨lw_p79, fun _ h => absurd h List.not_mem_nil⟩⟩⟩⟩⟩⟩⟩⟩⟩⟩⟩⟩⟩⟩⟩⟩
theorem lw_p80 : lw_okq (⟨"RobotCellHouse$Doer", "act", "(LRobotCellHouse$Task;LRobotCellHouse$Code;II)V"⟩, 12) := ⟨⟨by decide +kernel, by decide +kernel⟩, List.mem_of_getElem? (i := 123) (by decide +kernel), List.mem_of_getElem? (i := 1588) (by decide +kernel), List.mem_of_getElem? (i := 1589) (by decide +kernel)⟩
theorem lw_p81 : lw_okq (⟨"RobotCellHouse$Doer", "collect", "(II)V"⟩, 12) := ⟨⟨by decide +kernel, by decide +kernel⟩, List.mem_of_getElem? (i := 123) (by decide +kernel), List.mem_of_getElem? (i := 1592) (by decide +kernel), List.mem_of_getElem? (i := 1593) (by decide +kernel)⟩
theorem lw_p82 : lw_okq (⟨"RobotCellHouse$Doer", "moveBy", "(LRobotCellHouse$Task;I)V"⟩, 12) := ⟨⟨by decide +kernel, by decide +kernel⟩, List.mem_of_getElem? (i := 123) (by decide +kernel), List.mem_of_getElem? (i := 1596) (by decide +kernel), List.mem_of_getElem? (i := 1597) (by decide +kernel)⟩
theorem lw_p83 : lw_okq (⟨"RobotCellHouse$Doer", "reachesGoals", "(LRobotCellHouse$Arm;)Z"⟩, 12) := ⟨⟨by decide +kernel, by decide +kernel⟩, List.mem_of_getElem? (i := 123) (by decide +kernel), List.mem_of_getElem? (i := 1600) (by decide +kernel), List.mem_of_getElem? (i := 1601) (by decide +kernel)⟩
theorem lw_p84 : lw_okq (⟨"RobotCellHouse$Doer", "waitFor", "(LRobotCellHouse$Task;I)V"⟩, 12) := ⟨⟨by decide +kernel, by decide +kernel⟩, List.mem_of_getElem? (i := 123) (by decide +kernel), List.mem_of_getElem? (i := 1610) (by decide +kernel), List.mem_of_getElem? (i := 1611) (by decide +kernel)⟩
theorem lw_p85 : lw_okq (⟨"RobotCellHouse$Doer", "waitUntil", "(LRobotCellHouse$Task;II)V"⟩, 12) := ⟨⟨by decide +kernel, by decide +kernel⟩, List.mem_of_getElem? (i := 123) (by decide +kernel), List.mem_of_getElem? (i := 1614) (by decide +kernel), List.mem_of_getElem? (i := 1615) (by decide +kernel)⟩
theorem lw_p86 : lw_okq (⟨"RobotCellHouse$Doer", "setPoint", "(II)V"⟩, 12) := ⟨⟨by decide +kernel, by decide +kernel⟩, List.mem_of_getElem? (i := 123) (by decide +kernel), List.mem_of_getElem? (i := 1618) (by decide +kernel), List.mem_of_getElem? (i := 1619) (by decide +kernel)⟩
theorem lw_p87 : lw_okq (⟨"RobotCellHouse$Doer", "takeLock", "(LRobotCellHouse$Task;I)V"⟩, 12) := ⟨⟨by decide +kernel, by decide +kernel⟩, List.mem_of_getElem? (i := 123) (by decide +kernel), List.mem_of_getElem? (i := 1623) (by decide +kernel), List.mem_of_getElem? (i := 1624) (by decide +kernel)⟩
theorem lw_p88 : lw_okq (⟨"RobotCellHouse$Doer", "freeLock", "(LRobotCellHouse$Task;I)V"⟩, 12) := ⟨⟨by decide +kernel, by decide +kernel⟩, List.mem_of_getElem? (i := 123) (by decide +kernel), List.mem_of_getElem? (i := 1627) (by decide +kernel), List.mem_of_getElem? (i := 1628) (by decide +kernel)⟩
theorem lw_p89 : lw_okq (⟨"RobotCellHouse$Doer", "grip", "(I)V"⟩, 12) := ⟨⟨by decide +kernel, by decide +kernel⟩, List.mem_of_getElem? (i := 123) (by decide +kernel), List.mem_of_getElem? (i := 1632) (by decide +kernel), List.mem_of_getElem? (i := 1633) (by decide +kernel)⟩
theorem lw_p90 : lw_okq (⟨"RobotCellHouse$Doer", "drop", "(I)V"⟩, 12) := ⟨⟨by decide +kernel, by decide +kernel⟩, List.mem_of_getElem? (i := 123) (by decide +kernel), List.mem_of_getElem? (i := 1656) (by decide +kernel), List.mem_of_getElem? (i := 1657) (by decide +kernel)⟩
theorem lw_p91 : lw_okq (⟨"RobotCellHouse$Doer", "watch", "(LRobotCellHouse$Task;II)V"⟩, 12) := ⟨⟨by decide +kernel, by decide +kernel⟩, List.mem_of_getElem? (i := 123) (by decide +kernel), List.mem_of_getElem? (i := 1668) (by decide +kernel), List.mem_of_getElem? (i := 1669) (by decide +kernel)⟩
theorem lw_p92 : lw_okq (⟨"RobotCellHouse$Doer", "lead", "(LRobotCellHouse$Task;LRobotCellHouse$Code;II)V"⟩, 12) := ⟨⟨by decide +kernel, by decide +kernel⟩, List.mem_of_getElem? (i := 123) (by decide +kernel), List.mem_of_getElem? (i := 1672) (by decide +kernel), List.mem_of_getElem? (i := 1673) (by decide +kernel)⟩
theorem lw_p93 : lw_okq (⟨"RobotCellHouse$Doer", "leaveFurther", "(LRobotCellHouse$Task;LRobotCellHouse$Code;I)V"⟩, 12) := ⟨⟨by decide +kernel, by decide +kernel⟩, List.mem_of_getElem? (i := 123) (by decide +kernel), List.mem_of_getElem? (i := 1689) (by decide +kernel), List.mem_of_getElem? (i := 1690) (by decide +kernel)⟩
theorem lw_p94 : lw_okq (⟨"RobotCellHouse$Doer", "endIfLeft", "(LRobotCellHouse$Task;)V"⟩, 12) := ⟨⟨by decide +kernel, by decide +kernel⟩, List.mem_of_getElem? (i := 123) (by decide +kernel), List.mem_of_getElem? (i := 1697) (by decide +kernel), List.mem_of_getElem? (i := 1698) (by decide +kernel)⟩
theorem lw_p95 : lw_okq (⟨"RobotCellHouse", "goOn", "(I)V"⟩, 15) := ⟨⟨by decide +kernel, by decide +kernel⟩, List.mem_of_getElem? (i := 22) (by decide +kernel), List.mem_of_getElem? (i := 1701) (by decide +kernel), List.mem_of_getElem? (i := 1702) (by decide +kernel)⟩
def lw_privs_6 : List (MethodName × Nat) := [(⟨"RobotCellHouse$Doer", "act", "(LRobotCellHouse$Task;LRobotCellHouse$Code;II)V"⟩, 12), (⟨"RobotCellHouse$Doer", "collect", "(II)V"⟩, 12), (⟨"RobotCellHouse$Doer", "moveBy", "(LRobotCellHouse$Task;I)V"⟩, 12), (⟨"RobotCellHouse$Doer", "reachesGoals", "(LRobotCellHouse$Arm;)Z"⟩, 12), (⟨"RobotCellHouse$Doer", "waitFor", "(LRobotCellHouse$Task;I)V"⟩, 12), (⟨"RobotCellHouse$Doer", "waitUntil", "(LRobotCellHouse$Task;II)V"⟩, 12), (⟨"RobotCellHouse$Doer", "setPoint", "(II)V"⟩, 12), (⟨"RobotCellHouse$Doer", "takeLock", "(LRobotCellHouse$Task;I)V"⟩, 12), (⟨"RobotCellHouse$Doer", "freeLock", "(LRobotCellHouse$Task;I)V"⟩, 12), (⟨"RobotCellHouse$Doer", "grip", "(I)V"⟩, 12), (⟨"RobotCellHouse$Doer", "drop", "(I)V"⟩, 12), (⟨"RobotCellHouse$Doer", "watch", "(LRobotCellHouse$Task;II)V"⟩, 12), (⟨"RobotCellHouse$Doer", "lead", "(LRobotCellHouse$Task;LRobotCellHouse$Code;II)V"⟩, 12), (⟨"RobotCellHouse$Doer", "leaveFurther", "(LRobotCellHouse$Task;LRobotCellHouse$Code;I)V"⟩, 12), (⟨"RobotCellHouse$Doer", "endIfLeft", "(LRobotCellHouse$Task;)V"⟩, 12), (⟨"RobotCellHouse", "goOn", "(I)V"⟩, 15)]
theorem lw_r6 : ∀ q ∈ lw_privs_6, lw_okq q := List.forall_mem_cons.mpr ⟨lw_p80, List.forall_mem_cons.mpr ⟨lw_p81, List.forall_mem_cons.mpr ⟨lw_p82, List.forall_mem_cons.mpr ⟨lw_p83, List.forall_mem_cons.mpr ⟨lw_p84, List.forall_mem_cons.mpr ⟨lw_p85, List.forall_mem_cons.mpr ⟨lw_p86, List.forall_mem_cons.mpr ⟨lw_p87, List.forall_mem_cons.mpr ⟨lw_p88, List.forall_mem_cons.mpr ⟨lw_p89, List.forall_mem_cons.mpr ⟨lw_p90, List.forall_mem_cons.mpr ⟨lw_p91, List.forall_mem_cons.mpr ⟨lw_p92, List.forall_mem_cons.mpr ⟨lw_p93, List.forall_mem_cons.mpr ⟨lw_p94, List.forall_mem_cons.mpr ⟨lw_p95, fun _ h => absurd h List.not_mem_nil⟩⟩⟩⟩⟩⟩⟩⟩⟩⟩⟩⟩⟩⟩⟩⟩
theorem lw_p96 : lw_okq (⟨"RobotCellHouse$Joint", "wayToRest", "(I)I"⟩, 12) := ⟨⟨by decide +kernel, by decide +kernel⟩, List.mem_of_getElem? (i := 323) (by decide +kernel), List.mem_of_getElem? (i := 1723) (by decide +kernel), List.mem_of_getElem? (i := 1724) (by decide +kernel)⟩
theorem lw_p97 : lw_okq (⟨"RobotCellHouse", "endMove", "(I)V"⟩, 15) := ⟨⟨by decide +kernel, by decide +kernel⟩, List.mem_of_getElem? (i := 22) (by decide +kernel), List.mem_of_getElem? (i := 1736) (by decide +kernel), List.mem_of_getElem? (i := 1737) (by decide +kernel)⟩
theorem lw_p98 : lw_okq (⟨"RobotCellHouse", "guard", "()V"⟩, 15) := ⟨⟨by decide +kernel, by decide +kernel⟩, List.mem_of_getElem? (i := 22) (by decide +kernel), List.mem_of_getElem? (i := 1761) (by decide +kernel), List.mem_of_getElem? (i := 1762) (by decide +kernel)⟩
theorem lw_p99 : lw_okq (⟨"RobotCellHouse", "firstTouching", "()I"⟩, 15) := ⟨⟨by decide +kernel, by decide +kernel⟩, List.mem_of_getElem? (i := 22) (by decide +kernel), List.mem_of_getElem? (i := 1765) (by decide +kernel), List.mem_of_getElem? (i := 1766) (by decide +kernel)⟩
theorem lw_p100 : lw_okq (⟨"RobotCellHouse$Shapes", "nearBodies", "(LRobotCellHouse$Arm;II)Z"⟩, 17) := ⟨⟨by decide +kernel, by decide +kernel⟩, List.mem_of_getElem? (i := 612) (by decide +kernel), List.mem_of_getElem? (i := 1781) (by decide +kernel), List.mem_of_getElem? (i := 1782) (by decide +kernel)⟩
theorem lw_p101 : lw_okq (⟨"RobotCellHouse$Shapes", "nearLine", "(IIIII)Z"⟩, 17) := ⟨⟨by decide +kernel, by decide +kernel⟩, List.mem_of_getElem? (i := 612) (by decide +kernel), List.mem_of_getElem? (i := 1785) (by decide +kernel), List.mem_of_getElem? (i := 1786) (by decide +kernel)⟩
theorem lw_p102 : lw_okq (⟨"RobotCellHouse$Shapes", "isBeyond", "(IIIII)Z"⟩, 17) := ⟨⟨by decide +kernel, by decide +kernel⟩, List.mem_of_getElem? (i := 612) (by decide +kernel), List.mem_of_getElem? (i := 1789) (by decide +kernel), List.mem_of_getElem? (i := 1790) (by decide +kernel)⟩
theorem lw_p103 : lw_okq (⟨"RobotCellHouse$Shapes", "nearSolid", "(II)Z"⟩, 17) := ⟨⟨by decide +kernel, by decide +kernel⟩, List.mem_of_getElem? (i := 612) (by decide +kernel), List.mem_of_getElem? (i := 1803) (by decide +kernel), List.mem_of_getElem? (i := 1804) (by decide +kernel)⟩
theorem lw_p104 : lw_okq (⟨"RobotCellHouse", "countTravellers", "()V"⟩, 15) := ⟨⟨by decide +kernel, by decide +kernel⟩, List.mem_of_getElem? (i := 22) (by decide +kernel), List.mem_of_getElem? (i := 1808) (by decide +kernel), List.mem_of_getElem? (i := 1809) (by decide +kernel)⟩
theorem lw_p105 : lw_okq (⟨"RobotCellHouse$Shapes", "breaksZone", "(ILRobotCellHouse$Arm;I)Z"⟩, 17) := ⟨⟨by decide +kernel, by decide +kernel⟩, List.mem_of_getElem? (i := 612) (by decide +kernel), List.mem_of_getElem? (i := 1816) (by decide +kernel), List.mem_of_getElem? (i := 1817) (by decide +kernel)⟩
theorem lw_p106 : lw_okq (⟨"RobotCellHouse$Planner", "takeValues", "(LRobotCellHouse$Arm;I)V"⟩, 13) := ⟨⟨by decide +kernel, by decide +kernel⟩, List.mem_of_getElem? (i := 673) (by decide +kernel), List.mem_of_getElem? (i := 1892) (by decide +kernel), List.mem_of_getElem? (i := 1893) (by decide +kernel)⟩
theorem lw_p107 : lw_okq (⟨"RobotCellHouse$Planner", "digit", "(II)I"⟩, 13) := ⟨⟨by decide +kernel, by decide +kernel⟩, List.mem_of_getElem? (i := 673) (by decide +kernel), List.mem_of_getElem? (i := 1896) (by decide +kernel), List.mem_of_getElem? (i := 1897) (by decide +kernel)⟩
theorem lw_p108 : lw_okq (⟨"RobotCellHouse$Planner", "neighbour", "(II)I"⟩, 13) := ⟨⟨by decide +kernel, by decide +kernel⟩, List.mem_of_getElem? (i := 673) (by decide +kernel), List.mem_of_getElem? (i := 1900) (by decide +kernel), List.mem_of_getElem? (i := 1901) (by decide +kernel)⟩
theorem lw_p109 : lw_okq (⟨"RobotCellHouse$Planner", "passes", "([LRobotCellHouse$Arm;ILRobotCellHouse$Shapes;III)Z"⟩, 13) := ⟨⟨by decide +kernel, by decide +kernel⟩, List.mem_of_getElem? (i := 673) (by decide +kernel), List.mem_of_getElem? (i := 1904) (by decide +kernel), List.mem_of_getElem? (i := 1905) (by decide +kernel)⟩
theorem lw_p110 : lw_okq (⟨"RobotCellHouse$Planner", "before", "(I)I"⟩, 13) := ⟨⟨by decide +kernel, by decide +kernel⟩, List.mem_of_getElem? (i := 673) (by decide +kernel), List.mem_of_getElem? (i := 1913) (by decide +kernel), List.mem_of_getElem? (i := 1914) (by decide +kernel)⟩
theorem lw_p111 : lw_okq (⟨"RobotCellHouseModel", "makeSines", "()V"⟩, 119) := ⟨⟨by decide +kernel, by decide +kernel⟩, List.mem_of_getElem? (i := 2001) (by decide +kernel), List.mem_of_getElem? (i := 2011) (by decide +kernel), List.mem_of_getElem? (i := 2012) (by decide +kernel)⟩
def lw_privs_7 : List (MethodName × Nat) := [(⟨"RobotCellHouse$Joint", "wayToRest", "(I)I"⟩, 12), (⟨"RobotCellHouse", "endMove", "(I)V"⟩, 15), (⟨"RobotCellHouse", "guard", "()V"⟩, 15), (⟨"RobotCellHouse", "firstTouching", "()I"⟩, 15), (⟨"RobotCellHouse$Shapes", "nearBodies", "(LRobotCellHouse$Arm;II)Z"⟩, 17), (⟨"RobotCellHouse$Shapes", "nearLine", "(IIIII)Z"⟩, 17), (⟨"RobotCellHouse$Shapes", "isBeyond", "(IIIII)Z"⟩, 17), (⟨"RobotCellHouse$Shapes", "nearSolid", "(II)Z"⟩, 17), (⟨"RobotCellHouse", "countTravellers", "()V"⟩, 15), (⟨"RobotCellHouse$Shapes", "breaksZone", "(ILRobotCellHouse$Arm;I)Z"⟩, 17), (⟨"RobotCellHouse$Planner", "takeValues", "(LRobotCellHouse$Arm;I)V"⟩, 13), (⟨"RobotCellHouse$Planner", "digit", "(II)I"⟩, 13), (⟨"RobotCellHouse$Planner", "neighbour", "(II)I"⟩, 13), (⟨"RobotCellHouse$Planner", "passes", "([LRobotCellHouse$Arm;ILRobotCellHouse$Shapes;III)Z"⟩, 13), (⟨"RobotCellHouse$Planner", "before", "(I)I"⟩, 13), (⟨"RobotCellHouseModel", "makeSines", "()V"⟩, 119)]
theorem lw_r7 : ∀ q ∈ lw_privs_7, lw_okq q := List.forall_mem_cons.mpr ⟨lw_p96, List.forall_mem_cons.mpr ⟨lw_p97, List.forall_mem_cons.mpr ⟨lw_p98, List.forall_mem_cons.mpr ⟨lw_p99, List.forall_mem_cons.mpr ⟨lw_p100, List.forall_mem_cons.mpr ⟨lw_p101, List.forall_mem_cons.mpr ⟨lw_p102, List.forall_mem_cons.mpr ⟨lw_p103, List.forall_mem_cons.mpr ⟨lw_p104, List.forall_mem_cons.mpr ⟨lw_p105, List.forall_mem_cons.mpr ⟨lw_p106, List.forall_mem_cons.mpr ⟨lw_p107, List.forall_mem_cons.mpr ⟨lw_p108, List.forall_mem_cons.mpr ⟨lw_p109, List.forall_mem_cons.mpr ⟨lw_p110, List.forall_mem_cons.mpr ⟨lw_p111, fun _ h => absurd h List.not_mem_nil⟩⟩⟩⟩⟩⟩⟩⟩⟩⟩⟩⟩⟩⟩⟩⟩
theorem lw_p112 : lw_okq (⟨"RobotCellHouseModel", "renew", "()V"⟩, 119) := ⟨⟨by decide +kernel, by decide +kernel⟩, List.mem_of_getElem? (i := 2001) (by decide +kernel), List.mem_of_getElem? (i := 2026) (by decide +kernel), List.mem_of_getElem? (i := 2027) (by decide +kernel)⟩
theorem lw_p113 : lw_okq (⟨"RobotCellHouseModel", "word", "(I)V"⟩, 119) := ⟨⟨by decide +kernel, by decide +kernel⟩, List.mem_of_getElem? (i := 2001) (by decide +kernel), List.mem_of_getElem? (i := 2398) (by decide +kernel), List.mem_of_getElem? (i := 2399) (by decide +kernel)⟩
theorem lw_p114 : lw_okq (⟨"RobotCellHouseModel", "isArm", "(I)Z"⟩, 119) := ⟨⟨by decide +kernel, by decide +kernel⟩, List.mem_of_getElem? (i := 2001) (by decide +kernel), List.mem_of_getElem? (i := 2425) (by decide +kernel), List.mem_of_getElem? (i := 2426) (by decide +kernel)⟩
theorem lw_p115 : lw_okq (⟨"RobotCellHouseModel", "isJoint", "(II)Z"⟩, 119) := ⟨⟨by decide +kernel, by decide +kernel⟩, List.mem_of_getElem? (i := 2001) (by decide +kernel), List.mem_of_getElem? (i := 2434) (by decide +kernel), List.mem_of_getElem? (i := 2435) (by decide +kernel)⟩
theorem lw_p116 : lw_okq (⟨"RobotCellHouseModel", "solid", "(ZIIII)I"⟩, 119) := ⟨⟨by decide +kernel, by decide +kernel⟩, List.mem_of_getElem? (i := 2001) (by decide +kernel), List.mem_of_getElem? (i := 2452) (by decide +kernel), List.mem_of_getElem? (i := 2453) (by decide +kernel)⟩
theorem lw_p117 : lw_okq (⟨"RobotCellHouseModel", "comes", "(III)V"⟩, 119) := ⟨⟨by decide +kernel, by decide +kernel⟩, List.mem_of_getElem? (i := 2001) (by decide +kernel), List.mem_of_getElem? (i := 2487) (by decide +kernel), List.mem_of_getElem? (i := 2488) (by decide +kernel)⟩
theorem lw_p118 : lw_okq (⟨"RobotCellHouseModel", "lies", "(III)V"⟩, 119) := ⟨⟨by decide +kernel, by decide +kernel⟩, List.mem_of_getElem? (i := 2001) (by decide +kernel), List.mem_of_getElem? (i := 2498) (by decide +kernel), List.mem_of_getElem? (i := 2499) (by decide +kernel)⟩
theorem lw_p119 : lw_okq (⟨"RobotCellHouseModel", "keepPoints", "()V"⟩, 119) := ⟨⟨by decide +kernel, by decide +kernel⟩, List.mem_of_getElem? (i := 2001) (by decide +kernel), List.mem_of_getElem? (i := 2530) (by decide +kernel), List.mem_of_getElem? (i := 2531) (by decide +kernel)⟩
theorem lw_p120 : lw_okq (⟨"RobotCellHouseModel", "allPoints", "()V"⟩, 119) := ⟨⟨by decide +kernel, by decide +kernel⟩, List.mem_of_getElem? (i := 2001) (by decide +kernel), List.mem_of_getElem? (i := 2534) (by decide +kernel), List.mem_of_getElem? (i := 2535) (by decide +kernel)⟩
theorem lw_p121 : lw_okq (⟨"RobotCellHouseModel", "points", "(IZ)V"⟩, 119) := ⟨⟨by decide +kernel, by decide +kernel⟩, List.mem_of_getElem? (i := 2001) (by decide +kernel), List.mem_of_getElem? (i := 2538) (by decide +kernel), List.mem_of_getElem? (i := 2539) (by decide +kernel)⟩
theorem lw_p122 : lw_okq (⟨"RobotCellHouseModel", "sine", "(I)I"⟩, 119) := ⟨⟨by decide +kernel, by decide +kernel⟩, List.mem_of_getElem? (i := 2001) (by decide +kernel), List.mem_of_getElem? (i := 2543) (by decide +kernel), List.mem_of_getElem? (i := 2544) (by decide +kernel)⟩
theorem lw_p123 : lw_okq (⟨"RobotCellHouseModel", "any", "(III)Z"⟩, 119) := ⟨⟨by decide +kernel, by decide +kernel⟩, List.mem_of_getElem? (i := 2001) (by decide +kernel), List.mem_of_getElem? (i := 2552) (by decide +kernel), List.mem_of_getElem? (i := 2553) (by decide +kernel)⟩
theorem lw_p124 : lw_okq (⟨"RobotCellHouseModel", "alone", "(III)Z"⟩, 119) := ⟨⟨by decide +kernel, by decide +kernel⟩, List.mem_of_getElem? (i := 2001) (by decide +kernel), List.mem_of_getElem? (i := 2556) (by decide +kernel), List.mem_of_getElem? (i := 2557) (by decide +kernel)⟩
theorem lw_p125 : lw_okq (⟨"RobotCellHouseModel", "bodies", "(I)I"⟩, 119) := ⟨⟨by decide +kernel, by decide +kernel⟩, List.mem_of_getElem? (i := 2001) (by decide +kernel), List.mem_of_getElem? (i := 2560) (by decide +kernel), List.mem_of_getElem? (i := 2561) (by decide +kernel)⟩
theorem lw_p126 : lw_okq (⟨"RobotCellHouseModel", "touchBodies", "(IIIIIII)Z"⟩, 119) := ⟨⟨by decide +kernel, by decide +kernel⟩, List.mem_of_getElem? (i := 2001) (by decide +kernel), List.mem_of_getElem? (i := 2564) (by decide +kernel), List.mem_of_getElem? (i := 2565) (by decide +kernel)⟩
theorem lw_p127 : lw_okq (⟨"RobotCellHouseModel", "body", "(III)V"⟩, 119) := ⟨⟨by decide +kernel, by decide +kernel⟩, List.mem_of_getElem? (i := 2001) (by decide +kernel), List.mem_of_getElem? (i := 2568) (by decide +kernel), List.mem_of_getElem? (i := 2569) (by decide +kernel)⟩
def lw_privs_8 : List (MethodName × Nat) := [(⟨"RobotCellHouseModel", "renew", "()V"⟩, 119), (⟨"RobotCellHouseModel", "word", "(I)V"⟩, 119), (⟨"RobotCellHouseModel", "isArm", "(I)Z"⟩, 119), (⟨"RobotCellHouseModel", "isJoint", "(II)Z"⟩, 119), (⟨"RobotCellHouseModel", "solid", "(ZIIII)I"⟩, 119), (⟨"RobotCellHouseModel", "comes", "(III)V"⟩, 119), (⟨"RobotCellHouseModel", "lies", "(III)V"⟩, 119), (⟨"RobotCellHouseModel", "keepPoints", "()V"⟩, 119), (⟨"RobotCellHouseModel", "allPoints", "()V"⟩, 119), (⟨"RobotCellHouseModel", "points", "(IZ)V"⟩, 119), (⟨"RobotCellHouseModel", "sine", "(I)I"⟩, 119), (⟨"RobotCellHouseModel", "any", "(III)Z"⟩, 119), (⟨"RobotCellHouseModel", "alone", "(III)Z"⟩, 119), (⟨"RobotCellHouseModel", "bodies", "(I)I"⟩, 119), (⟨"RobotCellHouseModel", "touchBodies", "(IIIIIII)Z"⟩, 119), (⟨"RobotCellHouseModel", "body", "(III)V"⟩, 119)]
theorem lw_r8 : ∀ q ∈ lw_privs_8, lw_okq q := List.forall_mem_cons.mpr ⟨lw_p112, List.forall_mem_cons.mpr ⟨lw_p113, List.forall_mem_cons.mpr ⟨lw_p114, List.forall_mem_cons.mpr ⟨lw_p115, List.forall_mem_cons.mpr ⟨lw_p116, List.forall_mem_cons.mpr ⟨lw_p117, List.forall_mem_cons.mpr ⟨lw_p118, List.forall_mem_cons.mpr ⟨lw_p119, List.forall_mem_cons.mpr ⟨lw_p120, List.forall_mem_cons.mpr ⟨lw_p121, List.forall_mem_cons.mpr ⟨lw_p122, List.forall_mem_cons.mpr ⟨lw_p123, List.forall_mem_cons.mpr ⟨lw_p124, List.forall_mem_cons.mpr ⟨lw_p125, List.forall_mem_cons.mpr ⟨lw_p126, List.forall_mem_cons.mpr ⟨lw_p127, fun _ h => absurd h List.not_mem_nil⟩⟩⟩⟩⟩⟩⟩⟩⟩⟩⟩⟩⟩⟩⟩⟩
theorem lw_p128 : lw_okq (⟨"RobotCellHouseModel", "bodyLine", "([I)V"⟩, 119) := ⟨⟨by decide +kernel, by decide +kernel⟩, List.mem_of_getElem? (i := 2001) (by decide +kernel), List.mem_of_getElem? (i := 2572) (by decide +kernel), List.mem_of_getElem? (i := 2573) (by decide +kernel)⟩
theorem lw_p129 : lw_okq (⟨"RobotCellHouseModel", "line", "([IIIII)V"⟩, 119) := ⟨⟨by decide +kernel, by decide +kernel⟩, List.mem_of_getElem? (i := 2001) (by decide +kernel), List.mem_of_getElem? (i := 2576) (by decide +kernel), List.mem_of_getElem? (i := 2577) (by decide +kernel)⟩
theorem lw_p130 : lw_okq (⟨"RobotCellHouseModel", "touchSolid", "(IIIII)Z"⟩, 119) := ⟨⟨by decide +kernel, by decide +kernel⟩, List.mem_of_getElem? (i := 2001) (by decide +kernel), List.mem_of_getElem? (i := 2595) (by decide +kernel), List.mem_of_getElem? (i := 2596) (by decide +kernel)⟩
theorem lw_p131 : lw_okq (⟨"RobotCellHouseModel", "both", "(IIII)Z"⟩, 119) := ⟨⟨by decide +kernel, by decide +kernel⟩, List.mem_of_getElem? (i := 2001) (by decide +kernel), List.mem_of_getElem? (i := 2599) (by decide +kernel), List.mem_of_getElem? (i := 2600) (by decide +kernel)⟩
theorem lw_p132 : lw_okq (⟨"RobotCellHouseModel", "nextToken", "()V"⟩, 119) := ⟨⟨by decide +kernel, by decide +kernel⟩, List.mem_of_getElem? (i := 2001) (by decide +kernel), List.mem_of_getElem? (i := 2607) (by decide +kernel), List.mem_of_getElem? (i := 2608) (by decide +kernel)⟩
theorem lw_p133 : lw_okq (⟨"RobotCellHouseModel", "byteAt", "(I)I"⟩, 119) := ⟨⟨by decide +kernel, by decide +kernel⟩, List.mem_of_getElem? (i := 2001) (by decide +kernel), List.mem_of_getElem? (i := 2611) (by decide +kernel), List.mem_of_getElem? (i := 2612) (by decide +kernel)⟩
theorem lw_p134 : lw_okq (⟨"RobotCellHouseModel", "readWord", "()V"⟩, 119) := ⟨⟨by decide +kernel, by decide +kernel⟩, List.mem_of_getElem? (i := 2001) (by decide +kernel), List.mem_of_getElem? (i := 2622) (by decide +kernel), List.mem_of_getElem? (i := 2623) (by decide +kernel)⟩
theorem lw_p135 : lw_okq (⟨"RobotCellHouseModel", "readNumber", "()V"⟩, 119) := ⟨⟨by decide +kernel, by decide +kernel⟩, List.mem_of_getElem? (i := 2001) (by decide +kernel), List.mem_of_getElem? (i := 2634) (by decide +kernel), List.mem_of_getElem? (i := 2635) (by decide +kernel)⟩
theorem lw_p136 : lw_okq (⟨"RobotCellHouseModel", "readSign", "(I)V"⟩, 119) := ⟨⟨by decide +kernel, by decide +kernel⟩, List.mem_of_getElem? (i := 2001) (by decide +kernel), List.mem_of_getElem? (i := 2640) (by decide +kernel), List.mem_of_getElem? (i := 2641) (by decide +kernel)⟩
theorem lw_p137 : lw_okq (⟨"RobotCellHouseModel", "text", "()V"⟩, 119) := ⟨⟨by decide +kernel, by decide +kernel⟩, List.mem_of_getElem? (i := 2001) (by decide +kernel), List.mem_of_getElem? (i := 2644) (by decide +kernel), List.mem_of_getElem? (i := 2645) (by decide +kernel)⟩
theorem lw_p138 : lw_okq (⟨"RobotCellHouseModel", "isKey", "(I)Z"⟩, 119) := ⟨⟨by decide +kernel, by decide +kernel⟩, List.mem_of_getElem? (i := 2001) (by decide +kernel), List.mem_of_getElem? (i := 2648) (by decide +kernel), List.mem_of_getElem? (i := 2649) (by decide +kernel)⟩
theorem lw_p139 : lw_okq (⟨"RobotCellHouseModel", "name", "(II)V"⟩, 119) := ⟨⟨by decide +kernel, by decide +kernel⟩, List.mem_of_getElem? (i := 2001) (by decide +kernel), List.mem_of_getElem? (i := 2652) (by decide +kernel), List.mem_of_getElem? (i := 2653) (by decide +kernel)⟩
theorem lw_p140 : lw_okq (⟨"RobotCellHouseModel", "must", "(Z)V"⟩, 119) := ⟨⟨by decide +kernel, by decide +kernel⟩, List.mem_of_getElem? (i := 2001) (by decide +kernel), List.mem_of_getElem? (i := 2656) (by decide +kernel), List.mem_of_getElem? (i := 2657) (by decide +kernel)⟩
theorem lw_p141 : lw_okq (⟨"RobotCellHouseModel", "refuse", "(I)V"⟩, 119) := ⟨⟨by decide +kernel, by decide +kernel⟩, List.mem_of_getElem? (i := 2001) (by decide +kernel), List.mem_of_getElem? (i := 2660) (by decide +kernel), List.mem_of_getElem? (i := 2661) (by decide +kernel)⟩
theorem lw_p142 : lw_okq (⟨"RobotCellHouseModel", "isSign", "(I)Z"⟩, 119) := ⟨⟨by decide +kernel, by decide +kernel⟩, List.mem_of_getElem? (i := 2001) (by decide +kernel), List.mem_of_getElem? (i := 2664) (by decide +kernel), List.mem_of_getElem? (i := 2665) (by decide +kernel)⟩
theorem lw_p143 : lw_okq (⟨"RobotCellHouseModel", "stats", "()V"⟩, 119) := ⟨⟨by decide +kernel, by decide +kernel⟩, List.mem_of_getElem? (i := 2001) (by decide +kernel), List.mem_of_getElem? (i := 2668) (by decide +kernel), List.mem_of_getElem? (i := 2669) (by decide +kernel)⟩
def lw_privs_9 : List (MethodName × Nat) := [(⟨"RobotCellHouseModel", "bodyLine", "([I)V"⟩, 119), (⟨"RobotCellHouseModel", "line", "([IIIII)V"⟩, 119), (⟨"RobotCellHouseModel", "touchSolid", "(IIIII)Z"⟩, 119), (⟨"RobotCellHouseModel", "both", "(IIII)Z"⟩, 119), (⟨"RobotCellHouseModel", "nextToken", "()V"⟩, 119), (⟨"RobotCellHouseModel", "byteAt", "(I)I"⟩, 119), (⟨"RobotCellHouseModel", "readWord", "()V"⟩, 119), (⟨"RobotCellHouseModel", "readNumber", "()V"⟩, 119), (⟨"RobotCellHouseModel", "readSign", "(I)V"⟩, 119), (⟨"RobotCellHouseModel", "text", "()V"⟩, 119), (⟨"RobotCellHouseModel", "isKey", "(I)Z"⟩, 119), (⟨"RobotCellHouseModel", "name", "(II)V"⟩, 119), (⟨"RobotCellHouseModel", "must", "(Z)V"⟩, 119), (⟨"RobotCellHouseModel", "refuse", "(I)V"⟩, 119), (⟨"RobotCellHouseModel", "isSign", "(I)Z"⟩, 119), (⟨"RobotCellHouseModel", "stats", "()V"⟩, 119)]
theorem lw_r9 : ∀ q ∈ lw_privs_9, lw_okq q := List.forall_mem_cons.mpr ⟨lw_p128, List.forall_mem_cons.mpr ⟨lw_p129, List.forall_mem_cons.mpr ⟨lw_p130, List.forall_mem_cons.mpr ⟨lw_p131, List.forall_mem_cons.mpr ⟨lw_p132, List.forall_mem_cons.mpr ⟨lw_p133, List.forall_mem_cons.mpr ⟨lw_p134, List.forall_mem_cons.mpr ⟨lw_p135, List.forall_mem_cons.mpr ⟨lw_p136, List.forall_mem_cons.mpr ⟨lw_p137, List.forall_mem_cons.mpr ⟨lw_p138, List.forall_mem_cons.mpr ⟨lw_p139, List.forall_mem_cons.mpr ⟨lw_p140, List.forall_mem_cons.mpr ⟨lw_p141, List.forall_mem_cons.mpr ⟨lw_p142, List.forall_mem_cons.mpr ⟨lw_p143, fun _ h => absurd h List.not_mem_nil⟩⟩⟩⟩⟩⟩⟩⟩⟩⟩⟩⟩⟩⟩⟩⟩
theorem lw_p144 : lw_okq (⟨"RobotCellHouseModel", "begins", "()Z"⟩, 119) := ⟨⟨by decide +kernel, by decide +kernel⟩, List.mem_of_getElem? (i := 2001) (by decide +kernel), List.mem_of_getElem? (i := 2672) (by decide +kernel), List.mem_of_getElem? (i := 2673) (by decide +kernel)⟩
theorem lw_p145 : lw_okq (⟨"RobotCellHouseModel", "emit", "(II)I"⟩, 119) := ⟨⟨by decide +kernel, by decide +kernel⟩, List.mem_of_getElem? (i := 2001) (by decide +kernel), List.mem_of_getElem? (i := 2677) (by decide +kernel), List.mem_of_getElem? (i := 2678) (by decide +kernel)⟩
theorem lw_p146 : lw_okq (⟨"RobotCellHouseModel", "exp", "()V"⟩, 119) := ⟨⟨by decide +kernel, by decide +kernel⟩, List.mem_of_getElem? (i := 2001) (by decide +kernel), List.mem_of_getElem? (i := 2682) (by decide +kernel), List.mem_of_getElem? (i := 2683) (by decide +kernel)⟩
theorem lw_p147 : lw_okq (⟨"RobotCellHouseModel", "all", "()V"⟩, 119) := ⟨⟨by decide +kernel, by decide +kernel⟩, List.mem_of_getElem? (i := 2001) (by decide +kernel), List.mem_of_getElem? (i := 2686) (by decide +kernel), List.mem_of_getElem? (i := 2687) (by decide +kernel)⟩
theorem lw_p148 : lw_okq (⟨"RobotCellHouseModel", "fact", "()V"⟩, 119) := ⟨⟨by decide +kernel, by decide +kernel⟩, List.mem_of_getElem? (i := 2001) (by decide +kernel), List.mem_of_getElem? (i := 2690) (by decide +kernel), List.mem_of_getElem? (i := 2691) (by decide +kernel)⟩
theorem lw_p149 : lw_okq (⟨"RobotCellHouseModel", "opened", "()V"⟩, 119) := ⟨⟨by decide +kernel, by decide +kernel⟩, List.mem_of_getElem? (i := 2001) (by decide +kernel), List.mem_of_getElem? (i := 2694) (by decide +kernel), List.mem_of_getElem? (i := 2695) (by decide +kernel)⟩
theorem lw_p150 : lw_okq (⟨"RobotCellHouseModel", "sum", "()V"⟩, 119) := ⟨⟨by decide +kernel, by decide +kernel⟩, List.mem_of_getElem? (i := 2001) (by decide +kernel), List.mem_of_getElem? (i := 2698) (by decide +kernel), List.mem_of_getElem? (i := 2699) (by decide +kernel)⟩
theorem lw_p151 : lw_okq (⟨"RobotCellHouseModel", "product", "()V"⟩, 119) := ⟨⟨by decide +kernel, by decide +kernel⟩, List.mem_of_getElem? (i := 2001) (by decide +kernel), List.mem_of_getElem? (i := 2702) (by decide +kernel), List.mem_of_getElem? (i := 2703) (by decide +kernel)⟩
theorem lw_p152 : lw_okq (⟨"RobotCellHouseModel", "single", "()V"⟩, 119) := ⟨⟨by decide +kernel, by decide +kernel⟩, List.mem_of_getElem? (i := 2001) (by decide +kernel), List.mem_of_getElem? (i := 2706) (by decide +kernel), List.mem_of_getElem? (i := 2707) (by decide +kernel)⟩
theorem lw_p153 : lw_okq (⟨"RobotCellHouseModel", "bracket", "()V"⟩, 119) := ⟨⟨by decide +kernel, by decide +kernel⟩, List.mem_of_getElem? (i := 2001) (by decide +kernel), List.mem_of_getElem? (i := 2710) (by decide +kernel), List.mem_of_getElem? (i := 2711) (by decide +kernel)⟩
theorem lw_p154 : lw_okq (⟨"RobotCellHouseModel", "closeChain", "(I)V"⟩, 119) := ⟨⟨by decide +kernel, by decide +kernel⟩, List.mem_of_getElem? (i := 2001) (by decide +kernel), List.mem_of_getElem? (i := 2714) (by decide +kernel), List.mem_of_getElem? (i := 2715) (by decide +kernel)⟩
theorem lw_p155 : lw_okq (⟨"RobotCellHouseModel", "patch", "(I)V"⟩, 119) := ⟨⟨by decide +kernel, by decide +kernel⟩, List.mem_of_getElem? (i := 2001) (by decide +kernel), List.mem_of_getElem? (i := 2718) (by decide +kernel), List.mem_of_getElem? (i := 2719) (by decide +kernel)⟩
theorem lw_p156 : lw_okq (⟨"RobotCellHouseModel", "branch", "()V"⟩, 119) := ⟨⟨by decide +kernel, by decide +kernel⟩, List.mem_of_getElem? (i := 2001) (by decide +kernel), List.mem_of_getElem? (i := 2722) (by decide +kernel), List.mem_of_getElem? (i := 2723) (by decide +kernel)⟩
theorem lw_p157 : lw_okq (⟨"RobotCellHouseModel", "again", "()V"⟩, 119) := ⟨⟨by decide +kernel, by decide +kernel⟩, List.mem_of_getElem? (i := 2001) (by decide +kernel), List.mem_of_getElem? (i := 2726) (by decide +kernel), List.mem_of_getElem? (i := 2727) (by decide +kernel)⟩
theorem lw_p158 : lw_okq (⟨"RobotCellHouseModel", "attempt", "()V"⟩, 119) := ⟨⟨by decide +kernel, by decide +kernel⟩, List.mem_of_getElem? (i := 2001) (by decide +kernel), List.mem_of_getElem? (i := 2730) (by decide +kernel), List.mem_of_getElem? (i := 2731) (by decide +kernel)⟩
theorem lw_p159 : lw_okq (⟨"RobotCellHouseModel", "plain", "(I)V"⟩, 119) := ⟨⟨by decide +kernel, by decide +kernel⟩, List.mem_of_getElem? (i := 2001) (by decide +kernel), List.mem_of_getElem? (i := 2734) (by decide +kernel), List.mem_of_getElem? (i := 2735) (by decide +kernel)⟩
def lw_privs_10 : List (MethodName × Nat) := [(⟨"RobotCellHouseModel", "begins", "()Z"⟩, 119), (⟨"RobotCellHouseModel", "emit", "(II)I"⟩, 119), (⟨"RobotCellHouseModel", "exp", "()V"⟩, 119), (⟨"RobotCellHouseModel", "all", "()V"⟩, 119), (⟨"RobotCellHouseModel", "fact", "()V"⟩, 119), (⟨"RobotCellHouseModel", "opened", "()V"⟩, 119), (⟨"RobotCellHouseModel", "sum", "()V"⟩, 119), (⟨"RobotCellHouseModel", "product", "()V"⟩, 119), (⟨"RobotCellHouseModel", "single", "()V"⟩, 119), (⟨"RobotCellHouseModel", "bracket", "()V"⟩, 119), (⟨"RobotCellHouseModel", "closeChain", "(I)V"⟩, 119), (⟨"RobotCellHouseModel", "patch", "(I)V"⟩, 119), (⟨"RobotCellHouseModel", "branch", "()V"⟩, 119), (⟨"RobotCellHouseModel", "again", "()V"⟩, 119), (⟨"RobotCellHouseModel", "attempt", "()V"⟩, 119), (⟨"RobotCellHouseModel", "plain", "(I)V"⟩, 119)]
theorem lw_r10 : ∀ q ∈ lw_privs_10, lw_okq q := List.forall_mem_cons.mpr ⟨lw_p144, List.forall_mem_cons.mpr ⟨lw_p145, List.forall_mem_cons.mpr ⟨lw_p146, List.forall_mem_cons.mpr ⟨lw_p147, List.forall_mem_cons.mpr ⟨lw_p148, List.forall_mem_cons.mpr ⟨lw_p149, List.forall_mem_cons.mpr ⟨lw_p150, List.forall_mem_cons.mpr ⟨lw_p151, List.forall_mem_cons.mpr ⟨lw_p152, List.forall_mem_cons.mpr ⟨lw_p153, List.forall_mem_cons.mpr ⟨lw_p154, List.forall_mem_cons.mpr ⟨lw_p155, List.forall_mem_cons.mpr ⟨lw_p156, List.forall_mem_cons.mpr ⟨lw_p157, List.forall_mem_cons.mpr ⟨lw_p158, List.forall_mem_cons.mpr ⟨lw_p159, fun _ h => absurd h List.not_mem_nil⟩⟩⟩⟩⟩⟩⟩⟩⟩⟩⟩⟩⟩⟩⟩⟩
theorem lw_p160 : lw_okq (⟨"RobotCellHouseModel", "resolve", "()V"⟩, 119) := ⟨⟨by decide +kernel, by decide +kernel⟩, List.mem_of_getElem? (i := 2001) (by decide +kernel), List.mem_of_getElem? (i := 2738) (by decide +kernel), List.mem_of_getElem? (i := 2739) (by decide +kernel)⟩
theorem lw_p161 : lw_okq (⟨"RobotCellHouseModel", "told", "(III)I"⟩, 119) := ⟨⟨by decide +kernel, by decide +kernel⟩, List.mem_of_getElem? (i := 2001) (by decide +kernel), List.mem_of_getElem? (i := 2742) (by decide +kernel), List.mem_of_getElem? (i := 2743) (by decide +kernel)⟩
theorem lw_p162 : lw_okq (⟨"RobotCellHouseModel", "isSameName", "(II)Z"⟩, 119) := ⟨⟨by decide +kernel, by decide +kernel⟩, List.mem_of_getElem? (i := 2001) (by decide +kernel), List.mem_of_getElem? (i := 2746) (by decide +kernel), List.mem_of_getElem? (i := 2747) (by decide +kernel)⟩
theorem lw_p163 : lw_okq (⟨"RobotCellHouseModel", "nodeCount", "(II)I"⟩, 119) := ⟨⟨by decide +kernel, by decide +kernel⟩, List.mem_of_getElem? (i := 2001) (by decide +kernel), List.mem_of_getElem? (i := 2759) (by decide +kernel), List.mem_of_getElem? (i := 2760) (by decide +kernel)⟩
theorem lw_p164 : lw_okq (⟨"RobotCellHouseModel", "weight", "(I)I"⟩, 119) := ⟨⟨by decide +kernel, by decide +kernel⟩, List.mem_of_getElem? (i := 2001) (by decide +kernel), List.mem_of_getElem? (i := 2763) (by decide +kernel), List.mem_of_getElem? (i := 2764) (by decide +kernel)⟩
theorem lw_p165 : lw_okq (⟨"RobotCellHouseModel", "keptWay", "(I)I"⟩, 119) := ⟨⟨by decide +kernel, by decide +kernel⟩, List.mem_of_getElem? (i := 2001) (by decide +kernel), List.mem_of_getElem? (i := 2767) (by decide +kernel), List.mem_of_getElem? (i := 2768) (by decide +kernel)⟩
theorem lw_p166 : lw_okq (⟨"RobotCellHouseModel", "search", "(III)I"⟩, 119) := ⟨⟨by decide +kernel, by decide +kernel⟩, List.mem_of_getElem? (i := 2001) (by decide +kernel), List.mem_of_getElem? (i := 2771) (by decide +kernel), List.mem_of_getElem? (i := 2772) (by decide +kernel)⟩
theorem lw_p167 : lw_okq (⟨"RobotCellHouseModel", "freeNode", "(I)Z"⟩, 119) := ⟨⟨by decide +kernel, by decide +kernel⟩, List.mem_of_getElem? (i := 2001) (by decide +kernel), List.mem_of_getElem? (i := 2775) (by decide +kernel), List.mem_of_getElem? (i := 2776) (by decide +kernel)⟩
theorem lw_p168 : lw_okq (⟨"RobotCellHouseModel", "tryNode", "(I)V"⟩, 119) := ⟨⟨by decide +kernel, by decide +kernel⟩, List.mem_of_getElem? (i := 2001) (by decide +kernel), List.mem_of_getElem? (i := 2779) (by decide +kernel), List.mem_of_getElem? (i := 2780) (by decide +kernel)⟩
theorem lw_p169 : lw_okq (⟨"RobotCellHouseModel", "digit", "(II)I"⟩, 119) := ⟨⟨by decide +kernel, by decide +kernel⟩, List.mem_of_getElem? (i := 2001) (by decide +kernel), List.mem_of_getElem? (i := 2783) (by decide +kernel), List.mem_of_getElem? (i := 2784) (by decide +kernel)⟩
theorem lw_p170 : lw_okq (⟨"RobotCellHouseModel", "isClear", "()Z"⟩, 119) := ⟨⟨by decide +kernel, by decide +kernel⟩, List.mem_of_getElem? (i := 2001) (by decide +kernel), List.mem_of_getElem? (i := 2787) (by decide +kernel), List.mem_of_getElem? (i := 2788) (by decide +kernel)⟩
theorem lw_p171 : lw_okq (⟨"RobotCellHouseModel", "beside", "(II)I"⟩, 119) := ⟨⟨by decide +kernel, by decide +kernel⟩, List.mem_of_getElem? (i := 2001) (by decide +kernel), List.mem_of_getElem? (i := 2791) (by decide +kernel), List.mem_of_getElem? (i := 2792) (by decide +kernel)⟩
theorem lw_p172 : lw_okq (⟨"RobotCellHouseModel", "freeEdge", "(II)Z"⟩, 119) := ⟨⟨by decide +kernel, by decide +kernel⟩, List.mem_of_getElem? (i := 2001) (by decide +kernel), List.mem_of_getElem? (i := 2795) (by decide +kernel), List.mem_of_getElem? (i := 2796) (by decide +kernel)⟩
theorem lw_p173 : lw_okq (⟨"RobotCellHouseModel", "isBookFull", "()Z"⟩, 119) := ⟨⟨by decide +kernel, by decide +kernel⟩, List.mem_of_getElem? (i := 2001) (by decide +kernel), List.mem_of_getElem? (i := 2799) (by decide +kernel), List.mem_of_getElem? (i := 2800) (by decide +kernel)⟩
theorem lw_p174 : lw_okq (⟨"RobotCellHouseModel", "write", "(IIII)V"⟩, 119) := ⟨⟨by decide +kernel, by decide +kernel⟩, List.mem_of_getElem? (i := 2001) (by decide +kernel), List.mem_of_getElem? (i := 2803) (by decide +kernel), List.mem_of_getElem? (i := 2804) (by decide +kernel)⟩
theorem lw_p175 : lw_okq (⟨"RobotCellHouseModel", "keepWay", "(IZ)V"⟩, 119) := ⟨⟨by decide +kernel, by decide +kernel⟩, List.mem_of_getElem? (i := 2001) (by decide +kernel), List.mem_of_getElem? (i := 2807) (by decide +kernel), List.mem_of_getElem? (i := 2808) (by decide +kernel)⟩
def lw_privs_11 : List (MethodName × Nat) := [(⟨"RobotCellHouseModel", "resolve", "()V"⟩, 119), (⟨"RobotCellHouseModel", "told", "(III)I"⟩, 119), (⟨"RobotCellHouseModel", "isSameName", "(II)Z"⟩, 119), (⟨"RobotCellHouseModel", "nodeCount", "(II)I"⟩, 119), (⟨"RobotCellHouseModel", "weight", "(I)I"⟩, 119), (⟨"RobotCellHouseModel", "keptWay", "(I)I"⟩, 119), (⟨"RobotCellHouseModel", "search", "(III)I"⟩, 119), (⟨"RobotCellHouseModel", "freeNode", "(I)Z"⟩, 119), (⟨"RobotCellHouseModel", "tryNode", "(I)V"⟩, 119), (⟨"RobotCellHouseModel", "digit", "(II)I"⟩, 119), (⟨"RobotCellHouseModel", "isClear", "()Z"⟩, 119), (⟨"RobotCellHouseModel", "beside", "(II)I"⟩, 119), (⟨"RobotCellHouseModel", "freeEdge", "(II)Z"⟩, 119), (⟨"RobotCellHouseModel", "isBookFull", "()Z"⟩, 119), (⟨"RobotCellHouseModel", "write", "(IIII)V"⟩, 119), (⟨"RobotCellHouseModel", "keepWay", "(IZ)V"⟩, 119)]
theorem lw_r11 : ∀ q ∈ lw_privs_11, lw_okq q := List.forall_mem_cons.mpr ⟨lw_p160, List.forall_mem_cons.mpr ⟨lw_p161, List.forall_mem_cons.mpr ⟨lw_p162, List.forall_mem_cons.mpr ⟨lw_p163, List.forall_mem_cons.mpr ⟨lw_p164, List.forall_mem_cons.mpr ⟨lw_p165, List.forall_mem_cons.mpr ⟨lw_p166, List.forall_mem_cons.mpr ⟨lw_p167, List.forall_mem_cons.mpr ⟨lw_p168, List.forall_mem_cons.mpr ⟨lw_p169, List.forall_mem_cons.mpr ⟨lw_p170, List.forall_mem_cons.mpr ⟨lw_p171, List.forall_mem_cons.mpr ⟨lw_p172, List.forall_mem_cons.mpr ⟨lw_p173, List.forall_mem_cons.mpr ⟨lw_p174, List.forall_mem_cons.mpr ⟨lw_p175, fun _ h => absurd h List.not_mem_nil⟩⟩⟩⟩⟩⟩⟩⟩⟩⟩⟩⟩⟩⟩⟩⟩
theorem lw_p176 : lw_okq (⟨"RobotCellHouseModel", "nextOfWay", "(I)V"⟩, 119) := ⟨⟨by decide +kernel, by decide +kernel⟩, List.mem_of_getElem? (i := 2001) (by decide +kernel), List.mem_of_getElem? (i := 2815) (by decide +kernel), List.mem_of_getElem? (i := 2816) (by decide +kernel)⟩
theorem lw_p177 : lw_okq (⟨"RobotCellHouseModel", "beginMove", "(I)V"⟩, 119) := ⟨⟨by decide +kernel, by decide +kernel⟩, List.mem_of_getElem? (i := 2001) (by decide +kernel), List.mem_of_getElem? (i := 2819) (by decide +kernel), List.mem_of_getElem? (i := 2820) (by decide +kernel)⟩
theorem lw_p178 : lw_okq (⟨"RobotCellHouseModel", "newTask", "(II)I"⟩, 119) := ⟨⟨by decide +kernel, by decide +kernel⟩, List.mem_of_getElem? (i := 2001) (by decide +kernel), List.mem_of_getElem? (i := 2831) (by decide +kernel), List.mem_of_getElem? (i := 2832) (by decide +kernel)⟩
theorem lw_p179 : lw_okq (⟨"RobotCellHouseModel", "tick", "()V"⟩, 119) := ⟨⟨by decide +kernel, by decide +kernel⟩, List.mem_of_getElem? (i := 2001) (by decide +kernel), List.mem_of_getElem? (i := 2839) (by decide +kernel), List.mem_of_getElem? (i := 2840) (by decide +kernel)⟩
theorem lw_p180 : lw_okq (⟨"RobotCellHouseModel", "lookAtInputs", "()V"⟩, 119) := ⟨⟨by decide +kernel, by decide +kernel⟩, List.mem_of_getElem? (i := 2001) (by decide +kernel), List.mem_of_getElem? (i := 2843) (by decide +kernel), List.mem_of_getElem? (i := 2844) (by decide +kernel)⟩
theorem lw_p181 : lw_okq (⟨"RobotCellHouseModel", "firstNotWell", "()I"⟩, 119) := ⟨⟨by decide +kernel, by decide +kernel⟩, List.mem_of_getElem? (i := 2001) (by decide +kernel), List.mem_of_getElem? (i := 2847) (by decide +kernel), List.mem_of_getElem? (i := 2848) (by decide +kernel)⟩
theorem lw_p182 : lw_okq (⟨"RobotCellHouseModel", "isWell", "(I)Z"⟩, 119) := ⟨⟨by decide +kernel, by decide +kernel⟩, List.mem_of_getElem? (i := 2001) (by decide +kernel), List.mem_of_getElem? (i := 2851) (by decide +kernel), List.mem_of_getElem? (i := 2852) (by decide +kernel)⟩
theorem lw_p183 : lw_okq (⟨"RobotCellHouseModel", "trip", "(II)V"⟩, 119) := ⟨⟨by decide +kernel, by decide +kernel⟩, List.mem_of_getElem? (i := 2001) (by decide +kernel), List.mem_of_getElem? (i := 2855) (by decide +kernel), List.mem_of_getElem? (i := 2856) (by decide +kernel)⟩
theorem lw_p184 : lw_okq (⟨"RobotCellHouseModel", "note", "(III)V"⟩, 119) := ⟨⟨by decide +kernel, by decide +kernel⟩, List.mem_of_getElem? (i := 2001) (by decide +kernel), List.mem_of_getElem? (i := 2859) (by decide +kernel), List.mem_of_getElem? (i := 2860) (by decide +kernel)⟩
theorem lw_p185 : lw_okq (⟨"RobotCellHouseModel", "breakMove", "(I)V"⟩, 119) := ⟨⟨by decide +kernel, by decide +kernel⟩, List.mem_of_getElem? (i := 2001) (by decide +kernel), List.mem_of_getElem? (i := 2863) (by decide +kernel), List.mem_of_getElem? (i := 2864) (by decide +kernel)⟩
theorem lw_p186 : lw_okq (⟨"RobotCellHouseModel", "turnOf", "(I)V"⟩, 119) := ⟨⟨by decide +kernel, by decide +kernel⟩, List.mem_of_getElem? (i := 2001) (by decide +kernel), List.mem_of_getElem? (i := 2867) (by decide +kernel), List.mem_of_getElem? (i := 2868) (by decide +kernel)⟩
theorem lw_p187 : lw_okq (⟨"RobotCellHouseModel", "fails", "(I)V"⟩, 119) := ⟨⟨by decide +kernel, by decide +kernel⟩, List.mem_of_getElem? (i := 2001) (by decide +kernel), List.mem_of_getElem? (i := 2871) (by decide +kernel), List.mem_of_getElem? (i := 2872) (by decide +kernel)⟩
theorem lw_p188 : lw_okq (⟨"RobotCellHouseModel", "where", "()I"⟩, 119) := ⟨⟨by decide +kernel, by decide +kernel⟩, List.mem_of_getElem? (i := 2001) (by decide +kernel), List.mem_of_getElem? (i := 2875) (by decide +kernel), List.mem_of_getElem? (i := 2876) (by decide +kernel)⟩
theorem lw_p189 : lw_okq (⟨"RobotCellHouseModel", "leave", "(III)V"⟩, 119) := ⟨⟨by decide +kernel, by decide +kernel⟩, List.mem_of_getElem? (i := 2001) (by decide +kernel), List.mem_of_getElem? (i := 2879) (by decide +kernel), List.mem_of_getElem? (i := 2880) (by decide +kernel)⟩
theorem lw_p190 : lw_okq (⟨"RobotCellHouseModel", "go", "(I)V"⟩, 119) := ⟨⟨by decide +kernel, by decide +kernel⟩, List.mem_of_getElem? (i := 2001) (by decide +kernel), List.mem_of_getElem? (i := 2883) (by decide +kernel), List.mem_of_getElem? (i := 2884) (by decide +kernel)⟩
theorem lw_p191 : lw_okq (⟨"RobotCellHouseModel", "out", "(II)I"⟩, 119) := ⟨⟨by decide +kernel, by decide +kernel⟩, List.mem_of_getElem? (i := 2001) (by decide +kernel), List.mem_of_getElem? (i := 2887) (by decide +kernel), List.mem_of_getElem? (i := 2888) (by decide +kernel)⟩
def lw_privs_12 : List (MethodName × Nat) := [(⟨"RobotCellHouseModel", "nextOfWay", "(I)V"⟩, 119), (⟨"RobotCellHouseModel", "beginMove", "(I)V"⟩, 119), (⟨"RobotCellHouseModel", "newTask", "(II)I"⟩, 119), (⟨"RobotCellHouseModel", "tick", "()V"⟩, 119), (⟨"RobotCellHouseModel", "lookAtInputs", "()V"⟩, 119), (⟨"RobotCellHouseModel", "firstNotWell", "()I"⟩, 119), (⟨"RobotCellHouseModel", "isWell", "(I)Z"⟩, 119), (⟨"RobotCellHouseModel", "trip", "(II)V"⟩, 119), (⟨"RobotCellHouseModel", "note", "(III)V"⟩, 119), (⟨"RobotCellHouseModel", "breakMove", "(I)V"⟩, 119), (⟨"RobotCellHouseModel", "turnOf", "(I)V"⟩, 119), (⟨"RobotCellHouseModel", "fails", "(I)V"⟩, 119), (⟨"RobotCellHouseModel", "where", "()I"⟩, 119), (⟨"RobotCellHouseModel", "leave", "(III)V"⟩, 119), (⟨"RobotCellHouseModel", "go", "(I)V"⟩, 119), (⟨"RobotCellHouseModel", "out", "(II)I"⟩, 119)]
theorem lw_r12 : ∀ q ∈ lw_privs_12, lw_okq q := List.forall_mem_cons.mpr ⟨lw_p176, List.forall_mem_cons.mpr ⟨lw_p177, List.forall_mem_cons.mpr ⟨lw_p178, List.forall_mem_cons.mpr ⟨lw_p179, List.forall_mem_cons.mpr ⟨lw_p180, List.forall_mem_cons.mpr ⟨lw_p181, List.forall_mem_cons.mpr ⟨lw_p182, List.forall_mem_cons.mpr ⟨lw_p183, List.forall_mem_cons.mpr ⟨lw_p184, List.forall_mem_cons.mpr ⟨lw_p185, List.forall_mem_cons.mpr ⟨lw_p186, List.forall_mem_cons.mpr ⟨lw_p187, List.forall_mem_cons.mpr ⟨lw_p188, List.forall_mem_cons.mpr ⟨lw_p189, List.forall_mem_cons.mpr ⟨lw_p190, List.forall_mem_cons.mpr ⟨lw_p191, fun _ h => absurd h List.not_mem_nil⟩⟩⟩⟩⟩⟩⟩⟩⟩⟩⟩⟩⟩⟩⟩⟩
theorem lw_p192 : lw_okq (⟨"RobotCellHouseModel", "freeAll", "(I)V"⟩, 119) := ⟨⟨by decide +kernel, by decide +kernel⟩, List.mem_of_getElem? (i := 2001) (by decide +kernel), List.mem_of_getElem? (i := 2891) (by decide +kernel), List.mem_of_getElem? (i := 2892) (by decide +kernel)⟩
theorem lw_p193 : lw_okq (⟨"RobotCellHouseModel", "freeLock", "(I)V"⟩, 119) := ⟨⟨by decide +kernel, by decide +kernel⟩, List.mem_of_getElem? (i := 2001) (by decide +kernel), List.mem_of_getElem? (i := 2895) (by decide +kernel), List.mem_of_getElem? (i := 2896) (by decide +kernel)⟩
theorem lw_p194 : lw_okq (⟨"RobotCellHouseModel", "brake", "(I)V"⟩, 119) := ⟨⟨by decide +kernel, by decide +kernel⟩, List.mem_of_getElem? (i := 2001) (by decide +kernel), List.mem_of_getElem? (i := 2899) (by decide +kernel), List.mem_of_getElem? (i := 2900) (by decide +kernel)⟩
theorem lw_p195 : lw_okq (⟨"RobotCellHouseModel", "await", "(II)V"⟩, 119) := ⟨⟨by decide +kernel, by decide +kernel⟩, List.mem_of_getElem? (i := 2001) (by decide +kernel), List.mem_of_getElem? (i := 2903) (by decide +kernel), List.mem_of_getElem? (i := 2904) (by decide +kernel)⟩
theorem lw_p196 : lw_okq (⟨"RobotCellHouseModel", "doAct", "()V"⟩, 119) := ⟨⟨by decide +kernel, by decide +kernel⟩, List.mem_of_getElem? (i := 2001) (by decide +kernel), List.mem_of_getElem? (i := 2907) (by decide +kernel), List.mem_of_getElem? (i := 2908) (by decide +kernel)⟩
theorem lw_p197 : lw_okq (⟨"RobotCellHouseModel", "doBegin", "()V"⟩, 119) := ⟨⟨by decide +kernel, by decide +kernel⟩, List.mem_of_getElem? (i := 2001) (by decide +kernel), List.mem_of_getElem? (i := 2911) (by decide +kernel), List.mem_of_getElem? (i := 2912) (by decide +kernel)⟩
theorem lw_p198 : lw_okq (⟨"RobotCellHouseModel", "enter", "(II)V"⟩, 119) := ⟨⟨by decide +kernel, by decide +kernel⟩, List.mem_of_getElem? (i := 2001) (by decide +kernel), List.mem_of_getElem? (i := 2915) (by decide +kernel), List.mem_of_getElem? (i := 2916) (by decide +kernel)⟩
theorem lw_p199 : lw_okq (⟨"RobotCellHouseModel", "reckon", "(III)V"⟩, 119) := ⟨⟨by decide +kernel, by decide +kernel⟩, List.mem_of_getElem? (i := 2001) (by decide +kernel), List.mem_of_getElem? (i := 2919) (by decide +kernel), List.mem_of_getElem? (i := 2920) (by decide +kernel)⟩
theorem lw_p200 : lw_okq (⟨"RobotCellHouseModel", "push", "(I)V"⟩, 119) := ⟨⟨by decide +kernel, by decide +kernel⟩, List.mem_of_getElem? (i := 2001) (by decide +kernel), List.mem_of_getElem? (i := 2923) (by decide +kernel), List.mem_of_getElem? (i := 2924) (by decide +kernel)⟩
theorem lw_p201 : lw_okq (⟨"RobotCellHouseModel", "pop", "()I"⟩, 119) := ⟨⟨by decide +kernel, by decide +kernel⟩, List.mem_of_getElem? (i := 2001) (by decide +kernel), List.mem_of_getElem? (i := 2927) (by decide +kernel), List.mem_of_getElem? (i := 2928) (by decide +kernel)⟩
theorem lw_p202 : lw_okq (⟨"RobotCellHouseModel", "valueOf", "(I)I"⟩, 119) := ⟨⟨by decide +kernel, by decide +kernel⟩, List.mem_of_getElem? (i := 2001) (by decide +kernel), List.mem_of_getElem? (i := 2931) (by decide +kernel), List.mem_of_getElem? (i := 2932) (by decide +kernel)⟩
theorem lw_p203 : lw_okq (⟨"RobotCellHouseModel", "doStatement", "(III)V"⟩, 119) := ⟨⟨by decide +kernel, by decide +kernel⟩, List.mem_of_getElem? (i := 2001) (by decide +kernel), List.mem_of_getElem? (i := 2938) (by decide +kernel), List.mem_of_getElem? (i := 2939) (by decide +kernel)⟩
theorem lw_p204 : lw_okq (⟨"RobotCellHouseModel", "doMove", "(II)V"⟩, 119) := ⟨⟨by decide +kernel, by decide +kernel⟩, List.mem_of_getElem? (i := 2001) (by decide +kernel), List.mem_of_getElem? (i := 2942) (by decide +kernel), List.mem_of_getElem? (i := 2943) (by decide +kernel)⟩
theorem lw_p205 : lw_okq (⟨"RobotCellHouseModel", "doFinallyOver", "(I)V"⟩, 119) := ⟨⟨by decide +kernel, by decide +kernel⟩, List.mem_of_getElem? (i := 2001) (by decide +kernel), List.mem_of_getElem? (i := 2946) (by decide +kernel), List.mem_of_getElem? (i := 2947) (by decide +kernel)⟩
theorem lw_p206 : lw_okq (⟨"RobotCellHouseModel", "doOther", "(II)I"⟩, 119) := ⟨⟨by decide +kernel, by decide +kernel⟩, List.mem_of_getElem? (i := 2001) (by decide +kernel), List.mem_of_getElem? (i := 2950) (by decide +kernel), List.mem_of_getElem? (i := 2951) (by decide +kernel)⟩
theorem lw_p207 : lw_okq (⟨"RobotCellHouseModel", "setOwn", "(II)V"⟩, 119) := ⟨⟨by decide +kernel, by decide +kernel⟩, List.mem_of_getElem? (i := 2001) (by decide +kernel), List.mem_of_getElem? (i := 2954) (by decide +kernel), List.mem_of_getElem? (i := 2955) (by decide +kernel)⟩
def lw_privs_13 : List (MethodName × Nat) := [(⟨"RobotCellHouseModel", "freeAll", "(I)V"⟩, 119), (⟨"RobotCellHouseModel", "freeLock", "(I)V"⟩, 119), (⟨"RobotCellHouseModel", "brake", "(I)V"⟩, 119), (⟨"RobotCellHouseModel", "await", "(II)V"⟩, 119), (⟨"RobotCellHouseModel", "doAct", "()V"⟩, 119), (⟨"RobotCellHouseModel", "doBegin", "()V"⟩, 119), (⟨"RobotCellHouseModel", "enter", "(II)V"⟩, 119), (⟨"RobotCellHouseModel", "reckon", "(III)V"⟩, 119), (⟨"RobotCellHouseModel", "push", "(I)V"⟩, 119), (⟨"RobotCellHouseModel", "pop", "()I"⟩, 119), (⟨"RobotCellHouseModel", "valueOf", "(I)I"⟩, 119), (⟨"RobotCellHouseModel", "doStatement", "(III)V"⟩, 119), (⟨"RobotCellHouseModel", "doMove", "(II)V"⟩, 119), (⟨"RobotCellHouseModel", "doFinallyOver", "(I)V"⟩, 119), (⟨"RobotCellHouseModel", "doOther", "(II)I"⟩, 119), (⟨"RobotCellHouseModel", "setOwn", "(II)V"⟩, 119)]
theorem lw_r13 : ∀ q ∈ lw_privs_13, lw_okq q := List.forall_mem_cons.mpr ⟨lw_p192, List.forall_mem_cons.mpr ⟨lw_p193, List.forall_mem_cons.mpr ⟨lw_p194, List.forall_mem_cons.mpr ⟨lw_p195, List.forall_mem_cons.mpr ⟨lw_p196, List.forall_mem_cons.mpr ⟨lw_p197, List.forall_mem_cons.mpr ⟨lw_p198, List.forall_mem_cons.mpr ⟨lw_p199, List.forall_mem_cons.mpr ⟨lw_p200, List.forall_mem_cons.mpr ⟨lw_p201, List.forall_mem_cons.mpr ⟨lw_p202, List.forall_mem_cons.mpr ⟨lw_p203, List.forall_mem_cons.mpr ⟨lw_p204, List.forall_mem_cons.mpr ⟨lw_p205, List.forall_mem_cons.mpr ⟨lw_p206, List.forall_mem_cons.mpr ⟨lw_p207, fun _ h => absurd h List.not_mem_nil⟩⟩⟩⟩⟩⟩⟩⟩⟩⟩⟩⟩⟩⟩⟩⟩
theorem lw_p208 : lw_okq (⟨"RobotCellHouseModel", "beforeChange", "()V"⟩, 119) := ⟨⟨by decide +kernel, by decide +kernel⟩, List.mem_of_getElem? (i := 2001) (by decide +kernel), List.mem_of_getElem? (i := 2958) (by decide +kernel), List.mem_of_getElem? (i := 2959) (by decide +kernel)⟩
theorem lw_p209 : lw_okq (⟨"RobotCellHouseModel", "behindChange", "()V"⟩, 119) := ⟨⟨by decide +kernel, by decide +kernel⟩, List.mem_of_getElem? (i := 2001) (by decide +kernel), List.mem_of_getElem? (i := 2962) (by decide +kernel), List.mem_of_getElem? (i := 2963) (by decide +kernel)⟩
theorem lw_p210 : lw_okq (⟨"RobotCellHouseModel", "doTake", "(I)I"⟩, 119) := ⟨⟨by decide +kernel, by decide +kernel⟩, List.mem_of_getElem? (i := 2001) (by decide +kernel), List.mem_of_getElem? (i := 2966) (by decide +kernel), List.mem_of_getElem? (i := 2967) (by decide +kernel)⟩
theorem lw_p211 : lw_okq (⟨"RobotCellHouseModel", "doGrip", "(I)Z"⟩, 119) := ⟨⟨by decide +kernel, by decide +kernel⟩, List.mem_of_getElem? (i := 2001) (by decide +kernel), List.mem_of_getElem? (i := 2970) (by decide +kernel), List.mem_of_getElem? (i := 2971) (by decide +kernel)⟩
theorem lw_p212 : lw_okq (⟨"RobotCellHouseModel", "middle", "(II)I"⟩, 119) := ⟨⟨by decide +kernel, by decide +kernel⟩, List.mem_of_getElem? (i := 2001) (by decide +kernel), List.mem_of_getElem? (i := 2974) (by decide +kernel), List.mem_of_getElem? (i := 2975) (by decide +kernel)⟩
theorem lw_p213 : lw_okq (⟨"RobotCellHouseModel", "stale", "(I)V"⟩, 119) := ⟨⟨by decide +kernel, by decide +kernel⟩, List.mem_of_getElem? (i := 2001) (by decide +kernel), List.mem_of_getElem? (i := 2978) (by decide +kernel), List.mem_of_getElem? (i := 2979) (by decide +kernel)⟩
theorem lw_p214 : lw_okq (⟨"RobotCellHouseModel", "doDrop", "(I)Z"⟩, 119) := ⟨⟨by decide +kernel, by decide +kernel⟩, List.mem_of_getElem? (i := 2001) (by decide +kernel), List.mem_of_getElem? (i := 2982) (by decide +kernel), List.mem_of_getElem? (i := 2983) (by decide +kernel)⟩
theorem lw_p215 : lw_okq (⟨"RobotCellHouseModel", "armsGoOn", "()V"⟩, 119) := ⟨⟨by decide +kernel, by decide +kernel⟩, List.mem_of_getElem? (i := 2001) (by decide +kernel), List.mem_of_getElem? (i := 2986) (by decide +kernel), List.mem_of_getElem? (i := 2987) (by decide +kernel)⟩
theorem lw_p216 : lw_okq (⟨"RobotCellHouseModel", "goOn", "(I)V"⟩, 119) := ⟨⟨by decide +kernel, by decide +kernel⟩, List.mem_of_getElem? (i := 2001) (by decide +kernel), List.mem_of_getElem? (i := 2990) (by decide +kernel), List.mem_of_getElem? (i := 2991) (by decide +kernel)⟩
theorem lw_p217 : lw_okq (⟨"RobotCellHouseModel", "tally", "(IZ)V"⟩, 119) := ⟨⟨by decide +kernel, by decide +kernel⟩, List.mem_of_getElem? (i := 2001) (by decide +kernel), List.mem_of_getElem? (i := 3000) (by decide +kernel), List.mem_of_getElem? (i := 3001) (by decide +kernel)⟩
theorem lw_p218 : lw_okq (⟨"RobotCellHouseModel", "countJoints", "(Z)V"⟩, 119) := ⟨⟨by decide +kernel, by decide +kernel⟩, List.mem_of_getElem? (i := 2001) (by decide +kernel), List.mem_of_getElem? (i := 3004) (by decide +kernel), List.mem_of_getElem? (i := 3005) (by decide +kernel)⟩
theorem lw_p219 : lw_okq (⟨"RobotCellHouseModel", "look", "()V"⟩, 119) := ⟨⟨by decide +kernel, by decide +kernel⟩, List.mem_of_getElem? (i := 2001) (by decide +kernel), List.mem_of_getElem? (i := 3008) (by decide +kernel), List.mem_of_getElem? (i := 3009) (by decide +kernel)⟩
theorem lw_p220 : lw_okq (⟨"RobotCellHouseModel", "firstTouching", "()I"⟩, 119) := ⟨⟨by decide +kernel, by decide +kernel⟩, List.mem_of_getElem? (i := 2001) (by decide +kernel), List.mem_of_getElem? (i := 3012) (by decide +kernel), List.mem_of_getElem? (i := 3013) (by decide +kernel)⟩
theorem lw_p221 : lw_okq (⟨"RobotCellHouseModel", "firstBroken", "()I"⟩, 119) := ⟨⟨by decide +kernel, by decide +kernel⟩, List.mem_of_getElem? (i := 2001) (by decide +kernel), List.mem_of_getElem? (i := 3016) (by decide +kernel), List.mem_of_getElem? (i := 3017) (by decide +kernel)⟩
theorem lw_p222 : lw_okq (⟨"RobotCellHouseModel", "driveBelt", "(I)V"⟩, 119) := ⟨⟨by decide +kernel, by decide +kernel⟩, List.mem_of_getElem? (i := 2001) (by decide +kernel), List.mem_of_getElem? (i := 3020) (by decide +kernel), List.mem_of_getElem? (i := 3021) (by decide +kernel)⟩
theorem lw_p223 : lw_okq (⟨"RobotCellHouseModel", "countParts", "()V"⟩, 119) := ⟨⟨by decide +kernel, by decide +kernel⟩, List.mem_of_getElem? (i := 2001) (by decide +kernel), List.mem_of_getElem? (i := 3024) (by decide +kernel), List.mem_of_getElem? (i := 3025) (by decide +kernel)⟩
def lw_privs_14 : List (MethodName × Nat) := [(⟨"RobotCellHouseModel", "beforeChange", "()V"⟩, 119), (⟨"RobotCellHouseModel", "behindChange", "()V"⟩, 119), (⟨"RobotCellHouseModel", "doTake", "(I)I"⟩, 119), (⟨"RobotCellHouseModel", "doGrip", "(I)Z"⟩, 119), (⟨"RobotCellHouseModel", "middle", "(II)I"⟩, 119), (⟨"RobotCellHouseModel", "stale", "(I)V"⟩, 119), (⟨"RobotCellHouseModel", "doDrop", "(I)Z"⟩, 119), (⟨"RobotCellHouseModel", "armsGoOn", "()V"⟩, 119), (⟨"RobotCellHouseModel", "goOn", "(I)V"⟩, 119), (⟨"RobotCellHouseModel", "tally", "(IZ)V"⟩, 119), (⟨"RobotCellHouseModel", "countJoints", "(Z)V"⟩, 119), (⟨"RobotCellHouseModel", "look", "()V"⟩, 119), (⟨"RobotCellHouseModel", "firstTouching", "()I"⟩, 119), (⟨"RobotCellHouseModel", "firstBroken", "()I"⟩, 119), (⟨"RobotCellHouseModel", "driveBelt", "(I)V"⟩, 119), (⟨"RobotCellHouseModel", "countParts", "()V"⟩, 119)]
theorem lw_r14 : ∀ q ∈ lw_privs_14, lw_okq q := List.forall_mem_cons.mpr ⟨lw_p208, List.forall_mem_cons.mpr ⟨lw_p209, List.forall_mem_cons.mpr ⟨lw_p210, List.forall_mem_cons.mpr ⟨lw_p211, List.forall_mem_cons.mpr ⟨lw_p212, List.forall_mem_cons.mpr ⟨lw_p213, List.forall_mem_cons.mpr ⟨lw_p214, List.forall_mem_cons.mpr ⟨lw_p215, List.forall_mem_cons.mpr ⟨lw_p216, List.forall_mem_cons.mpr ⟨lw_p217, List.forall_mem_cons.mpr ⟨lw_p218, List.forall_mem_cons.mpr ⟨lw_p219, List.forall_mem_cons.mpr ⟨lw_p220, List.forall_mem_cons.mpr ⟨lw_p221, List.forall_mem_cons.mpr ⟨lw_p222, List.forall_mem_cons.mpr ⟨lw_p223, fun _ h => absurd h List.not_mem_nil⟩⟩⟩⟩⟩⟩⟩⟩⟩⟩⟩⟩⟩⟩⟩⟩
theorem lw_p224 : lw_okq (⟨"RobotCellHouseModel", "isPoint", "(I)Z"⟩, 119) := ⟨⟨by decide +kernel, by decide +kernel⟩, List.mem_of_getElem? (i := 2001) (by decide +kernel), List.mem_of_getElem? (i := 3032) (by decide +kernel), List.mem_of_getElem? (i := 3033) (by decide +kernel)⟩
theorem lw_p225 : lw_okq (⟨"RobotCellHouseModel", "done", "(IIII)I"⟩, 119) := ⟨⟨by decide +kernel, by decide +kernel⟩, List.mem_of_getElem? (i := 2001) (by decide +kernel), List.mem_of_getElem? (i := 3069) (by decide +kernel), List.mem_of_getElem? (i := 3070) (by decide +kernel)⟩
def lw_privs_15 : List (MethodName × Nat) := [(⟨"RobotCellHouseModel", "isPoint", "(I)Z"⟩, 119), (⟨"RobotCellHouseModel", "done", "(IIII)I"⟩, 119)]
theorem lw_r15 : ∀ q ∈ lw_privs_15, lw_okq q := List.forall_mem_cons.mpr ⟨lw_p224, List.forall_mem_cons.mpr ⟨lw_p225, fun _ h => absurd h List.not_mem_nil⟩⟩
def lw_privs : List (MethodName × Nat) := lw_privs_1 ++ (lw_privs_2 ++ (lw_privs_3 ++ (lw_privs_4 ++ (lw_privs_5 ++ (lw_privs_6 ++ (lw_privs_7 ++ (lw_privs_8 ++ (lw_privs_9 ++ (lw_privs_10 ++ (lw_privs_11 ++ (lw_privs_12 ++ (lw_privs_13 ++ (lw_privs_14 ++ (lw_privs_15))))))))))))))
def lw_tbl : List Cond := k2_sels lw_privs ++ tables_1
theorem lw_privs_ok : ∀ q ∈ lw_privs, lw_okq q := by
  show ∀ q ∈ lw_privs_1 ++ (lw_privs_2 ++ (lw_privs_3 ++ (lw_privs_4 ++ (lw_privs_5 ++ (lw_privs_6 ++ (lw_privs_7 ++ (lw_privs_8 ++ (lw_privs_9 ++ (lw_privs_10 ++ (lw_privs_11 ++ (lw_privs_12 ++ (lw_privs_13 ++ (lw_privs_14 ++ (lw_privs_15)))))))))))))), lw_okq q
  exact List.forall_mem_append.mpr ⟨lw_r1, List.forall_mem_append.mpr ⟨lw_r2, List.forall_mem_append.mpr ⟨lw_r3, List.forall_mem_append.mpr ⟨lw_r4, List.forall_mem_append.mpr ⟨lw_r5, List.forall_mem_append.mpr ⟨lw_r6, List.forall_mem_append.mpr ⟨lw_r7, List.forall_mem_append.mpr ⟨lw_r8, List.forall_mem_append.mpr ⟨lw_r9, List.forall_mem_append.mpr ⟨lw_r10, List.forall_mem_append.mpr ⟨lw_r11, List.forall_mem_append.mpr ⟨lw_r12, List.forall_mem_append.mpr ⟨lw_r13, List.forall_mem_append.mpr ⟨lw_r14, lw_r15⟩⟩⟩⟩⟩⟩⟩⟩⟩⟩⟩⟩⟩⟩
end
section
noncomputable section
/-! An interpreter over pictures of the machine: values by bounds, cells by their contents; and why it may be trusted. -/
/-- the tables' words that stay good over a call -/
def x_tbl : List Cond := lw_tbl.filter goodWord
theorem good_w : x_tbl.all goodWord = true := List.all_eq_true.mpr (fun w h => (List.mem_filter.mp h).2)
theorem x_tb {w : Cond} (h : w ∈ lw_tbl) (hg : goodWord w = true) : w ∈ x_tbl := List.mem_filter.mpr ⟨h, hg⟩
/-- words that a call must be given anew: which arrays' classes there are, which nest mates' methods are linked -/
def va_AOA (ty : FieldType) (U : State) : Prop := (Cond.arrayOver (.array ty)).before #[] U = true
theorem va_AOA.of {ty : FieldType} {A : Array Value} {U : State} (h : (Cond.arrayOver (.array ty)).before A U = true) : va_AOA ty U := h
theorem va_AOA.use {ty : FieldType} {A : Array Value} {U : State} (h : va_AOA ty U) : (Cond.arrayOver (.array ty)).before A U = true := h
theorem x_AO_spec {u : State} {ty : FieldType} (h : va_AOA ty u) : ∃ (comp c : Nat) (k : Class), u.vm.findClass (FieldType.array ty).toString = some comp ∧ (u.vm.classes.findIdx? fun (x : Class) => match x.kind with | .array component _ => component == comp | _ => false) = some c ∧ u.vm.classes[c]? = some k ∧ k.kind = .array comp (.array ty) ∧ u.vm.findClass ("[" ++ (FieldType.array ty).toString) = some c := by
  unfold va_AOA at h
  simp only [Cond.before, Cond.holds, Cond.value, beq_iff_eq] at h
  cases hc : u.vm.findClass (FieldType.array ty).toString with
  | none => simp [hc] at h
  | some comp =>
    simp only [hc, Option.bind_some, Option.bind_eq_some_iff, Option.map_eq_some_iff] at h
    obtain ⟨c, hi, k, hk, hb⟩ := h
    obtain ⟨hlt, hp, -⟩ := Array.findIdx?_eq_some_iff_getElem.mp hi
    have hkk : u.vm.classes[c] = k := (Array.getElem?_eq_some_iff.mp hk).2
    rw [hkk] at hp
    cases hkind : k.kind with
    | array component ty' =>
      rw [hkind] at hb hp
      simp at hb hp
      exact ⟨comp, c, k, rfl, hi, hk, by rw [hkind, hp, hb.1], hb.2⟩
    | _ => rw [hkind] at hb; simp at hb
theorem va_AOA.moved {ty : FieldType} {u U : State} (hvm : u.vm.Alike U.vm) (h : va_AOA ty u) : va_AOA ty U := by
  obtain ⟨comp, c, k, h1, h2, h3, h4, h5⟩ := x_AO_spec h
  obtain ⟨k', hk', he⟩ := hvm.2.2 _ _ h3
  have hi : (U.vm.classes.findIdx? fun (x : Class) => match x.kind with | .array component _ => component == comp | _ => false) = some c := by
    have e1 := va_idx_bare U.vm comp
    have e2 := (va_idx_bare u.vm comp).trans h2
    first | rw [hvm.bare_eq] at e2 | rw [← hvm.bare_eq] at e2
    exact e1.symm.trans e2
  have hkind : k'.kind = .array comp (.array ty) := by rw [he]; exact h4
  have f1 : U.vm.findClass (FieldType.array ty).toString = some comp := by rw [hvm.findClass]; exact h1
  have f2 : U.vm.findClass ("[" ++ (FieldType.array ty).toString) = some c := by rw [hvm.findClass]; exact h5
  unfold va_AOA Cond.before Cond.holds
  simp only [Cond.value]
  rw [f1, Option.bind_some]
  refine (congrArg (fun o : Option Nat => (o.bind (fun c => (U.vm.classes[c]?).map fun (k : Class) => match k.kind with | .array _ ty' => decide (ty' = FieldType.array ty) && decide (U.vm.findClass ("[" ++ (FieldType.array ty).toString) = some c) | _ => false) == some true)) hi).trans ?_
  simp [hk', hkind, f2]
def x_nest : List (String × Nat × MethodName × String) := [("RobotCellHouse", 9, ⟨"RobotCellHouse$Reader", "<init>", "()V"⟩, "RobotCellHouse"), ("RobotCellHouse$Reader", 20, ⟨"RobotCellHouse$Code", "<init>", "()V"⟩, "RobotCellHouse"), ("RobotCellHouse$Doer", 19, ⟨"RobotCellHouse$Points", "<init>", "()V"⟩, "RobotCellHouse"), ("RobotCellHouse$Doer", 26, ⟨"RobotCellHouse$Floor", "<init>", "()V"⟩, "RobotCellHouse"), ("RobotCellHouse$Doer", 33, ⟨"RobotCellHouse$Core", "<init>", "()V"⟩, "RobotCellHouse"), ("RobotCellHouse$Arm", 38, ⟨"RobotCellHouse$Code", "<init>", "()V"⟩, "RobotCellHouse"), ("RobotCellHouse$Arm", 43, ⟨"RobotCellHouse$Joint", "<init>", "()V"⟩, "RobotCellHouse"), ("RobotCellHouse", 45, ⟨"RobotCellHouse$Shapes", "<init>", "()V"⟩, "RobotCellHouse"), ("RobotCellHouse", 52, ⟨"RobotCellHouse$Planner", "<init>", "()V"⟩, "RobotCellHouse"), ("RobotCellHouse$Arm", 117, ⟨"RobotCellHouse", "cosine", "(I)I"⟩, "RobotCellHouse"), ("RobotCellHouse$Arm", 121, ⟨"RobotCellHouse", "sine", "(I)I"⟩, "RobotCellHouse"), ("RobotCellHouse$Reader", 201, ⟨"RobotCellHouse", "within", "(III)Z"⟩, "RobotCellHouse"), ("RobotCellHouse$Planner", 41, ⟨"RobotCellHouse", "within", "(III)Z"⟩, "RobotCellHouse"), ("RobotCellHouse$Doer", 120, ⟨"RobotCellHouse", "within", "(III)Z"⟩, "RobotCellHouse"), ("RobotCellHouse$Doer", 261, ⟨"RobotCellHouse", "isPoint", "(I)Z"⟩, "RobotCellHouse"), ("RobotCellHouse$Joint", 18, ⟨"RobotCellHouse", "within", "(III)Z"⟩, "RobotCellHouse"), ("RobotCellHouse$Floor", 110, ⟨"RobotCellHouse", "within", "(III)Z"⟩, "RobotCellHouse"), ("RobotCellHouse$Shapes", 62, ⟨"RobotCellHouse", "within", "(III)Z"⟩, "RobotCellHouse")]
def x_Ex (U : State) : Prop := (va_AO "RobotCellHouse$Joint" U ∧ va_AO "RobotCellHouse$Arm" U ∧ va_AO "RobotCellHouse$Task" U) ∧ va_AOA .int U ∧ ∀ q ∈ x_nest, va_Nw (.methodLinkNest q.1 q.2.1 q.2.2.1 q.2.2.2) U
theorem x_Ex.warm {s U : State} (hW : s.WarmedH U.vm) (h : x_Ex s) : x_Ex U := ⟨⟨h.1.1.moved hW.alike, h.1.2.1.moved hW.alike, h.1.2.2.moved hW.alike⟩, h.2.1.moved hW.alike, fun q hq => (h.2.2 q hq).warmM hW⟩
theorem x_Ex.same {u U : State} (e : u.vm = U.vm) (h : x_Ex u) : x_Ex U :=
  have ha : u.vm.Alike U.vm := by rw [e]; exact Vm.Alike.refl _
  ⟨⟨h.1.1.moved ha, h.1.2.1.moved ha, h.1.2.2.moved ha⟩, h.2.1.moved ha, fun q hq => (h.2.2 q hq).same rfl e⟩
abbrev xV : Type := Nat × Int × Int
abbrev xA : Type := List (Nat × xV)
abbrev xC : Type := Nat × Nat × Nat × xV × xA
abbrev xT : Type := List (Int × Int)
abbrev xL : Type := List (Nat × xV)
/-- pc, locals, stack, cells, bounds of the tokens, cells made, slots made -/
abbrev xS : Type := Nat × xL × List xV × List xC × xT × Nat × Nat
abbrev xK : Type := List xV × List xC × xT
abbrev xE : Type := Nat × (xS → Option (List xS)) × Nat × Nat
/-- lists walked by their own recursor: the kernel takes fewer steps so -/
def x_at {α : Type} (w : List α) : Nat → Option α := List.rec (motive := fun _ => Nat → Option α) (fun _ => none) (fun x _ ih j => Nat.rec (motive := fun _ => Option α) (some x) (fun j' _ => ih j') j) w
theorem x_at_eq {α : Type} : ∀ (w : List α) (j : Nat), x_at w j = w[j]?
  | [], j => by simp; rfl
  | _ :: _, 0 => rfl
  | x :: r, j + 1 => by rw [List.getElem?_cons_succ, ← x_at_eq r j]; rfl
def x_up {α : Type} (w : List α) : Nat → α → List α := List.rec (motive := fun _ => Nat → α → List α) (fun _ _ => []) (fun x r ih j c => Nat.rec (motive := fun _ => List α) (c :: r) (fun j' _ => x :: ih j' c) j) w
theorem x_up_eq {α : Type} : ∀ (w : List α) (j : Nat) (c : α), x_up w j c = w.set j c
  | [], j, c => by simp; rfl
  | _ :: _, 0, c => rfl
  | x :: r, j + 1, c => by rw [List.set_cons_succ, ← x_up_eq r j c]; rfl
def x_get (d : xV) (l : xA) (k : Nat) : xV := List.rec (motive := fun _ => xV) d (fun q _ ih => Bool.rec (motive := fun _ => xV) ih q.2 (Nat.beq q.1 k)) l
theorem x_get_nil (d : xV) (k : Nat) : x_get d [] k = d := rfl
theorem x_get_cons (d : xV) (q : Nat × xV) (r : xA) (k : Nat) : x_get d (q :: r) k = bif Nat.beq q.1 k then q.2 else x_get d r k := by
  unfold x_get
  cases h : Nat.beq q.1 k with
  | true => simp [h]
  | false => simp [h]
def x_eqv (x y : xV) : Bool := Nat.beq x.1 y.1 && (decide (x.2.1 = y.2.1) && decide (x.2.2 = y.2.2))
theorem x_eqv_ok {x y : xV} (h : x_eqv x y = true) : x = y := by
  obtain ⟨a, b, c⟩ := x
  obtain ⟨a', b', c'⟩ := y
  unfold x_eqv at h
  simp only [Bool.and_eq_true, decide_eq_true_eq] at h
  obtain ⟨h1, h2, h3⟩ := h
  rw [Nat.eq_of_beq_eq_true h1, h2, h3]
/-- the value v at the place k, over the default d -/
def x_put (d : xV) (l : xA) (k : Nat) (v : xV) : xA := List.rec (motive := fun _ => xA) (bif x_eqv v d then [] else [(k, v)]) (fun q r ih => Bool.rec (motive := fun _ => xA) (q :: ih) ((k, v) :: r) (Nat.beq q.1 k)) l
theorem x_put_nil (d : xV) (k : Nat) (v : xV) : x_put d [] k v = bif x_eqv v d then [] else [(k, v)] := rfl
theorem x_put_cons (d : xV) (q : Nat × xV) (r : xA) (k : Nat) (v : xV) : x_put d (q :: r) k v = bif Nat.beq q.1 k then (k, v) :: r else q :: x_put d r k v := by
  unfold x_put
  cases h : Nat.beq q.1 k with
  | true => simp [h]
  | false => simp [h]
theorem x_nb {a b : Nat} (h : a ≠ b) : Nat.beq a b = false := by
  cases e : Nat.beq a b with
  | false => rfl
  | true => exact absurd (Nat.eq_of_beq_eq_true e) h
theorem x_get_put (d : xV) (l : xA) (k : Nat) (v : xV) (j : Nat) : x_get d (x_put d l k v) j = if j = k then v else x_get d l j := by
  induction l with
  | nil =>
    simp only [x_put_nil]
    cases hb : x_eqv v d with
    | true =>
      have e := x_eqv_ok hb
      subst e
      simp [x_get_nil]
    | false =>
      simp only [cond_false, x_get_nil, x_get_cons]
      by_cases h : j = k
      · subst h; simp
      · rw [if_neg h, x_nb (Ne.symm h)]; rfl
  | cons q r ih =>
    by_cases h : q.1 = k
    · have hb : Nat.beq q.1 k = true := Nat.beq_eq.mpr h
      simp only [x_put_cons, hb, cond_true, x_get_cons]
      by_cases hj : j = k
      · subst hj; simp
      · rw [if_neg hj, x_nb (Ne.symm hj), h, x_nb (Ne.symm hj)]; rfl
    · have hb : Nat.beq q.1 k = false := x_nb h
      simp only [x_put_cons, hb, cond_false, x_get_cons, ih]
      by_cases hq : q.1 = j
      · have h9 : Nat.beq q.1 j = true := Nat.beq_eq.mpr hq
        have h8 : ¬ j = k := fun e => h (hq.trans e)
        simp [h9, h8]
      · rw [x_nb hq]; rfl
/-- what a value of the picture says of a value of the machine -/
def x_rel (ad : List Nat) (V : List Int) (sc : Nat × Nat × List Nat) (x : xV) (v : Value) : Prop := match x.1 with
  | 0 => ∃ n : Int32, v = .int n ∧ x.2.1 ≤ n.toInt ∧ n.toInt ≤ x.2.2
  | 1 => ∃ a, ad[x.2.1.toNat]? = some a ∧ v = .ref a
  | 2 => v = .null
  | 3 => ∃ n : Int32, v = .int n ∧ V[x.2.1.toNat]? = some n.toInt
  | 4 => ∃ n : Int64, v = .long n ∧ x.2.1 ≤ n.toInt ∧ n.toInt ≤ x.2.2
  | 6 => ∃ n : Int64, v = .long n ∧ V[x.2.1.toNat]? = some n.toInt
  | 10 => v = .ref sc.1 ∧ x.2.1 = (sc.2.1 : Int)
  | _ => False
def x_all2 {α β : Type} (R : α → β → Prop) : List α → List β → Prop
  | [], [] => True
  | a :: as, b :: bs => R a b ∧ x_all2 R as bs
  | _, _ => False
def x_bi (tk : xT) (x : xV) : Option (Int × Int) := match x.1 with
  | 0 => some x.2
  | 3 => x_at tk x.2.1.toNat
  | _ => none
def x_bl (tk : xT) (x : xV) : Option (Int × Int) := match x.1 with
  | 4 => some x.2
  | 6 => x_at tk x.2.1.toNat
  | _ => none
def x_tk (tk : xT) (V : List Int) : Prop := ∀ (j : Nat) (q : Int × Int), tk[j]? = some q → ∃ n, V[j]? = some n ∧ q.1 ≤ n ∧ n ≤ q.2
theorem x_bi_ok {ad : List Nat} {V : List Int} {sc : Nat × Nat × List Nat} {tk : xT} {x : xV} {q : Int × Int} {v : Value} (h : x_tk tk V) (hb : x_bi tk x = some q) (hr : x_rel ad V sc x v) : ∃ n : Int32, v = .int n ∧ q.1 ≤ n.toInt ∧ n.toInt ≤ q.2 := by
  obtain ⟨t, a, b⟩ := x
  unfold x_bi at hb
  unfold x_rel at hr
  split at hb
  · rename_i h0
    simp only at h0
    subst h0
    cases hb
    exact hr
  · rename_i h0
    simp only at h0
    subst h0
    obtain ⟨n, hv, hn⟩ := hr
    obtain ⟨n', h1, h2, h3⟩ := h _ _ ((x_at_eq _ _).symm.trans hb)
    simp only at hn h1
    rw [hn] at h1
    cases h1
    exact ⟨n, hv, h2, h3⟩
  · cases hb
theorem x_bl_ok {ad : List Nat} {V : List Int} {sc : Nat × Nat × List Nat} {tk : xT} {x : xV} {q : Int × Int} {v : Value} (h : x_tk tk V) (hb : x_bl tk x = some q) (hr : x_rel ad V sc x v) : ∃ n : Int64, v = .long n ∧ q.1 ≤ n.toInt ∧ n.toInt ≤ q.2 := by
  obtain ⟨t, a, b⟩ := x
  unfold x_bl at hb
  unfold x_rel at hr
  split at hb
  · rename_i h0
    simp only at h0
    subst h0
    cases hb
    exact hr
  · rename_i h0
    simp only at h0
    subst h0
    obtain ⟨n, hv, hn⟩ := hr
    obtain ⟨n', h1, h2, h3⟩ := h _ _ ((x_at_eq _ _).symm.trans hb)
    simp only at hn h1
    rw [hn] at h1
    cases h1
    exact ⟨n, hv, h2, h3⟩
  · cases hb
/-- a cell of the picture and a cell of the world -/
def x_cell (cl : List vw_C) (ad : List Nat) (V : List Int) (sc : Nat × Nat × List Nat) (tys : List (ClassId × FieldType)) (x : xC) (e : va_E) : Prop := match x.1 with
  | 0 => ∃ fs : List Value, e = .inr (x.2.1, fs) ∧ fs.length = x.2.2.1 ∧ ∀ k, k < x.2.2.1 → ∃ v, fs[k]? = some v ∧ x_rel ad V sc (x_get x.2.2.2.1 x.2.2.2.2 k) v
  | 1 => ∃ (t0 : Nat) (cA : ClassId) (f : Nat → Int32), tys[t0]? = some (cA, .int) ∧ e = .inl (cA, x.2.2.1, .inl f) ∧ x.2.2.1 < 2147483648 ∧ ∀ k, k < x.2.2.1 → x_rel ad V sc (x_get x.2.2.2.1 x.2.2.2.2 k) (.int (f k))
  | 2 => ∃ (t0 : Nat) (cA : ClassId) (f : Nat → Int32), tys[t0]? = some (cA, .byte) ∧ e = .inl (cA, x.2.2.1, .inl f) ∧ x.2.2.1 < 2147483648 ∧ ∀ k, k < x.2.2.1 → x_rel ad V sc (x_get x.2.2.2.1 x.2.2.2.2 k) (.int (f k))
  | 3 => ∃ (t0 : Nat) (cA : ClassId) (f : Nat → Int32), tys[t0]? = some (cA, .boolean) ∧ e = .inl (cA, x.2.2.1, .inl f) ∧ x.2.2.1 < 2147483648 ∧ ∀ k, k < x.2.2.1 → x_rel ad V sc (x_get x.2.2.2.1 x.2.2.2.2 k) (.int (f k))
  | 5 => ∃ (t0 : Nat) (cA : ClassId) (r : vw_C) (f : Nat → Option Nat), cl[x.2.1]? = some r ∧ tys[t0]? = some (cA, .object r.1) ∧ e = .inl (cA, x.2.2.1, .inr (.inr (.inr (.inr f)))) ∧ x.2.2.1 < 2147483648 ∧ ∀ k, k < x.2.2.1 → x_rel ad V sc (x_get x.2.2.2.1 x.2.2.2.2 k) (va_rf (f k))
  | 6 => ∃ (t0 : Nat) (cA : ClassId) (f : Nat → Option Nat), tys[t0]? = some (cA, .array .int) ∧ e = .inl (cA, x.2.2.1, .inr (.inr (.inr (.inr f)))) ∧ x.2.2.1 < 2147483648 ∧ ∀ k, k < x.2.2.1 → x_rel ad V sc (x_get x.2.2.2.1 x.2.2.2.2 k) (va_rf (f k))
  | _ => False
def x_world (cl : List vw_C) (V : List Int) (sc : Nat × Nat × List Nat) (tys : List (ClassId × FieldType)) (w : List xC) (ws : va_W) : Prop := w.length = ws.length ∧ (∃ l, ws.map Prod.fst = sc.2.2 ++ l) ∧ ∀ (k : Nat) (x : xC) (q : Nat × va_E), w[k]? = some x → ws[k]? = some q → x_cell cl (ws.map Prod.fst) V sc tys x q.2
/-- the picture holds of the machine -/
def x_In (cl : List vw_C) (V : List Int) (sc : Nat × Nat × List Nat) (nL : Nat) (s : State) (D : va_G) (A : Nat → Prop) (H0 : Heap) (t : xS) (ls : Array Slot) (stk : List Value) (H : Heap) (locs : List Loc) : Prop :=
  ∃ (lv : List (Nat × Value)) (ws : va_W) (tys : List (ClassId × FieldType)), lv_has ls nL lv ∧ x_all2 (fun a q => a.1 = q.1 ∧ x_rel (ws.map Prod.fst) V sc a.2 q.2) t.2.1 lv ∧ x_all2 (x_rel (ws.map Prod.fst) V sc) t.2.2.1 stk ∧
    x_world cl V sc tys t.2.2.2.1 ws ∧ va_K D cl tys s ∧ va_P D cl ws H ∧ va_D A ws ∧ va_S A H0 H locs ∧ x_tk t.2.2.2.2.1 V
def x_Good (cl : List vw_C) (V : List Int) (sc : Nat × Nat × List Nat) (nL : Nat) (p : Program) (l : Launch) (e : Env) (R : Room) (s : State) (m : MethodId) (args : Array Value) (below : List Frame) (meth : Method) (c : Code) (D : va_G) (A : Nat → Prop) (H0 : Heap) (Q : State → Prop) (t : xS) : Prop :=
  ∀ (ls : Array Slot) (stk : List Value) (H : Heap) (locs : List Loc), x_In cl V sc nL s D A H0 t ls stk H locs → W p l e R s m args below meth c H locs t.2.2.2.2.2.1 t.2.2.2.2.2.2 Q (F0 m t.1 ls stk)
end
end
section
noncomputable section
/-! plain instructions: what the interpreter does, and that the machine does so -/
theorem x_all2_filter {α β : Type} {R : α → β → Prop} {f : α → Bool} {g : β → Bool} : ∀ {as : List α} {bs : List β}, x_all2 R as bs → (∀ a b, R a b → f a = g b) → x_all2 R (as.filter f) (bs.filter g)
  | [], [], _, _ => trivial
  | a :: as, b :: bs, h, hf => by
    have e := hf a b h.1
    have ih := x_all2_filter h.2 hf
    simp only [List.filter_cons, e]
    split
    · exact ⟨h.1, ih⟩
    · exact ih
  | [], _ :: _, h, _ => h.elim
  | _ :: _, [], h, _ => h.elim
theorem x_all2_imp {α β : Type} {R R' : α → β → Prop} (hi : ∀ a b, R a b → R' a b) : ∀ {as : List α} {bs : List β}, x_all2 R as bs → x_all2 R' as bs
  | [], [], _ => trivial
  | _ :: _, _ :: _, h => ⟨hi _ _ h.1, x_all2_imp hi h.2⟩
  | [], _ :: _, h => h.elim
  | _ :: _, [], h => h.elim
theorem x_all2_app {α β : Type} {R : α → β → Prop} : ∀ {as as' : List α} {bs bs' : List β}, x_all2 R as bs → x_all2 R as' bs' → x_all2 R (as ++ as') (bs ++ bs')
  | [], _, [], _, _, h => h
  | _ :: _, _, _ :: _, _, h, h' => ⟨h.1, x_all2_app h.2 h'⟩
  | [], _, _ :: _, _, h, _ => h.elim
  | _ :: _, _, [], _, h, _ => h.elim
theorem x_all2_len {α β : Type} {R : α → β → Prop} : ∀ {as : List α} {bs : List β}, x_all2 R as bs → as.length = bs.length
  | [], [], _ => rfl
  | _ :: _, _ :: _, h => congrArg (· + 1) (x_all2_len h.2)
  | [], _ :: _, h => h.elim
  | _ :: _, [], h => h.elim
theorem x_all2_rev {α β : Type} {R : α → β → Prop} : ∀ {as : List α} {bs : List β}, x_all2 R as bs → x_all2 R as.reverse bs.reverse
  | [], [], _ => trivial
  | _ :: _, _ :: _, h => by
    rw [List.reverse_cons, List.reverse_cons]
    exact x_all2_app (x_all2_rev h.2) ⟨h.1, trivial⟩
  | [], _ :: _, h => h.elim
  | _ :: _, [], h => h.elim
def x_Cx (cc : ByteArray) (own : String) (nL : Nat) (nm : String) (MC MS : Nat) (p : Program) (R : Room) (s : State) (m : MethodId) (args : Array Value) (meth : Method) (c : Code) : Prop :=
  CallFix p m c cc nL s args x_tbl own ∧ meth.name = nm ∧ R.cells = MC ∧ R.slots = MS ∧ 1 ≤ R.frames ∧ 32 ≤ R.locals ∧ x_Ex s
abbrev xKx : Type := Room → State → (Nat → Prop) → Heap → List Int → Nat × Nat × List Nat → Prop
/-- one instruction, as the interpreter does it, may be trusted -/
def x_Snd (cl : List vw_C) (K : xKx) (cc : ByteArray) (own : String) (nL : Nat) (nm : String) (MC MS : Nat) (pc : Nat) (f : xS → Option (List xS)) : Prop :=
  ∀ {V : List Int} {sc : Nat × Nat × List Nat} {p : Program} {l : Launch} {e : Env} {R : Room} {s : State} {m : MethodId} {args : Array Value} {below : List Frame} {meth : Method} {c : Code} {D : va_G} {A : Nat → Prop} {H0 : Heap} {Q : State → Prop},
    x_Cx cc own nL nm MC MS p R s m args meth c → (∀ q : Nat, H0.size ≤ q → A q) → K R s A H0 V sc → ∀ (t : xS) (ts : List xS), t.1 = pc → f t = some ts →
    (∀ t' ∈ ts, x_Good cl V sc nL p l e R s m args below meth c D A H0 Q t') → x_Good cl V sc nL p l e R s m args below meth c D A H0 Q t
/-- the kinds of values: 0 an int, 1 a long, 2 a reference or null -/
def x_kd (ty : Nat) (v : Value) : Prop := match ty with
  | 0 => ∃ n, v = .int n
  | 1 => ∃ n, v = .long n
  | _ => v = .null ∨ ∃ a, v = .ref a
def x_ty (x : xV) : Nat := match x.1 with
  | 0 => 0
  | 3 => 0
  | 4 => 1
  | 6 => 1
  | _ => 2
theorem x_ty_ok {ad : List Nat} {V : List Int} {sc : Nat × Nat × List Nat} {x : xV} {v : Value} (h : x_rel ad V sc x v) : x_kd (x_ty x) v := by
  obtain ⟨t, a, b⟩ := x
  unfold x_rel at h
  unfold x_ty
  split at h
  · rename_i h0; simp only at h0; subst h0; exact ⟨_, h.choose_spec.1⟩
  · rename_i h0; simp only at h0; subst h0; exact Or.inr ⟨_, h.choose_spec.2⟩
  · rename_i h0; simp only at h0; subst h0; exact Or.inl h
  · rename_i h0; simp only at h0; subst h0; exact ⟨_, h.choose_spec.1⟩
  · rename_i h0; simp only at h0; subst h0; exact ⟨_, h.choose_spec.1⟩
  · rename_i h0; simp only at h0; subst h0; exact ⟨_, h.choose_spec.1⟩
  · rename_i h0; simp only at h0; subst h0; exact Or.inr ⟨_, h.1⟩
  · exact h.elim
theorem x_kd_cat {ty : Nat} {v : Value} (h : x_kd ty v) : v.category = if ty = 1 then 2 else 1 := by
  unfold x_kd at h
  split at h
  · obtain ⟨n, rfl⟩ := h; rfl
  · obtain ⟨n, rfl⟩ := h; rfl
  · rename_i h0 h1
    rw [if_neg h1]
    rcases h with rfl | ⟨a, rfl⟩ <;> rfl
def x_find (l : xL) (i : Nat) : Option xV := List.rec (motive := fun _ => Option xV) none (fun q _ ih => Bool.rec (motive := fun _ => Option xV) ih (some q.2) (Nat.beq q.1 i)) l
theorem x_find_cons (q : Nat × xV) (r : xL) (i : Nat) : x_find (q :: r) i = bif Nat.beq q.1 i then some q.2 else x_find r i := by
  unfold x_find
  cases h : Nat.beq q.1 i with
  | true => simp [h]
  | false => simp [h]
theorem x_find_ok {ad : List Nat} {V : List Int} {sc : Nat × Nat × List Nat} {i : Nat} {x : xV} : ∀ {al : xL} {lv : List (Nat × Value)}, x_all2 (fun a q => a.1 = q.1 ∧ x_rel ad V sc a.2 q.2) al lv → x_find al i = some x → ∃ (k : Nat) (v : Value), lv[k]? = some (i, v) ∧ x_rel ad V sc x v
  | [], [], _, h => by cases h
  | a :: al, q :: lv, h, hf => by
    rw [x_find_cons] at hf
    cases hb : Nat.beq a.1 i with
    | true =>
      rw [hb] at hf
      have e : a.1 = i := Nat.eq_of_beq_eq_true hb
      cases hf
      exact ⟨0, q.2, by simp [← e, h.1.1], h.1.2⟩
    | false =>
      rw [hb] at hf
      obtain ⟨k, v, h1, h2⟩ := x_find_ok h.2 hf
      exact ⟨k + 1, v, by simpa using h1, h2⟩
  | [], _ :: _, h, _ => h.elim
  | _ :: _, [], h, _ => h.elim
def x_flt (ty i : Nat) (q : Nat × xV) : Bool := bif Nat.beq ty 1 then !(Nat.beq q.1 i) && (!(Nat.beq q.1 (i + 1)) && !(Nat.beq (q.1 + 1) i && Nat.beq (x_ty q.2) 1)) else !(Nat.beq q.1 i) && !(Nat.beq (q.1 + 1) i && Nat.beq (x_ty q.2) 1)
def x_fltV (ty i : Nat) (q : Nat × Value) : Bool := bif Nat.beq ty 1 then !(q.1 == i) && (!(q.1 == i + 1) && !(q.1 + 1 == i && q.2.category == 2)) else !(q.1 == i) && !(q.1 + 1 == i && q.2.category == 2)
theorem x_bb (a b : Nat) : (a == b) = Nat.beq a b := by
  by_cases h : a = b
  · subst h; rw [Nat.beq_refl]; simp
  · rw [x_nb h]; simpa using h
theorem x_flt_eq {ad : List Nat} {V : List Int} {sc : Nat × Nat × List Nat} {ty i : Nat} (a : Nat × xV) (q : Nat × Value) (h : a.1 = q.1 ∧ x_rel ad V sc a.2 q.2) : x_flt ty i a = x_fltV ty i q := by
  have e : Nat.beq (x_ty a.2) 1 = (q.2.category == 2) := by
    rw [x_kd_cat (x_ty_ok h.2)]
    by_cases h1 : x_ty a.2 = 1
    · rw [h1]; rfl
    · rw [if_neg h1, x_nb h1]; rfl
  unfold x_flt x_fltV
  rw [h.1, e]
  simp only [x_bb]
-- what a row of the kit gives for one instruction
section XW
variable (cc : ByteArray) (own : String) (nL pc nx : Nat)
def x_Psh (v : Value) : Prop := ∀ {p : Program} {l : Launch} {e : Env} {R : Room} {s : State} {m : MethodId} {args : Array Value} {below : List Frame} {meth : Method} {c : Code}, CallFix p m c cc nL s args x_tbl own → ∀ {H : Heap} {locs : List Loc} {cells slots : Nat} {Q : State → Prop} {ls : Array Slot} {rest : List Value},
  W p l e R s m args below meth c H locs cells slots Q (F0 m nx ls (v :: rest)) → W p l e R s m args below meth c H locs cells slots Q (F0 m pc ls rest)
/-- the top of the stack changes from i to o -/
def x_Stk (i o : List Value) : Prop := ∀ {p : Program} {l : Launch} {e : Env} {R : Room} {s : State} {m : MethodId} {args : Array Value} {below : List Frame} {meth : Method} {c : Code}, CallFix p m c cc nL s args x_tbl own → ∀ {H : Heap} {locs : List Loc} {cells slots : Nat} {Q : State → Prop} {ls : Array Slot} {rest : List Value},
  W p l e R s m args below meth c H locs cells slots Q (F0 m nx ls (o ++ rest)) → W p l e R s m args below meth c H locs cells slots Q (F0 m pc ls (i ++ rest))
def x_Ld (i ty : Nat) : Prop := ∀ {p : Program} {l : Launch} {e : Env} {R : Room} {s : State} {m : MethodId} {args : Array Value} {below : List Frame} {meth : Method} {c : Code}, CallFix p m c cc nL s args x_tbl own → ∀ {H : Heap} {locs : List Loc} {cells slots : Nat} {Q : State → Prop} {ls : Array Slot} {rest : List Value} {v : Value}, ls[i]? = some (.val v) → x_kd ty v →
  W p l e R s m args below meth c H locs cells slots Q (F0 m nx ls (v :: rest)) → W p l e R s m args below meth c H locs cells slots Q (F0 m pc ls rest)
def x_Sto (i ty : Nat) : Prop := ∀ {p : Program} {l : Launch} {e : Env} {R : Room} {s : State} {m : MethodId} {args : Array Value} {below : List Frame} {meth : Method} {c : Code}, CallFix p m c cc nL s args x_tbl own → ∀ {H : Heap} {locs : List Loc} {cells slots : Nat} {Q : State → Prop} {ls : Array Slot} {rest : List Value} {v : Value} {lv : List (Nat × Value)}, lv_has ls nL lv → x_kd ty v →
  (∀ ls' : Array Slot, lv_has ls' nL ((i, v) :: lv.filter (x_fltV ty i)) → W p l e R s m args below meth c H locs cells slots Q (F0 m nx ls' rest)) → W p l e R s m args below meth c H locs cells slots Q (F0 m pc ls (v :: rest))
def x_Inc (i : Nat) (n : Int) : Prop := ∀ {p : Program} {l : Launch} {e : Env} {R : Room} {s : State} {m : MethodId} {args : Array Value} {below : List Frame} {meth : Method} {c : Code}, CallFix p m c cc nL s args x_tbl own → ∀ {H : Heap} {locs : List Loc} {cells slots : Nat} {Q : State → Prop} {ls : Array Slot} {rest : List Value} {k : Nat} {x : Int32} {lv : List (Nat × Value)}, lv_has ls nL lv → lv[k]? = some (i, .int x) →
  (∀ ls' : Array Slot, lv_has ls' nL ((i, .int (x + Int32.ofInt n)) :: lv.filter (x_fltV 0 i)) → W p l e R s m args below meth c H locs cells slots Q (F0 m nx ls' rest)) → W p l e R s m args below meth c H locs cells slots Q (F0 m pc ls rest)
end XW
def xi_push (x : xV) (nx : Nat) : xS → Option (List xS) := fun t => some [(nx, t.2.1, x :: t.2.2.1, t.2.2.2)]
def xi_load (i ty nx : Nat) : xS → Option (List xS) := fun t => match x_find t.2.1 i with
  | some x => bif Nat.beq (x_ty x) ty then some [(nx, t.2.1, x :: t.2.2.1, t.2.2.2)] else none
  | none => none
def xi_stor (i ty nx : Nat) : xS → Option (List xS) := fun t => match t.2.2.1 with
  | x :: r => bif Nat.beq (x_ty x) ty then some [(nx, (i, x) :: t.2.1.filter (x_flt ty i), r, t.2.2.2)] else none
  | [] => none
def xi_goto (nx : Nat) : xS → Option (List xS) := fun t => some [(nx, t.2)]
section X3
variable {cl : List vw_C} {K : xKx} {cc : ByteArray} {own : String} {nL : Nat} {nm : String} {MC MS pc nx : Nat}
theorem xi_push_ok {x : xV} {v : Value} (hw : x_Psh cc own nL pc nx v) (hv : ∀ ad V sc, x_rel ad V sc x v) : x_Snd cl K cc own nL nm MC MS pc (xi_push x nx) := by
  intro V sc p l e R s m args below meth c D A H0 Q C hA hK t ts hpc hf hg
  have hf' : some [(nx, t.2.1, x :: t.2.2.1, t.2.2.2)] = some ts := hf
  cases hf'
  subst hpc
  intro ls stk H locs ⟨lv, ws, tys, h1, h2, h3, h4⟩
  exact hw C.1 (hg _ List.mem_cons_self ls (v :: stk) H locs ⟨lv, ws, tys, h1, h2, ⟨hv _ _ _, h3⟩, h4⟩)
theorem xi_load_ok {i ty : Nat} (hw : x_Ld cc own nL pc nx i ty) : x_Snd cl K cc own nL nm MC MS pc (xi_load i ty nx) := by
  intro V sc p l e R s m args below meth c D A H0 Q C hA hK t ts hpc hf hg
  unfold xi_load at hf
  split at hf
  · rename_i x hx
    cases hb : Nat.beq (x_ty x) ty with
    | false => rw [hb] at hf; cases hf
    | true =>
      rw [hb] at hf
      cases hf
      subst hpc
      have e := Nat.eq_of_beq_eq_true hb
      intro ls stk H locs ⟨lv, ws, tys, h1, h2, h3, h4⟩
      obtain ⟨k, v, hk, hr⟩ := x_find_ok h2 hx
      exact hw C.1 (lv_at h1 k hk) (e ▸ x_ty_ok hr) (hg _ List.mem_cons_self ls (v :: stk) H locs ⟨lv, ws, tys, h1, h2, ⟨hr, h3⟩, h4⟩)
  · cases hf
theorem xi_stor_ok {i ty : Nat} (hw : x_Sto cc own nL pc nx i ty) : x_Snd cl K cc own nL nm MC MS pc (xi_stor i ty nx) := by
  intro V sc p l e R s m args below meth c D A H0 Q C hA hK t ts hpc hf hg
  unfold xi_stor at hf
  split at hf
  · rename_i x r hx
    cases hb : Nat.beq (x_ty x) ty with
    | false => rw [hb] at hf; cases hf
    | true =>
      rw [hb] at hf
      cases hf
      subst hpc
      have e := Nat.eq_of_beq_eq_true hb
      intro ls stk H locs ⟨lv, ws, tys, h1, h2, h3, h4⟩
      rw [hx] at h3
      match stk, h3 with
      | v :: rest, h3 =>
        exact hw C.1 h1 (e ▸ x_ty_ok h3.1) (fun ls' hl' => hg _ List.mem_cons_self ls' rest H locs ⟨_, ws, tys, hl', ⟨⟨rfl, h3.1⟩, x_all2_filter h2 x_flt_eq⟩, h3.2, h4⟩)
  · cases hf
theorem xi_goto_ok (hw : x_Stk cc own nL pc nx [] []) : x_Snd cl K cc own nL nm MC MS pc (xi_goto nx) := by
  intro V sc p l e R s m args below meth c D A H0 Q C hA hK t ts hpc hf hg
  have hf' : some [(nx, t.2)] = some ts := hf
  cases hf'
  subst hpc
  intro ls stk H locs h
  exact hw C.1 (hg _ List.mem_cons_self ls stk H locs h)
end X3
end
end
section
noncomputable section
/-! numbers by bounds; branches -/
def x_I (lo hi : Int) : xV := bif decide (-2147483648 ≤ lo) && decide (hi ≤ 2147483647) then (0, lo, hi) else (0, -2147483648, 2147483647)
def x_J (lo hi : Int) : xV := bif decide (-9223372036854775808 ≤ lo) && decide (hi ≤ 9223372036854775807) then (4, lo, hi) else (4, -9223372036854775808, 9223372036854775807)
theorem x_bmod {z : Int} (h1 : -2147483648 ≤ z) (h2 : z ≤ 2147483647) : z.bmod 4294967296 = z := by
  rw [Int.bmod_eq_of_le] <;> omega
theorem x_bmodL {z : Int} (h1 : -9223372036854775808 ≤ z) (h2 : z ≤ 9223372036854775807) : z.bmod 18446744073709551616 = z := by
  rw [Int.bmod_eq_of_le] <;> omega
theorem x_rng (n : Int32) : -2147483648 ≤ n.toInt ∧ n.toInt ≤ 2147483647 := by
  have h1 := Int32.le_toInt n
  have h2 := Int32.toInt_lt n
  omega
theorem x_rngL (n : Int64) : -9223372036854775808 ≤ n.toInt ∧ n.toInt ≤ 9223372036854775807 := by
  have h1 := Int64.le_toInt n
  have h2 := Int64.toInt_lt n
  omega
theorem x_I_ok {ad : List Nat} {V : List Int} {sc : Nat × Nat × List Nat} {n : Int32} {z lo hi : Int} (hz : n.toInt = z.bmod 4294967296) (h1 : lo ≤ z) (h2 : z ≤ hi) : x_rel ad V sc (x_I lo hi) (.int n) := by
  unfold x_I
  cases hc : (decide (-2147483648 ≤ lo) && decide (hi ≤ 2147483647)) with
  | false => exact ⟨n, rfl, (x_rng n).1, (x_rng n).2⟩
  | true =>
    simp only [Bool.and_eq_true, decide_eq_true_eq] at hc
    rw [x_bmod (by omega) (by omega)] at hz
    exact ⟨n, rfl, by show lo ≤ n.toInt; omega, by show n.toInt ≤ hi; omega⟩
theorem x_J_ok {ad : List Nat} {V : List Int} {sc : Nat × Nat × List Nat} {n : Int64} {z lo hi : Int} (hz : n.toInt = z.bmod 18446744073709551616) (h1 : lo ≤ z) (h2 : z ≤ hi) : x_rel ad V sc (x_J lo hi) (.long n) := by
  unfold x_J
  cases hc : (decide (-9223372036854775808 ≤ lo) && decide (hi ≤ 9223372036854775807)) with
  | false => exact ⟨n, rfl, (x_rngL n).1, (x_rngL n).2⟩
  | true =>
    simp only [Bool.and_eq_true, decide_eq_true_eq] at hc
    rw [x_bmodL (by omega) (by omega)] at hz
    exact ⟨n, rfl, by show lo ≤ n.toInt; omega, by show n.toInt ≤ hi; omega⟩
/-- any int -/
def x_any : xV := (0, -2147483648, 2147483647)
theorem x_any_ok {ad : List Nat} {V : List Int} {sc : Nat × Nat × List Nat} (n : Int32) : x_rel ad V sc x_any (.int n) := ⟨n, rfl, (x_rng n).1, (x_rng n).2⟩
def x_anyL : xV := (4, -9223372036854775808, 9223372036854775807)
theorem x_anyL_ok {ad : List Nat} {V : List Int} {sc : Nat × Nat × List Nat} (n : Int64) : x_rel ad V sc x_anyL (.long n) := ⟨n, rfl, (x_rngL n).1, (x_rngL n).2⟩
/-- two ints on the stack, an int comes: by bounds -/
def xi_bin (F : Int × Int → Int × Int → Option xV) (nx : Nat) : xS → Option (List xS) := fun t => match t.2.2.1 with
  | y :: x :: r => match x_bi t.2.2.2.2.1 x, x_bi t.2.2.2.2.1 y with
    | some a, some b => match F a b with
      | some z => some [(nx, t.2.1, z :: r, t.2.2.2)]
      | none => none
    | _, _ => none
  | _ => none
def xi_un (F : Int × Int → xV) (nx : Nat) : xS → Option (List xS) := fun t => match t.2.2.1 with
  | x :: r => match x_bi t.2.2.2.2.1 x with
    | some a => some [(nx, t.2.1, F a :: r, t.2.2.2)]
    | none => none
  | _ => none
def xi_binL (F : Int × Int → Int × Int → Option xV) (nx : Nat) : xS → Option (List xS) := fun t => match t.2.2.1 with
  | y :: x :: r => match x_bl t.2.2.2.2.1 x, x_bl t.2.2.2.2.1 y with
    | some a, some b => match F a b with
      | some z => some [(nx, t.2.1, z :: r, t.2.2.2)]
      | none => none
    | _, _ => none
  | _ => none
/-- a long below, an int above: a shift -/
def xi_shL (F : Int × Int → Int × Int → Option xV) (nx : Nat) : xS → Option (List xS) := fun t => match t.2.2.1 with
  | y :: x :: r => match x_bl t.2.2.2.2.1 x, x_bi t.2.2.2.2.1 y with
    | some a, some b => match F a b with
      | some z => some [(nx, t.2.1, z :: r, t.2.2.2)]
      | none => none
    | _, _ => none
  | _ => none
def xi_unL (F : Int × Int → xV) (nx : Nat) : xS → Option (List xS) := fun t => match t.2.2.1 with
  | x :: r => match x_bl t.2.2.2.2.1 x with
    | some a => some [(nx, t.2.1, F a :: r, t.2.2.2)]
    | none => none
  | _ => none
/-- an int becomes a long: a token stays one -/
def xi_i2l (nx : Nat) : xS → Option (List xS) := fun t => match t.2.2.1 with
  | x :: r => match x.1 with
    | 3 => some [(nx, t.2.1, (6, x.2) :: r, t.2.2.2)]
    | _ => match x_bi t.2.2.2.2.1 x with
      | some a => some [(nx, t.2.1, (4, a) :: r, t.2.2.2)]
      | none => none
  | _ => none
def xi_inc (i : Nat) (n : Int) (nx : Nat) : xS → Option (List xS) := fun t => match x_find t.2.1 i with
  | some x => match x_bi t.2.2.2.2.1 x with
    | some a => some [(nx, (i, x_I (a.1 + n) (a.2 + n)) :: t.2.1.filter (x_flt 0 i), t.2.2.1, t.2.2.2)]
    | none => none
  | none => none
section X4
variable {cl : List vw_C} {K : xKx} {cc : ByteArray} {own : String} {nL : Nat} {nm : String} {MC MS pc nx : Nat}
theorem xi_bin_ok {F : Int × Int → Int × Int → Option xV} {g : Int32 → Int32 → Int32} (P : Int32 → Prop) (hw : ∀ x y, P y → x_Stk cc own nL pc nx [.int y, .int x] [.int (g x y)])
    (hF : ∀ (a b : Int × Int) (z : xV) (x y : Int32), F a b = some z → a.1 ≤ x.toInt → x.toInt ≤ a.2 → b.1 ≤ y.toInt → y.toInt ≤ b.2 → P y ∧ ∀ ad V sc, x_rel ad V sc z (.int (g x y))) : x_Snd cl K cc own nL nm MC MS pc (xi_bin F nx) := by
  intro V sc p l e R s m args below meth c D A H0 Q C hA hK t ts hpc hf hg
  unfold xi_bin at hf
  split at hf
  · rename_i y x r hst
    split at hf
    · rename_i a b ha hb
      split at hf
      · rename_i z hz
        cases hf
        subst hpc
        intro ls stk H locs ⟨lv, ws, tys, h1, h2, h3, h4⟩
        rw [hst] at h3
        match stk, h3 with
        | v1 :: v2 :: rest, h3 =>
          obtain ⟨ny, rfl, y1, y2⟩ := x_bi_ok h4.2.2.2.2.2 hb h3.1
          obtain ⟨nx', rfl, x1, x2⟩ := x_bi_ok h4.2.2.2.2.2 ha h3.2.1
          obtain ⟨hP, hr⟩ := hF a b z nx' ny hz x1 x2 y1 y2
          exact hw nx' ny hP C.1 (hg _ List.mem_cons_self ls (.int (g nx' ny) :: rest) H locs ⟨lv, ws, tys, h1, h2, ⟨hr _ _ _, h3.2.2⟩, h4⟩)
      · cases hf
    · cases hf
  · cases hf
theorem xi_un_ok {F : Int × Int → xV} {g : Int32 → Value} (hw : ∀ x, x_Stk cc own nL pc nx [.int x] [g x])
    (hF : ∀ (a : Int × Int) (x : Int32), a.1 ≤ x.toInt → x.toInt ≤ a.2 → ∀ ad V sc, x_rel ad V sc (F a) (g x)) : x_Snd cl K cc own nL nm MC MS pc (xi_un F nx) := by
  intro V sc p l e R s m args below meth c D A H0 Q C hA hK t ts hpc hf hg
  unfold xi_un at hf
  split at hf
  · rename_i x r hst
    split at hf
    · rename_i a ha
      cases hf
      subst hpc
      intro ls stk H locs ⟨lv, ws, tys, h1, h2, h3, h4⟩
      rw [hst] at h3
      match stk, h3 with
      | v2 :: rest, h3 =>
        obtain ⟨nx', rfl, x1, x2⟩ := x_bi_ok h4.2.2.2.2.2 ha h3.1
        exact hw nx' C.1 (hg _ List.mem_cons_self ls (g nx' :: rest) H locs ⟨lv, ws, tys, h1, h2, ⟨hF a nx' x1 x2 _ _ _, h3.2⟩, h4⟩)
    · cases hf
  · cases hf
theorem xi_unL_ok {F : Int × Int → xV} {g : Int64 → Value} (hw : ∀ x, x_Stk cc own nL pc nx [.long x] [g x])
    (hF : ∀ (a : Int × Int) (x : Int64), a.1 ≤ x.toInt → x.toInt ≤ a.2 → ∀ ad V sc, x_rel ad V sc (F a) (g x)) : x_Snd cl K cc own nL nm MC MS pc (xi_unL F nx) := by
  intro V sc p l e R s m args below meth c D A H0 Q C hA hK t ts hpc hf hg
  unfold xi_unL at hf
  split at hf
  · rename_i x r hst
    split at hf
    · rename_i a ha
      cases hf
      subst hpc
      intro ls stk H locs ⟨lv, ws, tys, h1, h2, h3, h4⟩
      rw [hst] at h3
      match stk, h3 with
      | v2 :: rest, h3 =>
        obtain ⟨nx', rfl, x1, x2⟩ := x_bl_ok h4.2.2.2.2.2 ha h3.1
        exact hw nx' C.1 (hg _ List.mem_cons_self ls (g nx' :: rest) H locs ⟨lv, ws, tys, h1, h2, ⟨hF a nx' x1 x2 _ _ _, h3.2⟩, h4⟩)
    · cases hf
  · cases hf
theorem xi_binL_ok {F : Int × Int → Int × Int → Option xV} {g : Int64 → Int64 → Int64} (P : Int64 → Prop) (hw : ∀ x y, P y → x_Stk cc own nL pc nx [.long y, .long x] [.long (g x y)])
    (hF : ∀ (a b : Int × Int) (z : xV) (x y : Int64), F a b = some z → a.1 ≤ x.toInt → x.toInt ≤ a.2 → b.1 ≤ y.toInt → y.toInt ≤ b.2 → P y ∧ ∀ ad V sc, x_rel ad V sc z (.long (g x y))) : x_Snd cl K cc own nL nm MC MS pc (xi_binL F nx) := by
  intro V sc p l e R s m args below meth c D A H0 Q C hA hK t ts hpc hf hg
  unfold xi_binL at hf
  split at hf
  · rename_i y x r hst
    split at hf
    · rename_i a b ha hb
      split at hf
      · rename_i z hz
        cases hf
        subst hpc
        intro ls stk H locs ⟨lv, ws, tys, h1, h2, h3, h4⟩
        rw [hst] at h3
        match stk, h3 with
        | v1 :: v2 :: rest, h3 =>
          obtain ⟨ny, rfl, y1, y2⟩ := x_bl_ok h4.2.2.2.2.2 hb h3.1
          obtain ⟨nx', rfl, x1, x2⟩ := x_bl_ok h4.2.2.2.2.2 ha h3.2.1
          obtain ⟨hP, hr⟩ := hF a b z nx' ny hz x1 x2 y1 y2
          exact hw nx' ny hP C.1 (hg _ List.mem_cons_self ls (.long (g nx' ny) :: rest) H locs ⟨lv, ws, tys, h1, h2, ⟨hr _ _ _, h3.2.2⟩, h4⟩)
      · cases hf
    · cases hf
  · cases hf
theorem xi_shL_ok {F : Int × Int → Int × Int → Option xV} {g : Int64 → Int32 → Int64} (hw : ∀ x y, x_Stk cc own nL pc nx [.int y, .long x] [.long (g x y)])
    (hF : ∀ (a b : Int × Int) (z : xV) (x : Int64) (y : Int32), F a b = some z → a.1 ≤ x.toInt → x.toInt ≤ a.2 → b.1 ≤ y.toInt → y.toInt ≤ b.2 → ∀ ad V sc, x_rel ad V sc z (.long (g x y))) : x_Snd cl K cc own nL nm MC MS pc (xi_shL F nx) := by
  intro V sc p l e R s m args below meth c D A H0 Q C hA hK t ts hpc hf hg
  unfold xi_shL at hf
  split at hf
  · rename_i y x r hst
    split at hf
    · rename_i a b ha hb
      split at hf
      · rename_i z hz
        cases hf
        subst hpc
        intro ls stk H locs ⟨lv, ws, tys, h1, h2, h3, h4⟩
        rw [hst] at h3
        match stk, h3 with
        | v1 :: v2 :: rest, h3 =>
          obtain ⟨ny, rfl, y1, y2⟩ := x_bi_ok h4.2.2.2.2.2 hb h3.1
          obtain ⟨nx', rfl, x1, x2⟩ := x_bl_ok h4.2.2.2.2.2 ha h3.2.1
          have hr := hF a b z nx' ny hz x1 x2 y1 y2
          exact hw nx' ny C.1 (hg _ List.mem_cons_self ls (.long (g nx' ny) :: rest) H locs ⟨lv, ws, tys, h1, h2, ⟨hr _ _ _, h3.2.2⟩, h4⟩)
      · cases hf
    · cases hf
  · cases hf
theorem xi_i2l_ok (hw : ∀ x : Int32, x_Stk cc own nL pc nx [.int x] [.long x.toInt64]) : x_Snd cl K cc own nL nm MC MS pc (xi_i2l nx) := by
  intro V sc p l e R s m args below meth c D A H0 Q C hA hK t ts hpc hf hg
  unfold xi_i2l at hf
  split at hf
  · rename_i x r hst
    obtain ⟨tg, xa, xb⟩ := x
    split at hf
    · rename_i h0
      simp only at h0
      subst h0
      cases hf
      subst hpc
      intro ls stk H locs ⟨lv, ws, tys, h1, h2, h3, h4⟩
      rw [hst] at h3
      match stk, h3 with
      | v2 :: rest, h3 =>
        obtain ⟨n, rfl, hn⟩ := h3.1
        exact hw n C.1 (hg _ List.mem_cons_self ls (.long n.toInt64 :: rest) H locs ⟨lv, ws, tys, h1, h2, ⟨⟨n.toInt64, rfl, by rw [Int32.toInt_toInt64]; exact hn⟩, h3.2⟩, h4⟩)
    · split at hf
      · rename_i a ha
        cases hf
        subst hpc
        intro ls stk H locs ⟨lv, ws, tys, h1, h2, h3, h4⟩
        rw [hst] at h3
        match stk, h3 with
        | v2 :: rest, h3 =>
          obtain ⟨n, rfl, x1, x2⟩ := x_bi_ok h4.2.2.2.2.2 ha h3.1
          exact hw n C.1 (hg _ List.mem_cons_self ls (.long n.toInt64 :: rest) H locs ⟨lv, ws, tys, h1, h2, ⟨⟨n.toInt64, rfl, by rw [Int32.toInt_toInt64]; exact x1, by rw [Int32.toInt_toInt64]; exact x2⟩, h3.2⟩, h4⟩)
      · cases hf
  · cases hf
theorem xi_inc_ok {i : Nat} {n : Int} (hn : -2147483648 ≤ n ∧ n ≤ 2147483647) (hw : x_Inc cc own nL pc nx i n) : x_Snd cl K cc own nL nm MC MS pc (xi_inc i n nx) := by
  intro V sc p l e R s m args below meth c D A H0 Q C hA hK t ts hpc hf hg
  unfold xi_inc at hf
  split at hf
  · rename_i x hx
    split at hf
    · rename_i a ha
      cases hf
      subst hpc
      intro ls stk H locs ⟨lv, ws, tys, h1, h2, h3, h4⟩
      obtain ⟨k, v, hk, hr⟩ := x_find_ok h2 hx
      obtain ⟨z, rfl, x1, x2⟩ := x_bi_ok h4.2.2.2.2.2 ha hr
      refine hw C.1 h1 hk (fun ls' hl' => hg _ List.mem_cons_self ls' stk H locs ⟨_, ws, tys, hl', ⟨⟨rfl, ?_⟩, x_all2_filter h2 x_flt_eq⟩, h3, h4⟩)
      refine x_I_ok (z := z.toInt + n) ?_ (by omega) (by omega)
      rw [Int32.toInt_add, Int32.toInt_ofInt, x_bmod hn.1 hn.2]
    · cases hf
  · cases hf
end X4
end
end
section
noncomputable section
/-! branches by bounds: decided where the bounds decide, else both ways with narrower bounds -/
def x_cnd (k : Nat) (a b : Int) : Prop := match k with
  | 0 => a = b
  | 1 => a ≠ b
  | 2 => a < b
  | 3 => b ≤ a
  | 4 => b < a
  | _ => a ≤ b
def x_neg (k : Nat) : Nat := match k with
  | 0 => 1
  | 1 => 0
  | 2 => 3
  | 3 => 2
  | 4 => 5
  | _ => 4
theorem x_neg_ok {k : Nat} {a b : Int} (h : ¬ x_cnd k a b) : x_cnd (x_neg k) a b := by
  unfold x_cnd at h
  unfold x_neg
  split at h <;> simp only [x_cnd] <;> omega
/-- can it be so? -/
def x_may (k : Nat) (a b : Int × Int) : Bool := match k with
  | 0 => decide (a.1 ≤ b.2) && decide (b.1 ≤ a.2)
  | 1 => !(decide (a.1 = a.2) && (decide (b.1 = b.2) && decide (a.1 = b.1)))
  | 2 => decide (a.1 < b.2)
  | 3 => decide (b.1 ≤ a.2)
  | 4 => decide (b.1 < a.2)
  | _ => decide (a.1 ≤ b.2)
theorem x_may_ok {k : Nat} {a b : Int × Int} {x y : Int} (hx : a.1 ≤ x ∧ x ≤ a.2) (hy : b.1 ≤ y ∧ y ≤ b.2) (h : x_cnd k x y) : x_may k a b = true := by
  unfold x_cnd at h
  unfold x_may
  split at h <;> simp only [Bool.and_eq_true, decide_eq_true_eq, Bool.not_eq_true', Bool.and_eq_false_iff, decide_eq_false_iff_not] <;> omega
def x_max (a b : Int) : Int := bif decide (a ≤ b) then b else a
def x_min (a b : Int) : Int := bif decide (a ≤ b) then a else b
theorem x_max_le {a b x : Int} (h1 : a ≤ x) (h2 : b ≤ x) : x_max a b ≤ x := by
  unfold x_max
  cases decide (a ≤ b) <;> assumption
theorem x_le_min {a b x : Int} (h1 : x ≤ a) (h2 : x ≤ b) : x ≤ x_min a b := by
  unfold x_min
  cases decide (a ≤ b) <;> assumption
/-- what is then known of the first -/
def x_nar1 (k : Nat) (a b : Int × Int) : Int × Int := match k with
  | 0 => (x_max a.1 b.1, x_min a.2 b.2)
  | 1 => a
  | 2 => (a.1, x_min a.2 (b.2 - 1))
  | 3 => (x_max a.1 b.1, a.2)
  | 4 => (x_max a.1 (b.1 + 1), a.2)
  | _ => (a.1, x_min a.2 b.2)
def x_nar2 (k : Nat) (a b : Int × Int) : Int × Int := match k with
  | 0 => (x_max a.1 b.1, x_min a.2 b.2)
  | 1 => b
  | 2 => (x_max b.1 (a.1 + 1), b.2)
  | 3 => (b.1, x_min b.2 a.2)
  | 4 => (b.1, x_min b.2 (a.2 - 1))
  | _ => (x_max b.1 a.1, b.2)
theorem x_nar_ok {k : Nat} {a b : Int × Int} {x y : Int} (hx : a.1 ≤ x ∧ x ≤ a.2) (hy : b.1 ≤ y ∧ y ≤ b.2) (h : x_cnd k x y) : ((x_nar1 k a b).1 ≤ x ∧ x ≤ (x_nar1 k a b).2) ∧ (x_nar2 k a b).1 ≤ y ∧ y ≤ (x_nar2 k a b).2 := by
  unfold x_cnd at h
  unfold x_nar1 x_nar2
  split at h <;> refine ⟨⟨?_, ?_⟩, ?_, ?_⟩ <;> (try simp only) <;> first | omega | (apply x_max_le <;> omega) | (apply x_le_min <;> omega)
/-- a token's bounds set -/
def x_setb (tk : xT) (x : xV) (b : Int × Int) : xT := match x.1 with
  | 3 => tk.set x.2.1.toNat b
  | 6 => tk.set x.2.1.toNat b
  | _ => tk
theorem x_tk_set {tk : xT} {V : List Int} {j : Nat} {b : Int × Int} {z : Int} (h : x_tk tk V) (hv : V[j]? = some z) (h1 : b.1 ≤ z) (h2 : z ≤ b.2) : x_tk (tk.set j b) V := by
  intro i q hq
  rw [List.getElem?_set] at hq
  split at hq
  · rename_i e
    split at hq
    · cases hq
      subst e
      exact ⟨z, hv, h1, h2⟩
    · cases hq
  · exact h i q hq
theorem x_setb_i {ad : List Nat} {V : List Int} {sc : Nat × Nat × List Nat} {tk : xT} {x : xV} {b : Int × Int} {n : Int32} (h : x_tk tk V) (hr : x_rel ad V sc x (.int n)) (h1 : b.1 ≤ n.toInt) (h2 : n.toInt ≤ b.2) : x_tk (x_setb tk x b) V := by
  obtain ⟨t, xa, xb⟩ := x
  unfold x_setb
  unfold x_rel at hr
  split at hr
  · rename_i h0; simp only at h0; subst h0; exact h
  · rename_i h0; simp only at h0; subst h0; exact h
  · rename_i h0; simp only at h0; subst h0; exact h
  · rename_i h0; simp only at h0; subst h0
    obtain ⟨n', e, hv⟩ := hr
    cases e
    exact x_tk_set h hv h1 h2
  · rename_i h0; simp only at h0; subst h0; exact h
  · obtain ⟨n', e, hv⟩ := hr
    cases e
  · rename_i h0; simp only at h0; subst h0; exact h
  · exact hr.elim
theorem x_setb_l {ad : List Nat} {V : List Int} {sc : Nat × Nat × List Nat} {tk : xT} {x : xV} {b : Int × Int} {n : Int64} (h : x_tk tk V) (hr : x_rel ad V sc x (.long n)) (h1 : b.1 ≤ n.toInt) (h2 : n.toInt ≤ b.2) : x_tk (x_setb tk x b) V := by
  obtain ⟨t, xa, xb⟩ := x
  unfold x_setb
  unfold x_rel at hr
  split at hr
  · rename_i h0; simp only at h0; subst h0; exact h
  · rename_i h0; simp only at h0; subst h0; exact h
  · rename_i h0; simp only at h0; subst h0; exact h
  · obtain ⟨n', e, hv⟩ := hr
    cases e
  · rename_i h0; simp only at h0; subst h0; exact h
  · rename_i h0; simp only at h0; subst h0
    obtain ⟨n', e, hv⟩ := hr
    cases e
    exact x_tk_set h hv h1 h2
  · rename_i h0; simp only at h0; subst h0; exact h
  · exact hr.elim
/-- one way of a branch, if it can be gone -/
def x_way (k : Nat) (a b : Int × Int) (t : xS) (x y : xV) (st : List xV) (nx : Nat) : List xS :=
  bif x_may k a b then [(nx, t.2.1, st, t.2.2.2.1, x_setb (x_setb t.2.2.2.2.1 x (x_nar1 k a b)) y (x_nar2 k a b), t.2.2.2.2.2)] else []
def xi_if2 (k tg nx : Nat) : xS → Option (List xS) := fun t => match t.2.2.1 with
  | y :: x :: r => match x_bi t.2.2.2.2.1 x, x_bi t.2.2.2.2.1 y with
    | some a, some b => some (x_way k a b t x y r tg ++ x_way (x_neg k) a b t x y r nx)
    | _, _ => none
  | _ => none
def xi_if1 (k tg nx : Nat) : xS → Option (List xS) := fun t => match t.2.2.1 with
  | x :: r => match x_bi t.2.2.2.2.1 x with
    | some a => some (x_way k a (0, 0) t x (0, 0, 0) r tg ++ x_way (x_neg k) a (0, 0) t x (0, 0, 0) r nx)
    | _ => none
  | _ => none
def xi_lcmp (nx : Nat) : xS → Option (List xS) := fun t => match t.2.2.1 with
  | y :: x :: r => match x_bl t.2.2.2.2.1 x, x_bl t.2.2.2.2.1 y with
    | some a, some b => some (x_way 2 a b t x y ((0, -1, -1) :: r) nx ++ (x_way 0 a b t x y ((0, 0, 0) :: r) nx ++ x_way 4 a b t x y ((0, 1, 1) :: r) nx))
    | _, _ => none
  | _ => none
section XW5
variable (cc : ByteArray) (own : String) (nL pc tg nx : Nat)
def x_If2 (k : Nat) : Prop := ∀ {p : Program} {l : Launch} {e : Env} {R : Room} {s : State} {m : MethodId} {args : Array Value} {below : List Frame} {meth : Method} {c : Code}, CallFix p m c cc nL s args x_tbl own → ∀ {H : Heap} {locs : List Loc} {cells slots : Nat} {Q : State → Prop} {ls : Array Slot} {rest : List Value} {x y : Int32},
  (x_cnd k x.toInt y.toInt → W p l e R s m args below meth c H locs cells slots Q (F0 m tg ls rest)) → (¬ x_cnd k x.toInt y.toInt → W p l e R s m args below meth c H locs cells slots Q (F0 m nx ls rest)) → W p l e R s m args below meth c H locs cells slots Q (F0 m pc ls (.int y :: .int x :: rest))
def x_If1 (k : Nat) : Prop := ∀ {p : Program} {l : Launch} {e : Env} {R : Room} {s : State} {m : MethodId} {args : Array Value} {below : List Frame} {meth : Method} {c : Code}, CallFix p m c cc nL s args x_tbl own → ∀ {H : Heap} {locs : List Loc} {cells slots : Nat} {Q : State → Prop} {ls : Array Slot} {rest : List Value} {x : Int32},
  (x_cnd k x.toInt 0 → W p l e R s m args below meth c H locs cells slots Q (F0 m tg ls rest)) → (¬ x_cnd k x.toInt 0 → W p l e R s m args below meth c H locs cells slots Q (F0 m nx ls rest)) → W p l e R s m args below meth c H locs cells slots Q (F0 m pc ls (.int x :: rest))
end XW5
section X5
variable {cl : List vw_C} {K : xKx} {cc : ByteArray} {own : String} {nL : Nat} {nm : String} {MC MS pc tg nx : Nat}
theorem x_way_in {k : Nat} {a b : Int × Int} {t : xS} {x y : xV} {st : List xV} {nx : Nat} (h : x_may k a b = true) : (nx, t.2.1, st, t.2.2.2.1, x_setb (x_setb t.2.2.2.2.1 x (x_nar1 k a b)) y (x_nar2 k a b), t.2.2.2.2.2) ∈ x_way k a b t x y st nx := by
  unfold x_way
  rw [h]
  exact List.mem_cons_self
theorem xi_if2_ok {k : Nat} (hw : x_If2 cc own nL pc tg nx k) : x_Snd cl K cc own nL nm MC MS pc (xi_if2 k tg nx) := by
  intro V sc p l e R s m args below meth c D A H0 Q C hA hK t ts hpc hf hg
  unfold xi_if2 at hf
  split at hf
  · rename_i y x r hst
    split at hf
    · rename_i a b ha hb
      cases hf
      subst hpc
      intro ls stk H locs ⟨lv, ws, tys, h1, h2, h3, h4, h5, h6, h7, h8, h9⟩
      rw [hst] at h3
      match stk, h3 with
      | v1 :: v2 :: rest, h3 =>
        obtain ⟨ny, rfl, y1, y2⟩ := x_bi_ok h9 hb h3.1
        obtain ⟨nx', rfl, x1, x2⟩ := x_bi_ok h9 ha h3.2.1
        refine hw C.1 (fun hc => ?_) (fun hc => ?_)
        · obtain ⟨⟨g1, g2⟩, g3, g4⟩ := x_nar_ok ⟨x1, x2⟩ ⟨y1, y2⟩ hc
          exact hg _ (List.mem_append_left _ (x_way_in (x_may_ok ⟨x1, x2⟩ ⟨y1, y2⟩ hc))) ls rest H locs ⟨lv, ws, tys, h1, h2, h3.2.2, h4, h5, h6, h7, h8, x_setb_i (x_setb_i h9 h3.2.1 g1 g2) h3.1 g3 g4⟩
        · have hc := x_neg_ok hc
          obtain ⟨⟨g1, g2⟩, g3, g4⟩ := x_nar_ok ⟨x1, x2⟩ ⟨y1, y2⟩ hc
          exact hg _ (List.mem_append_right _ (x_way_in (x_may_ok ⟨x1, x2⟩ ⟨y1, y2⟩ hc))) ls rest H locs ⟨lv, ws, tys, h1, h2, h3.2.2, h4, h5, h6, h7, h8, x_setb_i (x_setb_i h9 h3.2.1 g1 g2) h3.1 g3 g4⟩
    · cases hf
  · cases hf
theorem xi_if1_ok {k : Nat} (hw : x_If1 cc own nL pc tg nx k) : x_Snd cl K cc own nL nm MC MS pc (xi_if1 k tg nx) := by
  intro V sc p l e R s m args below meth c D A H0 Q C hA hK t ts hpc hf hg
  unfold xi_if1 at hf
  split at hf
  · rename_i x r hst
    split at hf
    · rename_i a ha
      cases hf
      subst hpc
      intro ls stk H locs ⟨lv, ws, tys, h1, h2, h3, h4, h5, h6, h7, h8, h9⟩
      rw [hst] at h3
      match stk, h3 with
      | v2 :: rest, h3 =>
        obtain ⟨nx', rfl, x1, x2⟩ := x_bi_ok h9 ha h3.1
        refine hw C.1 (fun hc => ?_) (fun hc => ?_)
        · obtain ⟨⟨g1, g2⟩, g3, g4⟩ := x_nar_ok (b := (0, 0)) ⟨x1, x2⟩ ⟨Int.le_refl 0, Int.le_refl 0⟩ hc
          exact hg _ (List.mem_append_left _ (x_way_in (x_may_ok ⟨x1, x2⟩ ⟨Int.le_refl 0, Int.le_refl 0⟩ hc))) ls rest H locs ⟨lv, ws, tys, h1, h2, h3.2, h4, h5, h6, h7, h8, x_setb_i h9 h3.1 g1 g2⟩
        · have hc := x_neg_ok hc
          obtain ⟨⟨g1, g2⟩, g3, g4⟩ := x_nar_ok (b := (0, 0)) ⟨x1, x2⟩ ⟨Int.le_refl 0, Int.le_refl 0⟩ hc
          exact hg _ (List.mem_append_right _ (x_way_in (x_may_ok ⟨x1, x2⟩ ⟨Int.le_refl 0, Int.le_refl 0⟩ hc))) ls rest H locs ⟨lv, ws, tys, h1, h2, h3.2, h4, h5, h6, h7, h8, x_setb_i h9 h3.1 g1 g2⟩
    · cases hf
  · cases hf
theorem x_lg_cmp (x y : Int64) : (x.toInt < y.toInt → lg_cmp x y = -1) ∧ (x.toInt = y.toInt → lg_cmp x y = 0) ∧ (y.toInt < x.toInt → lg_cmp x y = 1) := by
  unfold lg_cmp
  refine ⟨fun h => ?_, fun h => ?_, fun h => ?_⟩
  · have h2 : ¬ y.toInt < x.toInt := by omega
    have h4 : ¬ x = y := fun e => by rw [e] at h; omega
    rw [if_neg (fun q => h2 (Int64.lt_iff_toInt_lt.mp q)), if_neg h4]
  · have e : x = y := Int64.toInt_inj.mp h
    subst e
    rw [if_neg (fun q => by have := Int64.lt_iff_toInt_lt.mp q; omega), if_pos rfl]
  · rw [if_pos (Int64.lt_iff_toInt_lt.mpr h)]
theorem xi_lcmp_ok (hw : ∀ x y : Int64, x_Stk cc own nL pc nx [.long y, .long x] [.int (lg_cmp x y)]) : x_Snd cl K cc own nL nm MC MS pc (xi_lcmp nx) := by
  intro V sc p l e R s m args below meth c D A H0 Q C hA hK t ts hpc hf hg
  unfold xi_lcmp at hf
  split at hf
  · rename_i y x r hst
    split at hf
    · rename_i a b ha hb
      cases hf
      subst hpc
      intro ls stk H locs ⟨lv, ws, tys, h1, h2, h3, h4, h5, h6, h7, h8, h9⟩
      rw [hst] at h3
      match stk, h3 with
      | v1 :: v2 :: rest, h3 =>
        obtain ⟨ny, rfl, y1, y2⟩ := x_bl_ok h9 hb h3.1
        obtain ⟨nx', rfl, x1, x2⟩ := x_bl_ok h9 ha h3.2.1
        obtain ⟨c1, c2, c3⟩ := x_lg_cmp nx' ny
        refine hw nx' ny C.1 ?_
        rcases Int.lt_trichotomy nx'.toInt ny.toInt with hc | hc | hc
        · have hc' : x_cnd 2 nx'.toInt ny.toInt := hc
          obtain ⟨⟨g1, g2⟩, g3, g4⟩ := x_nar_ok ⟨x1, x2⟩ ⟨y1, y2⟩ hc'
          rw [c1 hc]
          exact hg _ (List.mem_append_left _ (x_way_in (x_may_ok ⟨x1, x2⟩ ⟨y1, y2⟩ hc'))) ls (.int (-1) :: rest) H locs ⟨lv, ws, tys, h1, h2, ⟨⟨-1, rfl, by decide, by decide⟩, h3.2.2⟩, h4, h5, h6, h7, h8, x_setb_l (x_setb_l h9 h3.2.1 g1 g2) h3.1 g3 g4⟩
        · have hc' : x_cnd 0 nx'.toInt ny.toInt := hc
          obtain ⟨⟨g1, g2⟩, g3, g4⟩ := x_nar_ok ⟨x1, x2⟩ ⟨y1, y2⟩ hc'
          rw [c2 hc]
          exact hg _ (List.mem_append_right _ (List.mem_append_left _ (x_way_in (x_may_ok ⟨x1, x2⟩ ⟨y1, y2⟩ hc')))) ls (.int 0 :: rest) H locs ⟨lv, ws, tys, h1, h2, ⟨⟨0, rfl, by decide, by decide⟩, h3.2.2⟩, h4, h5, h6, h7, h8, x_setb_l (x_setb_l h9 h3.2.1 g1 g2) h3.1 g3 g4⟩
        · have hc' : x_cnd 4 nx'.toInt ny.toInt := hc
          obtain ⟨⟨g1, g2⟩, g3, g4⟩ := x_nar_ok ⟨x1, x2⟩ ⟨y1, y2⟩ hc'
          rw [c3 hc]
          exact hg _ (List.mem_append_right _ (List.mem_append_right _ (x_way_in (x_may_ok ⟨x1, x2⟩ ⟨y1, y2⟩ hc')))) ls (.int 1 :: rest) H locs ⟨lv, ws, tys, h1, h2, ⟨⟨1, rfl, by decide, by decide⟩, h3.2.2⟩, h4, h5, h6, h7, h8, x_setb_l (x_setb_l h9 h3.2.1 g1 g2) h3.1 g3 g4⟩
    · cases hf
  · cases hf
end X5
end
end
section
noncomputable section
/-! cells: fields, arrays, new ones -/
theorem x_rel_app {ad ad' : List Nat} {V : List Int} {sc : Nat × Nat × List Nat} {x : xV} {v : Value} (h : x_rel ad V sc x v) : x_rel (ad ++ ad') V sc x v := by
  obtain ⟨t, a, b⟩ := x
  unfold x_rel at h ⊢
  split at h <;> try exact h
  obtain ⟨q, h1, h2⟩ := h
  exact ⟨q, by rw [List.getElem?_append_left (List.getElem?_eq_some_iff.mp h1).1]; exact h1, h2⟩
theorem x_cell_mono {cl : List vw_C} {ad ad' : List Nat} {V : List Int} {sc : Nat × Nat × List Nat} {tys tys' : List (ClassId × FieldType)} {x : xC} {e : va_E} (h : x_cell cl ad V sc tys x e) : x_cell cl (ad ++ ad') V sc (tys ++ tys') x e := by
  have ht : ∀ {t0 : Nat} {q : ClassId × FieldType}, tys[t0]? = some q → (tys ++ tys')[t0]? = some q := fun h => by rw [List.getElem?_append_left (List.getElem?_eq_some_iff.mp h).1]; exact h
  obtain ⟨t, n, ln, d, o⟩ := x
  unfold x_cell at h ⊢
  split at h
  · obtain ⟨fs, h1, h2, h3⟩ := h
    exact ⟨fs, h1, h2, fun k hk => by obtain ⟨v, g1, g2⟩ := h3 k hk; exact ⟨v, g1, x_rel_app g2⟩⟩
  · obtain ⟨t0, cA, f, h1, h2, h3, h4⟩ := h
    exact ⟨t0, cA, f, ht h1, h2, h3, fun k hk => x_rel_app (h4 k hk)⟩
  · obtain ⟨t0, cA, f, h1, h2, h3, h4⟩ := h
    exact ⟨t0, cA, f, ht h1, h2, h3, fun k hk => x_rel_app (h4 k hk)⟩
  · obtain ⟨t0, cA, f, h1, h2, h3, h4⟩ := h
    exact ⟨t0, cA, f, ht h1, h2, h3, fun k hk => x_rel_app (h4 k hk)⟩
  · obtain ⟨t0, cA, r, f, h0, h1, h2, h3, h4⟩ := h
    exact ⟨t0, cA, r, f, h0, ht h1, h2, h3, fun k hk => x_rel_app (h4 k hk)⟩
  · obtain ⟨t0, cA, f, h1, h2, h3, h4⟩ := h
    exact ⟨t0, cA, f, ht h1, h2, h3, fun k hk => x_rel_app (h4 k hk)⟩
  · exact h.elim
theorem x_fst_set {ws : va_W} {k a : Nat} {e0 e : va_E} (h : ws[k]? = some (a, e0)) : (ws.set k (a, e)).map Prod.fst = ws.map Prod.fst := by
  rw [List.map_set]
  apply List.ext_getElem?
  intro i
  rw [List.getElem?_set]
  split
  · rename_i hi
    subst hi
    have hl := (List.getElem?_eq_some_iff.mp h).1
    rw [List.length_map, if_pos hl, List.getElem?_map, h]
    rfl
  · rfl
theorem x_world_set {cl : List vw_C} {V : List Int} {sc : Nat × Nat × List Nat} {tys : List (ClassId × FieldType)} {w : List xC} {ws : va_W} {k a : Nat} {e0 e : va_E} {x : xC} (h : x_world cl V sc tys w ws) (hk : ws[k]? = some (a, e0)) (hx : x_cell cl (ws.map Prod.fst) V sc tys x e) : x_world cl V sc tys (x_up w k x) (ws.set k (a, e)) := by
  rw [x_up_eq]
  refine ⟨by rw [List.length_set, List.length_set]; exact h.1, by rw [x_fst_set hk]; exact h.2.1, fun j y q hy hq => ?_⟩
  rw [x_fst_set hk]
  rw [List.getElem?_set] at hy hq
  split at hy
  · rename_i hj
    subst hj
    rw [if_pos rfl] at hq
    split at hy
    · split at hq
      · cases hy; cases hq; exact hx
      · cases hq
    · cases hy
  · rename_i hj
    rw [if_neg hj] at hq
    exact h.2.2 j y q hy hq
theorem x_world_app {cl : List vw_C} {V : List Int} {sc : Nat × Nat × List Nat} {tys tys' : List (ClassId × FieldType)} {w w' : List xC} {ws ws' : va_W} (h : x_world cl V sc tys w ws) (hl : w'.length = ws'.length) (hx : ∀ (k : Nat) (x : xC) (q : Nat × va_E), w'[k]? = some x → ws'[k]? = some q → x_cell cl ((ws ++ ws').map Prod.fst) V sc (tys ++ tys') x q.2) : x_world cl V sc (tys ++ tys') (w ++ w') (ws ++ ws') := by
  refine ⟨by rw [List.length_append, List.length_append, h.1, hl], by obtain ⟨l, e⟩ := h.2.1; exact ⟨l ++ ws'.map Prod.fst, by rw [List.map_append, e, List.append_assoc]⟩, fun j y q hy hq => ?_⟩
  by_cases hj : j < w.length
  · rw [List.getElem?_append_left hj] at hy
    rw [List.getElem?_append_left (by rw [← h.1]; exact hj)] at hq
    rw [List.map_append]
    exact x_cell_mono (h.2.2 j y q hy hq)
  · rw [List.getElem?_append_right (by omega)] at hy
    rw [List.getElem?_append_right (by rw [← h.1]; omega)] at hq
    rw [← h.1] at hq
    exact hx _ y q hy hq
theorem x_stk_app {ad ad' : List Nat} {V : List Int} {sc : Nat × Nat × List Nat} {st : List xV} {stk : List Value} (h : x_all2 (x_rel ad V sc) st stk) : x_all2 (x_rel (ad ++ ad') V sc) st stk := x_all2_imp (fun _ _ h => x_rel_app h) h
theorem x_lv_app {ad ad' : List Nat} {V : List Int} {sc : Nat × Nat × List Nat} {al : xL} {lv : List (Nat × Value)} (h : x_all2 (fun a q => a.1 = q.1 ∧ x_rel ad V sc a.2 q.2) al lv) : x_all2 (fun a q => a.1 = q.1 ∧ x_rel (ad ++ ad') V sc a.2 q.2) al lv := x_all2_imp (fun _ _ h => ⟨h.1, x_rel_app h.2⟩) h
/-- a reference leads to a cell of the world -/
theorem x_ref {cl : List vw_C} {V : List Int} {sc : Nat × Nat × List Nat} {tys : List (ClassId × FieldType)} {w : List xC} {ws : va_W} {j b : Int} {v : Value} {x : xC} (h : x_world cl V sc tys w ws) (hr : x_rel (ws.map Prod.fst) V sc (1, j, b) v) (hx : x_at w j.toNat = some x) : ∃ a e, ws[j.toNat]? = some (a, e) ∧ v = .ref a ∧ x_cell cl (ws.map Prod.fst) V sc tys x e := by
  rw [x_at_eq] at hx
  obtain ⟨a, h1, h2⟩ := hr
  simp only [List.getElem?_map, Option.map_eq_some_iff] at h1
  obtain ⟨q, hq, rfl⟩ := h1
  exact ⟨q.1, q.2, hq, h2, h.2.2 _ x q hx hq⟩
-- what a row of the kit gives
section XW6
variable (cl : List vw_C) (cc : ByteArray) (own : String) (nL : Nat) (nm : String) (MC MS pc nx : Nat)
def x_Gf (ci k : Nat) : Prop := ∀ {p : Program} {l : Launch} {e : Env} {R : Room} {s : State} {m : MethodId} {args : Array Value} {below : List Frame} {meth : Method} {c : Code}, x_Cx cc own nL nm MC MS p R s m args meth c → ∀ {H : Heap} {locs : List Loc} {cells slots : Nat} {Q : State → Prop} {ls : Array Slot} {rest : List Value} {D : va_G} {tys : List (ClassId × FieldType)} {ws : va_W} {a q0 : Nat} {fs : List Value} {v : Value},
  va_K D cl tys s → va_P D cl ws H → ws[q0]? = some (a, .inr (ci, fs)) → fs[k]? = some v → W p l e R s m args below meth c H locs cells slots Q (F0 m nx ls (v :: rest)) → W p l e R s m args below meth c H locs cells slots Q (F0 m pc ls (.ref a :: rest))
/-- what may stand in a field: 0 an int, 1 a boolean, 2 a reference -/
def x_pk (fk : Nat) (v : Value) : Prop := match fk with
  | 0 => ∃ n, v = .int n
  | 1 => v = .int 0 ∨ v = .int 1
  | _ => v = .null ∨ ∃ a, v = .ref a
def x_Pf (ci k fk : Nat) : Prop := ∀ {p : Program} {l : Launch} {e : Env} {R : Room} {s : State} {m : MethodId} {args : Array Value} {below : List Frame} {meth : Method} {c : Code}, x_Cx cc own nL nm MC MS p R s m args meth c → ∀ {H H0 : Heap} {locs : List Loc} {cells slots : Nat} {Q : State → Prop} {ls : Array Slot} {rest : List Value} {D : va_G} {A : Nat → Prop} {tys : List (ClassId × FieldType)} {ws : va_W} {a q0 : Nat} {fs : List Value} {v : Value},
  va_K D cl tys s → va_P D cl ws H → va_D A ws → va_S A H0 H locs → ws[q0]? = some (a, .inr (ci, fs)) → k < fs.length → x_pk fk v → (∀ (H1 : Heap) (locs1 : List Loc), va_P D cl (ws.set q0 (a, .inr (ci, fs.set k v))) H1 → va_D A (ws.set q0 (a, .inr (ci, fs.set k v))) → va_S A H0 H1 locs1 → W p l e R s m args below meth c H1 locs1 cells slots Q (F0 m nx ls rest)) → W p l e R s m args below meth c H locs cells slots Q (F0 m pc ls (v :: .ref a :: rest))
def x_Nw (ci N : Nat) (fs : List Value) : Prop := ∀ {p : Program} {l : Launch} {e : Env} {R : Room} {s : State} {m : MethodId} {args : Array Value} {below : List Frame} {meth : Method} {c : Code}, x_Cx cc own nL nm MC MS p R s m args meth c → ∀ {H H0 : Heap} {locs : List Loc} {cells slots : Nat} {Q : State → Prop} {ls : Array Slot} {rest : List Value} {D : va_G} {A : Nat → Prop} {tys : List (ClassId × FieldType)} {ws : va_W}, (∀ q : Nat, H0.size ≤ q → A q) →
  va_K D cl tys s → va_P D cl ws H → va_D A ws → va_S A H0 H locs → cells + 1 ≤ MC → slots + N ≤ MS → (∀ (q : Nat) (H1 : Heap), va_P D cl (ws ++ [(q, .inr (ci, fs))]) H1 → va_D A (ws ++ [(q, .inr (ci, fs))]) → va_S A H0 H1 locs → W p l e R s m args below meth c H1 locs (cells + 1) (slots + N) Q (F0 m nx ls (.ref q :: rest))) → W p l e R s m args below meth c H locs cells slots Q (F0 m pc ls rest)
end XW6
def xi_getf (ci k nx : Nat) : xS → Option (List xS) := fun t => match t.2.2.1 with
  | (1, j, _) :: r => match x_at t.2.2.2.1 j.toNat with
    | some (0, c, n, d, o) => bif Nat.beq c ci && Nat.ble (k + 1) n then some [(nx, t.2.1, x_get d o k :: r, t.2.2.2)] else none
    | _ => none
  | _ => none
def x_pkb (tk : xT) (fk : Nat) (x : xV) : Bool := match fk with
  | 0 => Nat.beq (x_ty x) 0
  | 1 => match x_bi tk x with
    | some a => decide (0 ≤ a.1) && decide (a.2 ≤ 1)
    | none => false
  | _ => Nat.beq (x_ty x) 2
theorem x_pkb_ok {ad : List Nat} {V : List Int} {sc : Nat × Nat × List Nat} {tk : xT} {fk : Nat} {x : xV} {v : Value} (ht : x_tk tk V) (hr : x_rel ad V sc x v) (h : x_pkb tk fk x = true) : x_pk fk v := by
  unfold x_pkb at h
  unfold x_pk
  split at h
  · have := x_ty_ok hr
    rw [Nat.eq_of_beq_eq_true h] at this
    exact this
  · split at h
    · rename_i a ha
      obtain ⟨n, rfl, h1, h2⟩ := x_bi_ok ht ha hr
      simp only [Bool.and_eq_true, decide_eq_true_eq] at h
      have h3 : n.toInt = 0 ∨ n.toInt = 1 := by omega
      rcases h3 with h3 | h3
      · exact Or.inl (by rw [show n = 0 from Int32.toInt_inj.mp h3])
      · exact Or.inr (by rw [show n = 1 from Int32.toInt_inj.mp h3])
    · cases h
  · have := x_ty_ok hr
    rw [Nat.eq_of_beq_eq_true h] at this
    exact this
def xi_putf (ci k fk nx : Nat) : xS → Option (List xS) := fun t => match t.2.2.1 with
  | x :: (1, j, _) :: r => match x_at t.2.2.2.1 j.toNat with
    | some (0, c, n, d, o) => bif Nat.beq c ci && (Nat.ble (k + 1) n && x_pkb t.2.2.2.2.1 fk x) then some [(nx, t.2.1, r, x_up t.2.2.2.1 j.toNat (0, c, n, d, x_put d o k x), t.2.2.2.2)] else none
    | _ => none
  | _ => none
def xi_new (nc : xC) (MC MS nx : Nat) : xS → Option (List xS) := fun t =>
  bif Nat.ble (t.2.2.2.2.2.1 + 1) MC && Nat.ble (t.2.2.2.2.2.2 + nc.2.2.1) MS then some [(nx, t.2.1, (1, t.2.2.2.1.length, 0) :: t.2.2.1, t.2.2.2.1 ++ [nc], t.2.2.2.2.1, t.2.2.2.2.2.1 + 1, t.2.2.2.2.2.2 + nc.2.2.1)] else none
section X6
variable {cl : List vw_C} {K : xKx} {cc : ByteArray} {own : String} {nL : Nat} {nm : String} {MC MS pc nx : Nat}
theorem xi_getf_ok {ci k : Nat} (hw : x_Gf cl cc own nL nm MC MS pc nx ci k) : x_Snd cl K cc own nL nm MC MS pc (xi_getf ci k nx) := by
  intro V sc p l e R s m args below meth c D A H0 Q C hA hK t ts hpc hf hg
  unfold xi_getf at hf
  split at hf
  · rename_i j b r hst
    split at hf
    · rename_i c' n d o hcell
      cases hb : (Nat.beq c' ci && Nat.ble (k + 1) n) with
      | false => rw [hb] at hf; cases hf
      | true =>
        rw [hb] at hf
        cases hf
        subst hpc
        simp only [Bool.and_eq_true] at hb
        have e1 := Nat.eq_of_beq_eq_true hb.1
        have e2 := Nat.le_of_ble_eq_true hb.2
        subst e1
        intro ls stk H locs ⟨lv, ws, tys, h1, h2, h3, h4, h5, h6, h7, h8, h9⟩
        rw [hst] at h3
        match stk, h3 with
        | v1 :: rest, h3 =>
          obtain ⟨a, ee, hq, rfl, hc⟩ := x_ref h4 h3.1 hcell
          obtain ⟨fs, rfl, hl, hv⟩ := hc
          obtain ⟨v, hv1, hv2⟩ := hv k e2
          exact hw C h5 h6 hq hv1 (hg _ List.mem_cons_self ls (v :: rest) H locs ⟨lv, ws, tys, h1, h2, ⟨hv2, h3.2⟩, h4, h5, h6, h7, h8, h9⟩)
    · cases hf
  · cases hf
theorem xi_putf_ok {ci k fk : Nat} (hw : x_Pf cl cc own nL nm MC MS pc nx ci k fk) : x_Snd cl K cc own nL nm MC MS pc (xi_putf ci k fk nx) := by
  intro V sc p l e R s m args below meth c D A H0 Q C hA hK t ts hpc hf hg
  unfold xi_putf at hf
  split at hf
  · rename_i x j b r hst
    split at hf
    · rename_i c' n d o hcell
      cases hb : (Nat.beq c' ci && (Nat.ble (k + 1) n && x_pkb t.2.2.2.2.1 fk x)) with
      | false => rw [hb] at hf; cases hf
      | true =>
        rw [hb] at hf
        cases hf
        subst hpc
        simp only [Bool.and_eq_true] at hb
        have e1 := Nat.eq_of_beq_eq_true hb.1
        have e2 := Nat.le_of_ble_eq_true hb.2.1
        subst e1
        intro ls stk H locs ⟨lv, ws, tys, h1, h2, h3, h4, h5, h6, h7, h8, h9⟩
        rw [hst] at h3
        match stk, h3 with
        | v0 :: v1 :: rest, h3 =>
          obtain ⟨a, ee, hq, rfl, hc⟩ := x_ref h4 h3.2.1 hcell
          obtain ⟨fs, rfl, hl, hv⟩ := hc
          simp only at hl hv hq
          refine hw C h5 h6 h7 h8 hq (by rw [hl]; exact e2) (x_pkb_ok h9 h3.1 hb.2.2) (fun H1 locs1 hP hD hS => hg _ List.mem_cons_self ls rest H1 locs1 ⟨lv, _, tys, h1, ?_, ?_, x_world_set h4 hq ?_, h5, hP, hD, hS, h9⟩)
          · rw [x_fst_set hq]; exact h2
          · rw [x_fst_set hq]; exact h3.2.2
          · refine ⟨fs.set k v0, rfl, by rw [List.length_set]; exact hl, fun i hi => ?_⟩
            simp only at hi
            simp only [x_get_put]
            by_cases hik : i = k
            · subst hik
              exact ⟨v0, by rw [List.getElem?_set_self (by rw [hl]; exact hi)], by rw [if_pos rfl]; exact h3.1⟩
            · obtain ⟨v, g1, g2⟩ := hv i hi
              exact ⟨v, by rw [List.getElem?_set_ne (Ne.symm hik)]; exact g1, by rw [if_neg hik]; exact g2⟩
    · cases hf
  · cases hf
theorem xi_new_ok {nc : xC} {ci N : Nat} {fs : List Value} (hn : nc.2.2.1 = N) (hc : ∀ ad V sc tys, x_cell cl ad V sc tys nc (.inr (ci, fs))) (hw : x_Nw cl cc own nL nm MC MS pc nx ci N fs) : x_Snd cl K cc own nL nm MC MS pc (xi_new nc MC MS nx) := by
  intro V sc p l e R s m args below meth c D A H0 Q C hA hK t ts hpc hf hg
  unfold xi_new at hf
  cases hb : (Nat.ble (t.2.2.2.2.2.1 + 1) MC && Nat.ble (t.2.2.2.2.2.2 + nc.2.2.1) MS) with
  | false => rw [hb] at hf; cases hf
  | true =>
    rw [hb] at hf
    cases hf
    subst hpc
    subst hn
    simp only [Bool.and_eq_true] at hb
    intro ls stk H locs ⟨lv, ws, tys, h1, h2, h3, h4, h5, h6, h7, h8, h9⟩
    refine hw C hA h5 h6 h7 h8 (Nat.le_of_ble_eq_true hb.1) (Nat.le_of_ble_eq_true hb.2) (fun q H1 hP hD hS => hg _ List.mem_cons_self ls (.ref q :: stk) H1 locs ⟨lv, _, tys, h1, ?_, ⟨?_, ?_⟩, ?_, h5, hP, hD, hS, h9⟩)
    · rw [List.map_append]; exact x_lv_app h2
    · refine ⟨q, ?_, rfl⟩
      simp only [Int.toNat_natCast]
      rw [h4.1]
      simp
    · rw [List.map_append]; exact x_stk_app h3
    · have h := x_world_app (tys' := []) (w' := [nc]) (ws' := [(q, .inr (ci, fs))]) h4 rfl (fun k x y hx hy => by
        have hk : k < 1 := (List.getElem?_eq_some_iff.mp hx).1
        rw [show k = 0 by omega] at hx hy
        cases hx
        cases hy
        exact hc _ _ _ _)
      rw [List.append_nil] at h
      exact h
end X6
end
end
section
noncomputable section
/-! arrays -/
def x_join (x y : xV) : Option xV := match x.1, y.1 with
  | 0, 0 => some (0, x_min x.2.1 y.2.1, x_max x.2.2 y.2.2)
  | _, _ => none
theorem x_min_l {a b x : Int} (h : a ≤ x) : x_min a b ≤ x := by
  unfold x_min
  cases hc : decide (a ≤ b) with
  | true => exact h
  | false => simp only [decide_eq_false_iff_not] at hc; show b ≤ x; omega
theorem x_min_r {a b x : Int} (h : b ≤ x) : x_min a b ≤ x := by
  unfold x_min
  cases hc : decide (a ≤ b) with
  | true => simp only [decide_eq_true_eq] at hc; show a ≤ x; omega
  | false => exact h
theorem x_max_l {a b x : Int} (h : x ≤ a) : x ≤ x_max a b := by
  unfold x_max
  cases hc : decide (a ≤ b) with
  | true => simp only [decide_eq_true_eq] at hc; show x ≤ b; omega
  | false => exact h
theorem x_max_r {a b x : Int} (h : x ≤ b) : x ≤ x_max a b := by
  unfold x_max
  cases hc : decide (a ≤ b) with
  | true => exact h
  | false => simp only [decide_eq_false_iff_not] at hc; show x ≤ a; omega
theorem x_join_l {ad : List Nat} {V : List Int} {sc : Nat × Nat × List Nat} {x y z : xV} {v : Value} (h : x_join x y = some z) (hr : x_rel ad V sc x v) : x_rel ad V sc z v := by
  obtain ⟨t, a, b⟩ := x
  obtain ⟨t', a', b'⟩ := y
  unfold x_join at h
  split at h
  · rename_i h1 h2
    simp only at h1 h2
    subst h1
    cases h
    obtain ⟨n, rfl, h3, h4⟩ := hr
    exact ⟨n, rfl, x_min_l h3, x_max_l h4⟩
  · cases h
theorem x_join_r {ad : List Nat} {V : List Int} {sc : Nat × Nat × List Nat} {x y z : xV} {v : Value} (h : x_join x y = some z) (hr : x_rel ad V sc y v) : x_rel ad V sc z v := by
  obtain ⟨t, a, b⟩ := x
  obtain ⟨t', a', b'⟩ := y
  unfold x_join at h
  split at h
  · rename_i h1 h2
    simp only at h1 h2
    subst h2
    cases h
    obtain ⟨n, rfl, h3, h4⟩ := hr
    exact ⟨n, rfl, x_min_r h3, x_max_r h4⟩
  · cases h
/-- what stands at the places lo .. lo + n, together -/
def x_rgn (d : xV) (o : xA) (lo : Nat) : Nat → Option xV
  | 0 => some (x_get d o lo)
  | n + 1 => match x_rgn d o lo n with
    | some y => x_join y (x_get d o (lo + n + 1))
    | none => none
theorem x_rgn_ok {ad : List Nat} {V : List Int} {sc : Nat × Nat × List Nat} {d : xV} {o : xA} {lo : Nat} {v : Value} : ∀ {n : Nat} {z : xV}, x_rgn d o lo n = some z → ∀ k, lo ≤ k → k ≤ lo + n → x_rel ad V sc (x_get d o k) v → x_rel ad V sc z v
  | 0, z, h, k, h1, h2, hr => by
    cases h
    rw [show k = lo by omega] at hr
    exact hr
  | n + 1, z, h, k, h1, h2, hr => by
    unfold x_rgn at h
    split at h
    · rename_i y hy
      by_cases hk : k = lo + n + 1
      · subst hk
        exact x_join_r h hr
      · exact x_join_l h (x_rgn_ok hy k h1 (by omega) hr)
    · cases h
def x_hul : xV → xA → Option xV
  | z, [] => some z
  | z, q :: r => match x_join z q.2 with
    | some y => x_hul y r
    | none => none
theorem x_hul_l {ad : List Nat} {V : List Int} {sc : Nat × Nat × List Nat} {v : Value} : ∀ {o : xA} {z y : xV}, x_hul z o = some y → x_rel ad V sc z v → x_rel ad V sc y v
  | [], z, y, h, hr => by cases h; exact hr
  | q :: r, z, y, h, hr => by
    unfold x_hul at h
    split at h
    · rename_i y' hy
      exact x_hul_l h (x_join_l hy hr)
    · cases h
theorem x_hul_ok {ad : List Nat} {V : List Int} {sc : Nat × Nat × List Nat} {v : Value} {d : xV} : ∀ {o : xA} {z y : xV}, x_hul z o = some y → (∀ v, x_rel ad V sc d v → x_rel ad V sc z v) → ∀ k, x_rel ad V sc (x_get d o k) v → x_rel ad V sc y v
  | [], z, y, h, hz, k, hr => by cases h; exact hz v hr
  | q :: r, z, y, h, hz, k, hr => by
    unfold x_hul at h
    split at h
    · rename_i y' hy
      rw [x_get_cons] at hr
      cases hb : Nat.beq q.1 k with
      | true =>
        rw [hb] at hr
        exact x_hul_l h (x_join_r hy hr)
      | false =>
        rw [hb] at hr
        exact x_hul_ok h (fun v h => x_join_l hy (hz v h)) k hr
    · cases h
/-- the kinds of arrays that an instruction is for: false iaload, true baload -/
def x_akd (b : Bool) (kd : Nat) : Bool := match b with
  | false => Nat.beq kd 1
  | true => Nat.beq kd 2 || Nat.beq kd 3
def x_aty (kd : Nat) : FieldType := match kd with
  | 1 => .int
  | 2 => .byte
  | _ => .boolean
theorem x_arr {cl : List vw_C} {ad : List Nat} {V : List Int} {sc : Nat × Nat × List Nat} {tys : List (ClassId × FieldType)} {b : Bool} {kd c n : Nat} {d : xV} {o : xA} {e : va_E} (hk : x_akd b kd = true) (h : x_cell cl ad V sc tys (kd, c, n, d, o) e) :
    ∃ (t0 : Nat) (cA : ClassId) (f : Nat → Int32), tys[t0]? = some (cA, x_aty kd) ∧ e = .inl (cA, n, .inl f) ∧ n < 2147483648 ∧ ∀ k, k < n → x_rel ad V sc (x_get d o k) (.int (f k)) := by
  unfold x_akd at hk
  split at hk
  · have := Nat.eq_of_beq_eq_true hk
    subst this
    exact h
  · simp only [Bool.or_eq_true] at hk
    rcases hk with hk | hk
    · have := Nat.eq_of_beq_eq_true hk
      subst this
      exact h
    · have := Nat.eq_of_beq_eq_true hk
      subst this
      exact h
theorem x_cell_arr {cl : List vw_C} {ad : List Nat} {V : List Int} {sc : Nat × Nat × List Nat} {tys : List (ClassId × FieldType)} {b : Bool} {kd c n : Nat} {d : xV} {o : xA} {e : va_E} (hk : x_akd b kd = true)
    (h : ∃ (t0 : Nat) (cA : ClassId) (f : Nat → Int32), tys[t0]? = some (cA, x_aty kd) ∧ e = .inl (cA, n, .inl f) ∧ n < 2147483648 ∧ ∀ k, k < n → x_rel ad V sc (x_get d o k) (.int (f k))) : x_cell cl ad V sc tys (kd, c, n, d, o) e := by
  unfold x_akd at hk
  split at hk
  · have := Nat.eq_of_beq_eq_true hk
    subst this
    exact h
  · simp only [Bool.or_eq_true] at hk
    rcases hk with hk | hk
    · have := Nat.eq_of_beq_eq_true hk
      subst this
      exact h
    · have := Nat.eq_of_beq_eq_true hk
      subst this
      exact h
theorem x_ix {i : Int32} {n : Nat} {lo hi : Int} (h0 : 0 ≤ lo) (hn : hi < n) (h1 : lo ≤ i.toInt) (h2 : i.toInt ≤ hi) : vp_in i n ∧ i.toNatClampNeg < n ∧ lo.toNat ≤ i.toNatClampNeg ∧ i.toNatClampNeg ≤ lo.toNat + (hi - lo).toNat := by
  have e : i.toNatClampNeg = i.toInt.toNat := rfl
  refine ⟨vp_in_iff.mpr ⟨by omega, by omega⟩, ?_, ?_, ?_⟩ <;> rw [e] <;> omega
section XW7
variable (cl : List vw_C) (cc : ByteArray) (own : String) (nL : Nat) (nm : String) (MC MS pc nx : Nat)
def x_Al (ty : FieldType) : Prop := ∀ {p : Program} {l : Launch} {e : Env} {R : Room} {s : State} {m : MethodId} {args : Array Value} {below : List Frame} {meth : Method} {c : Code}, x_Cx cc own nL nm MC MS p R s m args meth c → ∀ {H : Heap} {locs : List Loc} {cells slots : Nat} {Q : State → Prop} {ls : Array Slot} {rest : List Value} {D : va_G} {tys : List (ClassId × FieldType)} {ws : va_W} {a q0 t0 n : Nat} {cA : ClassId} {f : Nat → Int32} {i : Int32},
  va_K D cl tys s → va_P D cl ws H → ws[q0]? = some (a, .inl (cA, n, .inl f)) → tys[t0]? = some (cA, ty) → vp_in i n → W p l e R s m args below meth c H locs cells slots Q (F0 m nx ls (.int (f i.toNatClampNeg) :: rest)) → W p l e R s m args below meth c H locs cells slots Q (F0 m pc ls (.int i :: .ref a :: rest))
def x_As (ty : FieldType) : Prop := ∀ {p : Program} {l : Launch} {e : Env} {R : Room} {s : State} {m : MethodId} {args : Array Value} {below : List Frame} {meth : Method} {c : Code}, x_Cx cc own nL nm MC MS p R s m args meth c → ∀ {H H0 : Heap} {locs : List Loc} {cells slots : Nat} {Q : State → Prop} {ls : Array Slot} {rest : List Value} {D : va_G} {A : Nat → Prop} {tys : List (ClassId × FieldType)} {ws : va_W} {a q0 t0 n : Nat} {cA : ClassId} {f : Nat → Int32} {i x : Int32},
  va_K D cl tys s → va_P D cl ws H → va_D A ws → va_S A H0 H locs → ws[q0]? = some (a, .inl (cA, n, .inl f)) → tys[t0]? = some (cA, ty) → vp_in i n → (∀ (H1 : Heap) (locs1 : List Loc), va_P D cl (ws.set q0 (a, .inl (cA, n, .inl (upd f i.toNatClampNeg (vp_nar ty x))))) H1 → va_D A (ws.set q0 (a, .inl (cA, n, .inl (upd f i.toNatClampNeg (vp_nar ty x))))) → va_S A H0 H1 locs1 → W p l e R s m args below meth c H1 locs1 cells slots Q (F0 m nx ls rest)) → W p l e R s m args below meth c H locs cells slots Q (F0 m pc ls (.int x :: .int i :: .ref a :: rest))
end XW7
def xi_ald (b : Bool) (nx : Nat) : xS → Option (List xS) := fun t => match t.2.2.1 with
  | i :: (1, j, _) :: r => match x_bi t.2.2.2.2.1 i, x_at t.2.2.2.1 j.toNat with
    | some ib, some (kd, _, n, d, o) => bif x_akd b kd && (decide (0 ≤ ib.1) && decide (ib.2 < n)) then match x_rgn d o ib.1.toNat (ib.2 - ib.1).toNat with
      | some x => some [(nx, t.2.1, x :: r, t.2.2.2)]
      | none => none
      else none
    | _, _ => none
  | _ => none
/-- what of a value an array's cell keeps -/
def x_nrw (kd : Nat) (x : xV) (b : Int × Int) : xV × (Int × Int) := match kd with
  | 1 => (x, b)
  | 2 => bif decide (-128 ≤ b.1) && decide (b.2 ≤ 127) then (x, b) else ((0, -128, 127), (-128, 127))
  | _ => bif decide (0 ≤ b.1) && decide (b.2 ≤ 1) then (x, b) else ((0, 0, 1), (0, 1))
theorem x_nrw_ok {ad : List Nat} {V : List Int} {sc : Nat × Nat × List Nat} {kd : Nat} {x : xV} {b : Int × Int} {n : Int32} (hr : x_rel ad V sc x (.int n)) (h1 : b.1 ≤ n.toInt) (h2 : n.toInt ≤ b.2) : x_rel ad V sc (x_nrw kd x b).1 (.int (vp_nar (x_aty kd) n)) ∧ (x_nrw kd x b).2.1 ≤ (vp_nar (x_aty kd) n).toInt ∧ (vp_nar (x_aty kd) n).toInt ≤ (x_nrw kd x b).2.2 := by
  unfold x_nrw x_aty
  split
  · exact ⟨hr, h1, h2⟩
  · rw [vp_nar_byte]
    have e : (n.toInt8.toInt32).toInt = n.toInt.bmod 256 := by
      rw [Int8.toInt_toInt32, Int32.toInt_toInt8]
    cases hc : (decide (-128 ≤ b.1) && decide (b.2 ≤ 127)) with
    | true =>
      simp only [Bool.and_eq_true, decide_eq_true_eq] at hc
      have e2 : n.toInt8.toInt32 = n := Int32.toInt_inj.mp (by rw [e, Int.bmod_eq_of_le] <;> omega)
      rw [e2]
      exact ⟨hr, h1, h2⟩
    | false =>
      have h3 := Int.le_bmod (x := n.toInt) (m := 256) (by decide)
      have h4 := Int.bmod_lt (x := n.toInt) (m := 256) (by decide)
      rw [← e] at h3 h4
      exact ⟨⟨_, rfl, by show (-128 : Int) ≤ _; omega, by show _ ≤ (127 : Int); omega⟩, by show (-128 : Int) ≤ _; omega, by show _ ≤ (127 : Int); omega⟩
  · have e0 : vp_nar .boolean n = n &&& 1 := rfl
    rw [e0]
    obtain ⟨j, hj, ej⟩ := pk_andE n (m := 1) 1 (by decide)
    have e : (n &&& 1).toInt = j := by rw [ej]; exact nI_toInt (by omega)
    cases hc : (decide (0 ≤ b.1) && decide (b.2 ≤ 1)) with
    | true =>
      simp only [Bool.and_eq_true, decide_eq_true_eq] at hc
      have h3 : n.toInt = 0 ∨ n.toInt = 1 := by omega
      have e2 : n &&& 1 = n := by
        rcases h3 with h3 | h3
        · rw [show n = 0 from Int32.toInt_inj.mp h3]; decide
        · rw [show n = 1 from Int32.toInt_inj.mp h3]; decide
      rw [e2]
      exact ⟨hr, h1, h2⟩
    | false =>
      exact ⟨⟨_, rfl, by show (0 : Int) ≤ _; omega, by show _ ≤ (1 : Int); omega⟩, by show (0 : Int) ≤ _; omega, by show _ ≤ (1 : Int); omega⟩
def xi_ast (b : Bool) (nx : Nat) : xS → Option (List xS) := fun t => match t.2.2.1 with
  | x :: i :: (1, j, _) :: r => match x_bi t.2.2.2.2.1 i, x_bi t.2.2.2.2.1 x, x_at t.2.2.2.1 j.toNat with
    | some ib, some xb, some (kd, c, n, d, o) => bif x_akd b kd && (decide (0 ≤ ib.1) && decide (ib.2 < n)) then
      bif decide (ib.1 = ib.2) then some [(nx, t.2.1, r, x_up t.2.2.2.1 j.toNat (kd, c, n, d, x_put d o ib.1.toNat (x_nrw kd x xb).1), t.2.2.2.2)]
      else match x_join d (0, (x_nrw kd x xb).2) with
        | some z => match x_hul z o with
          | some y => some [(nx, t.2.1, r, x_up t.2.2.2.1 j.toNat (kd, c, n, y, []), t.2.2.2.2)]
          | none => none
        | none => none
      else none
    | _, _, _ => none
  | _ => none
section X7
variable {cl : List vw_C} {K : xKx} {cc : ByteArray} {own : String} {nL : Nat} {nm : String} {MC MS pc nx : Nat}
theorem xi_ald_ok {b : Bool} (hw : ∀ kd, x_akd b kd = true → x_Al cl cc own nL nm MC MS pc nx (x_aty kd)) : x_Snd cl K cc own nL nm MC MS pc (xi_ald b nx) := by
  intro V sc p l e R s m args below meth c D A H0 Q C hA hK t ts hpc hf hg
  unfold xi_ald at hf
  split at hf
  · rename_i i j jb r hst
    split at hf
    · rename_i ib kd cN n d o hib hcell
      cases hb : (x_akd b kd && (decide (0 ≤ ib.1) && decide (ib.2 < n))) with
      | false => rw [hb] at hf; cases hf
      | true =>
        rw [hb] at hf
        simp only [cond_true] at hf
        split at hf
        · rename_i x hx
          cases hf
          subst hpc
          simp only [Bool.and_eq_true, decide_eq_true_eq] at hb
          intro ls stk H locs ⟨lv, ws, tys, h1, h2, h3, h4, h5, h6, h7, h8, h9⟩
          rw [hst] at h3
          match stk, h3 with
          | v1 :: v2 :: rest, h3 =>
            obtain ⟨ni, rfl, i1, i2⟩ := x_bi_ok h9 hib h3.1
            obtain ⟨a, ee, hq, rfl, hc⟩ := x_ref h4 h3.2.1 hcell
            obtain ⟨t0, cA, f, g1, rfl, g2, g3⟩ := x_arr hb.1 hc
            obtain ⟨k1, k2, k3, k4⟩ := x_ix hb.2.1 hb.2.2 i1 i2
            exact hw kd hb.1 C h5 h6 hq g1 k1 (hg _ List.mem_cons_self ls (.int (f ni.toNatClampNeg) :: rest) H locs ⟨lv, ws, tys, h1, h2, ⟨x_rgn_ok hx _ k3 k4 (g3 _ k2), h3.2.2⟩, h4, h5, h6, h7, h8, h9⟩)
        · cases hf
    · cases hf
  · cases hf
theorem xi_ast_ok {b : Bool} (hw : ∀ kd, x_akd b kd = true → x_As cl cc own nL nm MC MS pc nx (x_aty kd)) : x_Snd cl K cc own nL nm MC MS pc (xi_ast b nx) := by
  intro V sc p l e R s m args below meth c D A H0 Q C hA hK t ts hpc hf hg
  unfold xi_ast at hf
  split at hf
  · rename_i x i j jb r hst
    split at hf
    · rename_i ib xb kd cN n d o hib hxb hcell
      cases hb : (x_akd b kd && (decide (0 ≤ ib.1) && decide (ib.2 < n))) with
      | false => rw [hb] at hf; cases hf
      | true =>
        rw [hb] at hf
        simp only [cond_true] at hf
        subst hpc
        simp only [Bool.and_eq_true, decide_eq_true_eq] at hb
        intro ls stk H locs ⟨lv, ws, tys, h1, h2, h3, h4, h5, h6, h7, h8, h9⟩
        rw [hst] at h3
        match stk, h3 with
        | v0 :: v1 :: v2 :: rest, h3 =>
          obtain ⟨nx', rfl, x1, x2⟩ := x_bi_ok h9 hxb h3.1
          obtain ⟨ni, rfl, i1, i2⟩ := x_bi_ok h9 hib h3.2.1
          obtain ⟨a, ee, hq, rfl, hc⟩ := x_ref h4 h3.2.2.1 hcell
          obtain ⟨t0, cA, f, g1, rfl, g2, g3⟩ := x_arr hb.1 hc
          obtain ⟨k1, k2, k3, k4⟩ := x_ix hb.2.1 hb.2.2 i1 i2
          obtain ⟨n1, n2, n3⟩ := x_nrw_ok (kd := kd) h3.1 x1 x2
          cases hd : decide (ib.1 = ib.2) with
          | true =>
            rw [hd] at hf
            cases hf
            simp only [decide_eq_true_eq] at hd
            refine hw kd hb.1 C h5 h6 h7 h8 hq g1 k1 (fun H1 locs1 hP hD hS => hg _ List.mem_cons_self ls rest H1 locs1 ⟨lv, _, tys, h1, ?_, ?_, x_world_set h4 hq (x_cell_arr hb.1 ⟨t0, cA, _, g1, rfl, g2, fun k hk => ?_⟩), h5, hP, hD, hS, h9⟩)
            · rw [x_fst_set hq]; exact h2
            · rw [x_fst_set hq]; exact h3.2.2.2
            · rw [x_get_put]
              have ek : ni.toNatClampNeg = ib.1.toNat := by omega
              rw [ek]
              by_cases hik : k = ib.1.toNat
              · rw [if_pos hik]
                simp only [upd, hik, if_pos]
                exact n1
              · rw [if_neg hik]
                simp only [upd, if_neg hik]
                exact g3 k hk
          | false =>
            rw [hd] at hf
            simp only [cond_false] at hf
            split at hf
            · rename_i z hz
              split at hf
              · rename_i y hy
                cases hf
                refine hw kd hb.1 C h5 h6 h7 h8 hq g1 k1 (fun H1 locs1 hP hD hS => hg _ List.mem_cons_self ls rest H1 locs1 ⟨lv, _, tys, h1, ?_, ?_, x_world_set h4 hq (x_cell_arr hb.1 ⟨t0, cA, _, g1, rfl, g2, fun k hk => ?_⟩), h5, hP, hD, hS, h9⟩)
                · rw [x_fst_set hq]; exact h2
                · rw [x_fst_set hq]; exact h3.2.2.2
                · unfold x_get
                  by_cases hik : k = ni.toNatClampNeg
                  · simp only [upd, if_pos hik]
                    exact x_hul_l hy (x_join_r hz ⟨_, rfl, n2, n3⟩)
                  · simp only [upd, if_neg hik]
                    exact x_hul_ok hy (fun v h => x_join_l hz h) k (g3 k hk)
              · cases hf
            · cases hf
    · cases hf
  · cases hf
end X7
end
end
section
noncomputable section
/-! arrays of references, lengths, new arrays, the stack, switches -/
section XW8
variable (cl : List vw_C) (cc : ByteArray) (own : String) (nL : Nat) (nm : String) (MC MS pc nx : Nat)
def x_Aq : Prop := ∀ {p : Program} {l : Launch} {e : Env} {R : Room} {s : State} {m : MethodId} {args : Array Value} {below : List Frame} {meth : Method} {c : Code}, x_Cx cc own nL nm MC MS p R s m args meth c → ∀ {H : Heap} {locs : List Loc} {cells slots : Nat} {Q : State → Prop} {ls : Array Slot} {rest : List Value} {D : va_G} {tys : List (ClassId × FieldType)} {ws : va_W} {a q0 t0 n : Nat} {cA : ClassId} {f : Nat → Option Nat} {i : Int32} {ty : FieldType}, ty.isReference = true →
  va_K D cl tys s → va_P D cl ws H → ws[q0]? = some (a, .inl (cA, n, .inr (.inr (.inr (.inr f))))) → tys[t0]? = some (cA, ty) → vp_in i n → W p l e R s m args below meth c H locs cells slots Q (F0 m nx ls (va_rf (f i.toNatClampNeg) :: rest)) → W p l e R s m args below meth c H locs cells slots Q (F0 m pc ls (.int i :: .ref a :: rest))
theorem x_aald {p : Program} {l : Launch} {e : Env} {R : Room} {s : State} {m : MethodId} {args : Array Value} {below : List Frame} {meth : Method} {c : Code} {H : Heap} {locs : List Loc} {cells slots : Nat} {Q : State → Prop} {ls : Array Slot} {rest : List Value} {D : va_G} {tys : List (ClassId × FieldType)} {ws : va_W} {a : Nat} {cl : List vw_C} {cc : ByteArray} {pc : Nat} (hexec : p.tables.exec = Jvm.exec) (hb : c.code = cc) (hK : va_K D cl tys s) (hP : va_P D cl ws H) (q0 t0 : Nat) {cA : ClassId} {ty : FieldType} (hty : ty.isReference = true) {n : Nat} {f : Nat → Option Nat} (ha : ws[q0]? = some (a, .inl (cA, n, .inr (.inr (.inr (.inr f)))))) (ht : tys[t0]? = some (cA, ty)) {i : Int32} (hin : vp_in i n) (hdg : decode cc pc = .ok (.aaload, 1))
    (kk : W p l e R s m args below meth c H locs cells slots Q (F0 m (pc + 1) ls (va_rf (f i.toNatClampNeg) :: rest))) : W p l e R s m args below meth c H locs cells slots Q (F0 m pc ls (.int i :: .ref a :: rest)) := by
  have hlt : i.toNatClampNeg < n := Nat.not_le.mp fun q => hin (Or.inr q)
  exact W.aald (v := va_rf (f i.toNatClampNeg)) (ty := ty) hexec hb (hP q0 _ ha) ((hK.2 t0 _ ht).1 n (fun j => va_rf (f j))) hty (fun q => by cases q) (by show ¬ (i < 0 ∨ (arrV _ _ _).slots.size ≤ _); rw [arrV_size]; exact hin) (by show (arrV _ _ _).slots[_]? = _; rw [arrV_read _ _ hlt]) rfl rfl hdg kk
def x_Aa : Prop := ∀ {p : Program} {l : Launch} {e : Env} {R : Room} {s : State} {m : MethodId} {args : Array Value} {below : List Frame} {meth : Method} {c : Code}, x_Cx cc own nL nm MC MS p R s m args meth c → ∀ {H H0 : Heap} {locs : List Loc} {cells slots : Nat} {Q : State → Prop} {ls : Array Slot} {rest : List Value} {D : va_G} {A : Nat → Prop} {tys : List (ClassId × FieldType)} {ws : va_W} {a q0 t0 qk ci n v : Nat} {vs : List Value} {cA : ClassId} {r : vw_C} {f : Nat → Option Nat} {i : Int32},
  va_K D cl tys s → va_P D cl ws H → va_D A ws → va_S A H0 H locs → ws[q0]? = some (a, .inl (cA, n, .inr (.inr (.inr (.inr f))))) → tys[t0]? = some (cA, .object r.1) → ws[qk]? = some (v, .inr (ci, vs)) → cl[ci]? = some r → vp_in i n → (∀ (H1 : Heap) (locs1 : List Loc), va_P D cl (ws.set q0 (a, .inl (cA, n, .inr (.inr (.inr (.inr (va_up f i.toNatClampNeg (some v)))))))) H1 → va_D A (ws.set q0 (a, .inl (cA, n, .inr (.inr (.inr (.inr (va_up f i.toNatClampNeg (some v)))))))) → va_S A H0 H1 locs1 → W p l e R s m args below meth c H1 locs1 cells slots Q (F0 m nx ls rest)) → W p l e R s m args below meth c H locs cells slots Q (F0 m pc ls (.ref v :: .int i :: .ref a :: rest))
def x_Ln : Prop := ∀ {p : Program} {l : Launch} {e : Env} {R : Room} {s : State} {m : MethodId} {args : Array Value} {below : List Frame} {meth : Method} {c : Code}, x_Cx cc own nL nm MC MS p R s m args meth c → ∀ {H : Heap} {locs : List Loc} {cells slots : Nat} {Q : State → Prop} {ls : Array Slot} {rest : List Value} {D : va_G} {tys : List (ClassId × FieldType)} {ws : va_W} {a q0 t0 : Nat} {cA : ClassId} {x : vp_A} {ty : FieldType},
  va_K D cl tys s → va_P D cl ws H → ws[q0]? = some (a, .inl (cA, x)) → tys[t0]? = some (cA, ty) → W p l e R s m args below meth c H locs cells slots Q (F0 m nx ls (.int (Int32.ofNat x.1) :: rest)) → W p l e R s m args below meth c H locs cells slots Q (F0 m pc ls (.ref a :: rest))
/-- a new array of numbers -/
def x_Na (ty : FieldType) : Prop := ∀ {p : Program} {l : Launch} {e : Env} {R : Room} {s : State} {m : MethodId} {args : Array Value} {below : List Frame} {meth : Method} {c : Code}, x_Cx cc own nL nm MC MS p R s m args meth c → ∀ {H H0 : Heap} {locs : List Loc} {cells slots : Nat} {Q : State → Prop} {ls : Array Slot} {rest : List Value} {D : va_G} {A : Nat → Prop} {tys : List (ClassId × FieldType)} {ws : va_W} {n : Int32} {N : Nat}, (∀ q : Nat, H0.size ≤ q → A q) →
  va_K D cl tys s → va_P D cl ws H → va_D A ws → va_S A H0 H locs → ¬ n < 0 → n.toNatClampNeg = N → N ≤ 67108864 → cells + 1 ≤ MC → slots + N ≤ MS → (∀ (q : Nat) (cA : ClassId) (H1 : Heap), va_K D cl (tys ++ [(cA, ty)]) s → va_P D cl (ws ++ [(q, .inl (cA, N, .inl (fun _ => 0)))]) H1 → va_D A (ws ++ [(q, .inl (cA, N, .inl (fun _ => 0)))]) → va_S A H0 H1 locs → W p l e R s m args below meth c H1 locs (cells + 1) (slots + N) Q (F0 m nx ls (.ref q :: rest))) → W p l e R s m args below meth c H locs cells slots Q (F0 m pc ls (.int n :: rest))
/-- a new array of references -/
def x_Nq (C : String) : Prop := ∀ {p : Program} {l : Launch} {e : Env} {R : Room} {s : State} {m : MethodId} {args : Array Value} {below : List Frame} {meth : Method} {c : Code}, x_Cx cc own nL nm MC MS p R s m args meth c → ∀ {H H0 : Heap} {locs : List Loc} {cells slots : Nat} {Q : State → Prop} {ls : Array Slot} {rest : List Value} {D : va_G} {A : Nat → Prop} {tys : List (ClassId × FieldType)} {ws : va_W} {n : Int32} {N : Nat}, (∀ q : Nat, H0.size ≤ q → A q) →
  va_K D cl tys s → va_P D cl ws H → va_D A ws → va_S A H0 H locs → ¬ n < 0 → n.toNatClampNeg = N → N ≤ 67108864 → cells + 1 ≤ MC → slots + N ≤ MS → (∀ (q : Nat) (cA : ClassId) (H1 : Heap), va_K D cl (tys ++ [(cA, .object C)]) s → va_P D cl (ws ++ [(q, .inl (cA, N, .inr (.inr (.inr (.inr (fun _ => none))))))]) H1 → va_D A (ws ++ [(q, .inl (cA, N, .inr (.inr (.inr (.inr (fun _ => none))))))]) → va_S A H0 H1 locs → W p l e R s m args below meth c H1 locs (cells + 1) (slots + N) Q (F0 m nx ls (.ref q :: rest))) → W p l e R s m args below meth c H locs cells slots Q (F0 m pc ls (.int n :: rest))
def x_Sw (x : Int32) (tg : Nat) : Prop := ∀ {p : Program} {l : Launch} {e : Env} {R : Room} {s : State} {m : MethodId} {args : Array Value} {below : List Frame} {meth : Method} {c : Code}, CallFix p m c cc nL s args x_tbl own → ∀ {H : Heap} {locs : List Loc} {cells slots : Nat} {Q : State → Prop} {ls : Array Slot} {rest : List Value},
  W p l e R s m args below meth c H locs cells slots Q (F0 m tg ls rest) → W p l e R s m args below meth c H locs cells slots Q (F0 m pc ls (.int x :: rest))
end XW8
def xi_aald (nx : Nat) : xS → Option (List xS) := fun t => match t.2.2.1 with
  | i :: (1, j, _) :: r => match x_bi t.2.2.2.2.1 i, x_at t.2.2.2.1 j.toNat with
    | some ib, some (kd, _, n, d, o) => bif (Nat.beq kd 5 || Nat.beq kd 6) && (decide (0 ≤ ib.1) && (decide (ib.2 < n) && decide (ib.1 = ib.2))) then some [(nx, t.2.1, x_get d o ib.1.toNat :: r, t.2.2.2)] else none
    | _, _ => none
  | _ => none
def xi_aast (nx : Nat) : xS → Option (List xS) := fun t => match t.2.2.1 with
  | (1, v, vb) :: i :: (1, j, _) :: r => match x_bi t.2.2.2.2.1 i, x_at t.2.2.2.1 j.toNat, x_at t.2.2.2.1 v.toNat with
    | some ib, some (5, c, n, d, o), some (0, ci, _) => bif Nat.beq c ci && (decide (0 ≤ ib.1) && (decide (ib.2 < n) && decide (ib.1 = ib.2))) then some [(nx, t.2.1, r, x_up t.2.2.2.1 j.toNat (5, c, n, d, x_put d o ib.1.toNat (1, v, vb)), t.2.2.2.2)] else none
    | _, _, _ => none
  | _ => none
def xi_alen (nx : Nat) : xS → Option (List xS) := fun t => match t.2.2.1 with
  | (1, j, _) :: r => match x_at t.2.2.2.1 j.toNat with
    | some (kd, _, n, _, _) => bif Nat.beq kd 0 then none else some [(nx, t.2.1, (0, (n : Int), (n : Int)) :: r, t.2.2.2)]
    | none => none
  | _ => none
/-- a new array of kind kd (1, 2, 3: numbers; 5: references to objects of class c) -/
def xi_newa (kd c : Nat) (d : xV) (MC MS nx : Nat) : xS → Option (List xS) := fun t => match t.2.2.1 with
  | n :: r => match x_bi t.2.2.2.2.1 n with
    | some b => bif decide (b.1 = b.2) && (decide (0 ≤ b.1) && (decide (b.1 ≤ 67108864) && (Nat.ble (t.2.2.2.2.2.1 + 1) MC && Nat.ble (t.2.2.2.2.2.2 + b.1.toNat) MS))) then some [(nx, t.2.1, (1, t.2.2.2.1.length, 0) :: r, t.2.2.2.1 ++ [(kd, c, b.1.toNat, d, [])], t.2.2.2.2.1, t.2.2.2.2.2.1 + 1, t.2.2.2.2.2.2 + b.1.toNat)] else none
    | none => none
  | [] => none
/-- the top of the stack: places of the old one in the new one -/
def xi_stk (f : List xV → Option (List xV)) (nx : Nat) : xS → Option (List xS) := fun t => match f t.2.2.1 with
  | some st => some [(nx, t.2.1, st, t.2.2.2)]
  | none => none
def xf_dup (st : List xV) : Option (List xV) := match st with
  | x :: r => bif Nat.beq (x_ty x) 1 then none else some (x :: x :: r)
  | _ => none
def xf_pop (st : List xV) : Option (List xV) := match st with
  | x :: r => bif Nat.beq (x_ty x) 1 then none else some r
  | _ => none
def xf_dup2 (st : List xV) : Option (List xV) := match st with
  | x :: y :: r => bif Nat.beq (x_ty x) 1 || Nat.beq (x_ty y) 1 then none else some (x :: y :: x :: y :: r)
  | _ => none
def xf_dupx1 (st : List xV) : Option (List xV) := match st with
  | x :: y :: r => bif Nat.beq (x_ty x) 1 || Nat.beq (x_ty y) 1 then none else some (x :: y :: x :: r)
  | _ => none
def xf_dupx2 (st : List xV) : Option (List xV) := match st with
  | x :: y :: z :: r => bif Nat.beq (x_ty x) 1 || (Nat.beq (x_ty y) 1 || Nat.beq (x_ty z) 1) then none else some (x :: y :: z :: x :: r)
  | _ => none
/-- one arm of a switch -/
def x_arm (t : xS) (x : xV) (b : Int × Int) (r : List xV) (lo hi : Int) (tg : Nat) : List xS :=
  bif decide (b.1 ≤ hi) && decide (lo ≤ b.2) then [(tg, t.2.1, r, t.2.2.2.1, x_setb t.2.2.2.2.1 x (x_max b.1 lo, x_min b.2 hi), t.2.2.2.2.2)] else []
def x_arms (t : xS) (x : xV) (b : Int × Int) (r : List xV) : List (Int × Int × Nat) → List xS
  | [] => []
  | q :: l => x_arm t x b r q.1 q.2.1 q.2.2 ++ x_arms t x b r l
/-- a switch: ranges of the number and where they lead; together they are all numbers -/
def xi_sw (l : List (Int × Int × Nat)) : xS → Option (List xS) := fun t => match t.2.2.1 with
  | x :: r => match x_bi t.2.2.2.2.1 x with
    | some b => some (x_arms t x b r l)
    | none => none
  | [] => none
theorem x_arms_in {t : xS} {x : xV} {b : Int × Int} {r : List xV} {q : Int × Int × Nat} {n : Int} (h1 : b.1 ≤ n) (h2 : n ≤ b.2) (h3 : q.1 ≤ n) (h4 : n ≤ q.2.1) : ∀ {l : List (Int × Int × Nat)}, q ∈ l → (q.2.2, t.2.1, r, t.2.2.2.1, x_setb t.2.2.2.2.1 x (x_max b.1 q.1, x_min b.2 q.2.1), t.2.2.2.2.2) ∈ x_arms t x b r l
  | [], h => absurd h List.not_mem_nil
  | q' :: l, h => by
    unfold x_arms
    rcases List.mem_cons.mp h with rfl | h
    · refine List.mem_append_left _ ?_
      unfold x_arm
      rw [show (decide (b.1 ≤ q.2.1) && decide (q.1 ≤ b.2)) = true by simp only [Bool.and_eq_true, decide_eq_true_eq]; omega]
      exact List.mem_cons_self
    · exact List.mem_append_right _ (x_arms_in h1 h2 h3 h4 h)
theorem x_vrf {ad : List Nat} {V : List Int} {sc : Nat × Nat × List Nat} {x : xV} {f : Option Nat} (h : x_rel ad V sc x (va_rf f)) : True := trivial
section X8
variable {cl : List vw_C} {K : xKx} {cc : ByteArray} {own : String} {nL : Nat} {nm : String} {MC MS pc nx : Nat}
theorem xi_aald_ok (hw : x_Aq cl cc own nL nm MC MS pc nx) : x_Snd cl K cc own nL nm MC MS pc (xi_aald nx) := by
  intro V sc p l e R s m args below meth c D A H0 Q C hA hK t ts hpc hf hg
  unfold xi_aald at hf
  split at hf
  · rename_i i j jb r hst
    split at hf
    · rename_i ib kd cN n d o hib hcell
      cases hb : ((Nat.beq kd 5 || Nat.beq kd 6) && (decide (0 ≤ ib.1) && (decide (ib.2 < n) && decide (ib.1 = ib.2)))) with
      | false => rw [hb] at hf; cases hf
      | true =>
        rw [hb] at hf
        cases hf
        subst hpc
        simp only [Bool.and_eq_true, decide_eq_true_eq, Bool.or_eq_true] at hb
        intro ls stk H locs ⟨lv, ws, tys, h1, h2, h3, h4, h5, h6, h7, h8, h9⟩
        rw [hst] at h3
        match stk, h3 with
        | v1 :: v2 :: rest, h3 =>
          obtain ⟨ni, rfl, i1, i2⟩ := x_bi_ok h9 hib h3.1
          obtain ⟨a, ee, hq, rfl, hc⟩ := x_ref h4 h3.2.1 hcell
          obtain ⟨k1, k2, k3, k4⟩ := x_ix hb.2.1 hb.2.2.1 i1 i2
          have ek : ni.toNatClampNeg = ib.1.toNat := by omega
          rcases hb.1 with hk | hk
          · have := Nat.eq_of_beq_eq_true hk
            subst this
            obtain ⟨t0, cA, r', f, g0, g1, rfl, g2, g3⟩ := hc
            exact hw C rfl h5 h6 hq g1 k1 (hg _ List.mem_cons_self ls (va_rf (f ni.toNatClampNeg) :: rest) H locs ⟨lv, ws, tys, h1, h2, ⟨by rw [ek]; exact g3 _ (by rw [← ek]; exact k2), h3.2.2⟩, h4, h5, h6, h7, h8, h9⟩)
          · have := Nat.eq_of_beq_eq_true hk
            subst this
            obtain ⟨t0, cA, f, g1, rfl, g2, g3⟩ := hc
            exact hw C rfl h5 h6 hq g1 k1 (hg _ List.mem_cons_self ls (va_rf (f ni.toNatClampNeg) :: rest) H locs ⟨lv, ws, tys, h1, h2, ⟨by rw [ek]; exact g3 _ (by rw [← ek]; exact k2), h3.2.2⟩, h4, h5, h6, h7, h8, h9⟩)
    · cases hf
  · cases hf
theorem xi_aast_ok (hw : x_Aa cl cc own nL nm MC MS pc nx) : x_Snd cl K cc own nL nm MC MS pc (xi_aast nx) := by
  intro V sc p l e R s m args below meth c D A H0 Q C hA hK t ts hpc hf hg
  unfold xi_aast at hf
  split at hf
  · rename_i v vb i j jb r hst
    split at hf
    · rename_i ib cN n d o ci vr hib hcell hcv
      cases hb : (Nat.beq cN ci && (decide (0 ≤ ib.1) && (decide (ib.2 < n) && decide (ib.1 = ib.2)))) with
      | false => rw [hb] at hf; cases hf
      | true =>
        rw [hb] at hf
        cases hf
        subst hpc
        simp only [Bool.and_eq_true, decide_eq_true_eq] at hb
        have ec := Nat.eq_of_beq_eq_true hb.1
        subst ec
        intro ls stk H locs ⟨lv, ws, tys, h1, h2, h3, h4, h5, h6, h7, h8, h9⟩
        rw [hst] at h3
        match stk, h3 with
        | v0 :: v1 :: v2 :: rest, h3 =>
          obtain ⟨ni, rfl, i1, i2⟩ := x_bi_ok h9 hib h3.2.1
          obtain ⟨a, ee, hq, rfl, hc⟩ := x_ref h4 h3.2.2.1 hcell
          have hr0 := h3.1
          obtain ⟨av, ev, hqv, rfl, hcv'⟩ := x_ref h4 h3.1 hcv
          obtain ⟨t0, cA, r', f, g0, g1, rfl, g2, g3⟩ := hc
          obtain ⟨fs, rfl, -, -⟩ := hcv'
          obtain ⟨k1, k2, k3, k4⟩ := x_ix hb.2.1 hb.2.2.1 i1 i2
          have ek : ni.toNatClampNeg = ib.1.toNat := by omega
          refine hw C h5 h6 h7 h8 hq g1 hqv g0 k1 (fun H1 locs1 hP hD hS => hg _ List.mem_cons_self ls rest H1 locs1 ⟨lv, _, tys, h1, ?_, ?_, x_world_set h4 hq ⟨t0, cA, r', _, g0, g1, rfl, g2, fun k hk => ?_⟩, h5, hP, hD, hS, h9⟩)
          · rw [x_fst_set hq]; exact h2
          · rw [x_fst_set hq]; exact h3.2.2.2
          · simp only [x_get_put]
            rw [ek]
            by_cases hik : k = ib.1.toNat
            · rw [if_pos hik]
              simp only [va_up, if_pos hik]
              exact hr0
            · rw [if_neg hik]
              simp only [va_up, if_neg hik]
              exact g3 k hk
    · cases hf
  · cases hf
theorem xi_alen_ok (hw : x_Ln cl cc own nL nm MC MS pc nx) : x_Snd cl K cc own nL nm MC MS pc (xi_alen nx) := by
  intro V sc p l e R s m args below meth c D A H0 Q C hA hK t ts hpc hf hg
  unfold xi_alen at hf
  split at hf
  · rename_i j jb r hst
    split at hf
    · rename_i kd cN n d o hcell
      cases hb : Nat.beq kd 0 with
      | true => rw [hb] at hf; cases hf
      | false =>
        rw [hb] at hf
        cases hf
        subst hpc
        intro ls stk H locs ⟨lv, ws, tys, h1, h2, h3, h4, h5, h6, h7, h8, h9⟩
        rw [hst] at h3
        match stk, h3 with
        | v2 :: rest, h3 =>
          obtain ⟨a, ee, hq, rfl, hc⟩ := x_ref h4 h3.1 hcell
          have key : ∃ (t0 : Nat) (cA : ClassId) (x : vp_A) (ty : FieldType), tys[t0]? = some (cA, ty) ∧ ee = .inl (cA, x) ∧ x.1 = n ∧ n < 2147483648 := by
            unfold x_cell at hc
            split at hc
            · rename_i h0; simp only at h0; subst h0; cases hb
            · obtain ⟨t0, cA, f, g1, g2, g3, -⟩ := hc
              exact ⟨t0, cA, _, _, g1, g2, rfl, g3⟩
            · obtain ⟨t0, cA, f, g1, g2, g3, -⟩ := hc
              exact ⟨t0, cA, _, _, g1, g2, rfl, g3⟩
            · obtain ⟨t0, cA, f, g1, g2, g3, -⟩ := hc
              exact ⟨t0, cA, _, _, g1, g2, rfl, g3⟩
            · obtain ⟨t0, cA, r', f, -, g1, g2, g3, -⟩ := hc
              exact ⟨t0, cA, _, _, g1, g2, rfl, g3⟩
            · obtain ⟨t0, cA, f, g1, g2, g3, -⟩ := hc
              exact ⟨t0, cA, _, _, g1, g2, rfl, g3⟩
            · exact hc.elim
          obtain ⟨t0, cA, x, ty, g1, rfl, rfl, g3⟩ := key
          have e := nI_toInt g3
          exact hw C h5 h6 hq g1 (hg _ List.mem_cons_self ls (.int (Int32.ofNat x.1) :: rest) H locs ⟨lv, ws, tys, h1, h2, ⟨⟨_, rfl, by show (x.1 : Int) ≤ (nI x.1).toInt; omega, by show (nI x.1).toInt ≤ (x.1 : Int); omega⟩, h3.2⟩, h4, h5, h6, h7, h8, h9⟩)
    · cases hf
  · cases hf
theorem x_const {b : Int × Int} {n : Int32} (e : b.1 = b.2) (h0 : 0 ≤ b.1) (h1 : b.1 ≤ n.toInt) (h2 : n.toInt ≤ b.2) : ¬ n < 0 ∧ n.toNatClampNeg = b.1.toNat := by
  have e1 : n.toInt = b.1 := by omega
  refine ⟨fun h => ?_, by show n.toInt.toNat = _; rw [e1]⟩
  have := Int32.lt_iff_toInt_lt.mp h
  rw [Int32.toInt_zero] at this
  omega
theorem xi_newa_ok {kd : Nat} {b : Bool} (hkd : x_akd b kd = true) (hw : x_Na cl cc own nL nm MC MS pc nx (x_aty kd)) : x_Snd cl K cc own nL nm MC MS pc (xi_newa kd 0 (0, 0, 0) MC MS nx) := by
  intro V sc p l e R s m args below meth c D A H0 Q C hA hK t ts hpc hf hg
  unfold xi_newa at hf
  split at hf
  · rename_i n r hst
    split at hf
    · rename_i bb hbb
      cases hb : (decide (bb.1 = bb.2) && (decide (0 ≤ bb.1) && (decide (bb.1 ≤ 67108864) && (Nat.ble (t.2.2.2.2.2.1 + 1) MC && Nat.ble (t.2.2.2.2.2.2 + bb.1.toNat) MS)))) with
      | false => rw [hb] at hf; cases hf
      | true =>
        rw [hb] at hf
        cases hf
        subst hpc
        simp only [Bool.and_eq_true, decide_eq_true_eq] at hb
        obtain ⟨b1, b2, b3, b4, b5⟩ := hb
        intro ls stk H locs ⟨lv, ws, tys, h1, h2, h3, h4, h5, h6, h7, h8, h9⟩
        rw [hst] at h3
        match stk, h3 with
        | v2 :: rest, h3 =>
          obtain ⟨ni, rfl, i1, i2⟩ := x_bi_ok h9 hbb h3.1
          obtain ⟨c1, c2⟩ := x_const b1 b2 i1 i2
          refine hw C hA h5 h6 h7 h8 c1 c2 (by omega) (Nat.le_of_ble_eq_true b4) (Nat.le_of_ble_eq_true b5) (fun q cA H1 hK1 hP hD hS => hg _ List.mem_cons_self ls (.ref q :: rest) H1 locs ⟨lv, _, _, h1, ?_, ⟨?_, ?_⟩, ?_, hK1, hP, hD, hS, h9⟩)
          · rw [List.map_append]; exact x_lv_app h2
          · refine ⟨q, ?_, rfl⟩
            simp only [Int.toNat_natCast]
            rw [h4.1]
            simp
          · rw [List.map_append]; exact x_stk_app h3.2
          · refine x_world_app h4 rfl (fun k x y hx hy => ?_)
            have hk : k < 1 := (List.getElem?_eq_some_iff.mp hx).1
            rw [show k = 0 by omega] at hx hy
            cases hx
            cases hy
            exact x_cell_arr hkd ⟨tys.length, cA, _, by simp, rfl, by omega, fun k hk => ⟨0, rfl, by show (0 : Int) ≤ Int32.toInt 0; decide, by show Int32.toInt 0 ≤ (0 : Int); decide⟩⟩
    · cases hf
  · cases hf
theorem xi_newq_ok {ci : Nat} {r : vw_C} (hr : cl[ci]? = some r) (hw : x_Nq cl cc own nL nm MC MS pc nx r.1) : x_Snd cl K cc own nL nm MC MS pc (xi_newa 5 ci (2, 0, 0) MC MS nx) := by
  intro V sc p l e R s m args below meth c D A H0 Q C hA hK t ts hpc hf hg
  unfold xi_newa at hf
  split at hf
  · rename_i n r' hst
    split at hf
    · rename_i bb hbb
      cases hb : (decide (bb.1 = bb.2) && (decide (0 ≤ bb.1) && (decide (bb.1 ≤ 67108864) && (Nat.ble (t.2.2.2.2.2.1 + 1) MC && Nat.ble (t.2.2.2.2.2.2 + bb.1.toNat) MS)))) with
      | false => rw [hb] at hf; cases hf
      | true =>
        rw [hb] at hf
        cases hf
        subst hpc
        simp only [Bool.and_eq_true, decide_eq_true_eq] at hb
        obtain ⟨b1, b2, b3, b4, b5⟩ := hb
        intro ls stk H locs ⟨lv, ws, tys, h1, h2, h3, h4, h5, h6, h7, h8, h9⟩
        rw [hst] at h3
        match stk, h3 with
        | v2 :: rest, h3 =>
          obtain ⟨ni, rfl, i1, i2⟩ := x_bi_ok h9 hbb h3.1
          obtain ⟨c1, c2⟩ := x_const b1 b2 i1 i2
          refine hw C hA h5 h6 h7 h8 c1 c2 (by omega) (Nat.le_of_ble_eq_true b4) (Nat.le_of_ble_eq_true b5) (fun q cA H1 hK1 hP hD hS => hg _ List.mem_cons_self ls (.ref q :: rest) H1 locs ⟨lv, _, _, h1, ?_, ⟨?_, ?_⟩, ?_, hK1, hP, hD, hS, h9⟩)
          · rw [List.map_append]; exact x_lv_app h2
          · refine ⟨q, ?_, rfl⟩
            simp only [Int.toNat_natCast]
            rw [h4.1]
            simp
          · rw [List.map_append]; exact x_stk_app h3.2
          · refine x_world_app h4 rfl (fun k x y hx hy => ?_)
            have hk : k < 1 := (List.getElem?_eq_some_iff.mp hx).1
            rw [show k = 0 by omega] at hx hy
            cases hx
            cases hy
            exact ⟨tys.length, cA, r, _, hr, by simp, rfl, by show bb.1.toNat < 2147483648; omega, fun k hk => rfl⟩
    · cases hf
  · cases hf
/-- what the stack's change does to its values -/
theorem xi_stk_ok {f : List xV → Option (List xV)} (hw : ∀ (ad : List Nat) (V : List Int) (sc : Nat × Nat × List Nat) (st st' : List xV) (stk : List Value), f st = some st' → x_all2 (x_rel ad V sc) st stk → ∃ (i o rest : List Value), stk = i ++ rest ∧ x_Stk cc own nL pc nx i o ∧ x_all2 (x_rel ad V sc) st' (o ++ rest)) : x_Snd cl K cc own nL nm MC MS pc (xi_stk f nx) := by
  intro V sc p l e R s m args below meth c D A H0 Q C hA hK t ts hpc hf hg
  unfold xi_stk at hf
  split at hf
  · rename_i st' hst
    cases hf
    subst hpc
    intro ls stk H locs ⟨lv, ws, tys, h1, h2, h3, h4⟩
    obtain ⟨i, o, rest, rfl, hs, hr⟩ := hw _ _ _ _ _ _ hst h3
    exact hs C.1 (hg _ List.mem_cons_self ls (o ++ rest) H locs ⟨lv, ws, tys, h1, h2, hr, h4⟩)
  · cases hf
theorem x_one {ad : List Nat} {V : List Int} {sc : Nat × Nat × List Nat} {x : xV} {v : Value} (h : x_rel ad V sc x v) (hb : Nat.beq (x_ty x) 1 = false) : v.category = 1 := by
  rw [x_kd_cat (x_ty_ok h), if_neg]
  intro e
  rw [e] at hb
  cases hb
theorem xf_dup_ok (hw : ∀ v : Value, v.category = 1 → x_Stk cc own nL pc nx [v] [v, v]) : x_Snd cl K cc own nL nm MC MS pc (xi_stk xf_dup nx) := xi_stk_ok fun ad V sc st st' stk h hr => by
  unfold xf_dup at h
  split at h
  · rename_i x r
    cases hb : Nat.beq (x_ty x) 1 with
    | true => rw [hb] at h; cases h
    | false =>
      rw [hb] at h
      cases h
      match stk, hr with
      | v :: rest, hr => exact ⟨[v], [v, v], rest, rfl, hw v (x_one hr.1 hb), hr.1, hr.1, hr.2⟩
  · cases h
theorem xf_pop_ok (hw : ∀ v : Value, v.category = 1 → x_Stk cc own nL pc nx [v] []) : x_Snd cl K cc own nL nm MC MS pc (xi_stk xf_pop nx) := xi_stk_ok fun ad V sc st st' stk h hr => by
  unfold xf_pop at h
  split at h
  · rename_i x r
    cases hb : Nat.beq (x_ty x) 1 with
    | true => rw [hb] at h; cases h
    | false =>
      rw [hb] at h
      cases h
      match stk, hr with
      | v :: rest, hr => exact ⟨[v], [], rest, rfl, hw v (x_one hr.1 hb), hr.2⟩
  · cases h
theorem xf_dup2_ok (hw : ∀ v u : Value, v.category = 1 → u.category = 1 → x_Stk cc own nL pc nx [v, u] [v, u, v, u]) : x_Snd cl K cc own nL nm MC MS pc (xi_stk xf_dup2 nx) := xi_stk_ok fun ad V sc st st' stk h hr => by
  unfold xf_dup2 at h
  split at h
  · rename_i x y r
    cases hb : (Nat.beq (x_ty x) 1 || Nat.beq (x_ty y) 1) with
    | true => rw [hb] at h; cases h
    | false =>
      rw [hb] at h
      cases h
      simp only [Bool.or_eq_false_iff] at hb
      match stk, hr with
      | v :: u :: rest, hr => exact ⟨[v, u], [v, u, v, u], rest, rfl, hw v u (x_one hr.1 hb.1) (x_one hr.2.1 hb.2), hr.1, hr.2.1, hr.1, hr.2.1, hr.2.2⟩
  · cases h
theorem xf_dupx1_ok (hw : ∀ v u : Value, v.category = 1 → u.category = 1 → x_Stk cc own nL pc nx [v, u] [v, u, v]) : x_Snd cl K cc own nL nm MC MS pc (xi_stk xf_dupx1 nx) := xi_stk_ok fun ad V sc st st' stk h hr => by
  unfold xf_dupx1 at h
  split at h
  · rename_i x y r
    cases hb : (Nat.beq (x_ty x) 1 || Nat.beq (x_ty y) 1) with
    | true => rw [hb] at h; cases h
    | false =>
      rw [hb] at h
      cases h
      simp only [Bool.or_eq_false_iff] at hb
      match stk, hr with
      | v :: u :: rest, hr => exact ⟨[v, u], [v, u, v], rest, rfl, hw v u (x_one hr.1 hb.1) (x_one hr.2.1 hb.2), hr.1, hr.2.1, hr.1, hr.2.2⟩
  · cases h
theorem xf_dupx2_ok (hw : ∀ v u w : Value, v.category = 1 → u.category = 1 → w.category = 1 → x_Stk cc own nL pc nx [v, u, w] [v, u, w, v]) : x_Snd cl K cc own nL nm MC MS pc (xi_stk xf_dupx2 nx) := xi_stk_ok fun ad V sc st st' stk h hr => by
  unfold xf_dupx2 at h
  split at h
  · rename_i x y z r
    cases hb : (Nat.beq (x_ty x) 1 || (Nat.beq (x_ty y) 1 || Nat.beq (x_ty z) 1)) with
    | true => rw [hb] at h; cases h
    | false =>
      rw [hb] at h
      cases h
      simp only [Bool.or_eq_false_iff] at hb
      match stk, hr with
      | v :: u :: w :: rest, hr => exact ⟨[v, u, w], [v, u, w, v], rest, rfl, hw v u w (x_one hr.1 hb.1) (x_one hr.2.1 hb.2.1) (x_one hr.2.2.1 hb.2.2), hr.1, hr.2.1, hr.2.2.1, hr.1, hr.2.2.2⟩
  · cases h
theorem xi_sw_ok {l : List (Int × Int × Nat)} (hw : ∀ x : Int32, ∃ q ∈ l, q.1 ≤ x.toInt ∧ x.toInt ≤ q.2.1 ∧ x_Sw cc own nL pc x q.2.2) : x_Snd cl K cc own nL nm MC MS pc (xi_sw l) := by
  intro V sc p ll e R s m args below meth c D A H0 Q C hA hK t ts hpc hf hg
  unfold xi_sw at hf
  split at hf
  · rename_i x r hst
    split at hf
    · rename_i b hb
      cases hf
      subst hpc
      intro ls stk H locs ⟨lv, ws, tys, h1, h2, h3, h4, h5, h6, h7, h8, h9⟩
      rw [hst] at h3
      match stk, h3 with
      | v2 :: rest, h3 =>
        obtain ⟨n, rfl, x1, x2⟩ := x_bi_ok h9 hb h3.1
        obtain ⟨q, hq, q1, q2, hs⟩ := hw n
        exact hs C.1 (hg _ (x_arms_in x1 x2 q1 q2 hq) ls rest H locs ⟨lv, ws, tys, h1, h2, h3.2, h4, h5, h6, h7, h8, x_setb_i h9 h3.1 (x_max_le x1 q1) (x_le_min x2 q2)⟩)
    · cases hf
  · cases hf
end X8
end
end
section
noncomputable section
/-! one picture is weaker than another: what may be forgotten, and a token that counts -/
/-- V and U say the same but for the tokens a .. a + 3 -/
def x_off (a : Nat) (V U : List Int) : Prop := V.length = U.length ∧ ∀ j, ¬ (a ≤ j ∧ j ≤ a + 3) → V[j]? = U[j]?
theorem x_off.refl {a : Nat} {V : List Int} : x_off a V V := ⟨rfl, fun _ _ => rfl⟩
theorem x_off.symm {a : Nat} {V U : List Int} (h : x_off a V U) : x_off a U V := ⟨h.1.symm, fun j h1 => (h.2 j h1).symm⟩
theorem x_off.trans {a : Nat} {V U T : List Int} (h : x_off a V U) (g : x_off a U T) : x_off a V T := ⟨h.1.trans g.1, fun j h1 => (h.2 j h1).trans (g.2 j h1)⟩
/-- the token a becomes k, the token a + 2 becomes i; each with its next -/
def x_vup (V : List Int) (a : Nat) (k i : Int) : List Int := (((V.set a k).set (a + 1) (k + 1)).set (a + 2) i).set (a + 3) (i + 1)
theorem x_vup_off (V : List Int) (a : Nat) (k i : Int) : x_off a V (x_vup V a k i) := by
  refine ⟨by simp [x_vup], fun j h1 => ?_⟩
  unfold x_vup
  rw [List.getElem?_set_ne (by omega), List.getElem?_set_ne (by omega), List.getElem?_set_ne (by omega), List.getElem?_set_ne (by omega)]
theorem x_vup_a {V : List Int} {a : Nat} {k i : Int} (h : a + 3 < V.length) : (x_vup V a k i)[a]? = some k := by
  unfold x_vup
  rw [List.getElem?_set_ne (by omega), List.getElem?_set_ne (by omega), List.getElem?_set_ne (by omega), List.getElem?_set_self (by omega)]
theorem x_vup_s {V : List Int} {a : Nat} {k i : Int} (h : a + 3 < V.length) : (x_vup V a k i)[a + 1]? = some (k + 1) := by
  unfold x_vup
  rw [List.getElem?_set_ne (by omega), List.getElem?_set_ne (by omega), List.getElem?_set_self (by simp; omega)]
theorem x_vup_b {V : List Int} {a : Nat} {k i : Int} (h : a + 3 < V.length) : (x_vup V a k i)[a + 2]? = some i := by
  unfold x_vup
  rw [List.getElem?_set_ne (by omega), List.getElem?_set_self (by simp; omega)]
theorem x_vup_t {V : List Int} {a : Nat} {k i : Int} (h : a + 3 < V.length) : (x_vup V a k i)[a + 3]? = some (i + 1) := by
  unfold x_vup
  rw [List.getElem?_set_self (by simp; omega)]
/-- not one of the tokens a .. a + 3 -/
def x_nt (a : Nat) (x : xV) : Bool := match x.1 with
  | 3 => !(Nat.ble a x.2.1.toNat && Nat.ble x.2.1.toNat (a + 3))
  | 6 => !(Nat.ble a x.2.1.toNat && Nat.ble x.2.1.toNat (a + 3))
  | _ => true
theorem x_nbn {a b : Nat} (h : (!(Nat.ble a b && Nat.ble b (a + 3))) = true) : ¬ (a ≤ b ∧ b ≤ a + 3) := fun e => by
  rw [Nat.ble_eq_true_of_le e.1, Nat.ble_eq_true_of_le e.2] at h
  cases h
theorem x_nt_ok {a : Nat} {ad : List Nat} {V U : List Int} {sc : Nat × Nat × List Nat} {x : xV} {v : Value} (ho : x_off a V U) (h : x_nt a x = true) (hr : x_rel ad V sc x v) : x_rel ad U sc x v := by
  obtain ⟨t, i, b⟩ := x
  unfold x_rel at hr ⊢
  unfold x_nt at h
  split at hr <;> try exact hr
  · rename_i h0
    simp only at h0
    subst h0
    obtain ⟨n, e1, e2⟩ := hr
    exact ⟨n, e1, by rw [← ho.2 _ (x_nbn h)]; exact e2⟩
  · rename_i h0
    simp only at h0
    subst h0
    obtain ⟨n, e1, e2⟩ := hr
    exact ⟨n, e1, by rw [← ho.2 _ (x_nbn h)]; exact e2⟩
/-- what x says (with the tokens' bounds tk) gives what y says -/
def x_leV (a : Nat) (tk : xT) (x y : xV) : Bool := match y.1 with
  | 0 => match x_bi tk x with
    | some b => decide (y.2.1 ≤ b.1) && decide (b.2 ≤ y.2.2)
    | none => false
  | 4 => match x_bl tk x with
    | some b => decide (y.2.1 ≤ b.1) && decide (b.2 ≤ y.2.2)
    | none => false
  | _ => x_eqv x y && x_nt a y
theorem x_leV_ok {a : Nat} {ad : List Nat} {V U : List Int} {sc : Nat × Nat × List Nat} {tk : xT} {x y : xV} {v : Value} (ho : x_off a V U) (ht : x_tk tk V) (h : x_leV a tk x y = true) (hr : x_rel ad V sc x v) : x_rel ad U sc y v := by
  obtain ⟨t, i, b⟩ := y
  unfold x_leV at h
  split at h
  · rename_i h0
    simp only at h0
    subst h0
    split at h
    · rename_i q hq
      simp only [Bool.and_eq_true, decide_eq_true_eq] at h
      obtain ⟨n, rfl, h1, h2⟩ := x_bi_ok ht hq hr
      exact ⟨n, rfl, Int.le_trans h.1 h1, Int.le_trans h2 h.2⟩
    · cases h
  · rename_i h0
    simp only at h0
    subst h0
    split at h
    · rename_i q hq
      simp only [Bool.and_eq_true, decide_eq_true_eq] at h
      obtain ⟨n, rfl, h1, h2⟩ := x_bl_ok ht hq hr
      exact ⟨n, rfl, Int.le_trans h.1 h1, Int.le_trans h2 h.2⟩
    · cases h
  · simp only [Bool.and_eq_true] at h
    have e := x_eqv_ok h.1
    subst e
    exact x_nt_ok ho h.2 hr
def x_leO (a : Nat) (tk : xT) (d' : xV) : xA → xA → Bool
  | [], [] => true
  | p :: r, q :: r' => Nat.beq p.1 q.1 && (x_leV a tk p.2 q.2 && x_leO a tk d' r r')
  | p :: r, [] => x_leV a tk p.2 d' && x_leO a tk d' r []
  | [], _ :: _ => false
theorem x_leO_ok {a : Nat} {ad : List Nat} {V U : List Int} {sc : Nat × Nat × List Nat} {tk : xT} {d d' : xV} (ho : x_off a V U) (ht : x_tk tk V) (hd : x_leV a tk d d' = true) : ∀ {o o' : xA}, x_leO a tk d' o o' = true → ∀ (k : Nat) (v : Value), x_rel ad V sc (x_get d o k) v → x_rel ad U sc (x_get d' o' k) v
  | [], [], _, k, v, hr => x_leV_ok ho ht hd hr
  | p :: r, q :: r', h, k, v, hr => by
    unfold x_leO at h
    simp only [Bool.and_eq_true] at h
    have e := Nat.eq_of_beq_eq_true h.1
    rw [x_get_cons] at hr ⊢
    rw [← e]
    cases hb : Nat.beq p.1 k with
    | true => rw [hb] at hr; exact x_leV_ok ho ht h.2.1 hr
    | false => rw [hb] at hr; exact x_leO_ok ho ht hd h.2.2 k v hr
  | p :: r, [], h, k, v, hr => by
    unfold x_leO at h
    simp only [Bool.and_eq_true] at h
    rw [x_get_cons] at hr
    cases hb : Nat.beq p.1 k with
    | true => rw [hb] at hr; exact x_leV_ok ho ht h.1 hr
    | false => rw [hb] at hr; exact x_leO_ok (o' := []) ho ht hd h.2 k v hr
  | [], _ :: _, h, _, _, _ => by unfold x_leO at h; cases h
def x_leC (a : Nat) (tk : xT) (x y : xC) : Bool := Nat.beq x.1 y.1 && (Nat.beq x.2.1 y.2.1 && (Nat.beq x.2.2.1 y.2.2.1 && (x_leV a tk x.2.2.2.1 y.2.2.2.1 && x_leO a tk y.2.2.2.1 x.2.2.2.2 y.2.2.2.2)))
theorem x_leC_ok {cl : List vw_C} {tys : List (ClassId × FieldType)} {a : Nat} {ad : List Nat} {V U : List Int} {sc : Nat × Nat × List Nat} {tk : xT} {x y : xC} {e : va_E} (ho : x_off a V U) (ht : x_tk tk V) (h : x_leC a tk x y = true) (hc : x_cell cl ad V sc tys x e) : x_cell cl ad U sc tys y e := by
  obtain ⟨t, n, ln, d, o⟩ := x
  obtain ⟨t', n', ln', d', o'⟩ := y
  unfold x_leC at h
  simp only [Bool.and_eq_true] at h
  obtain ⟨h1, h2, h3, h4, h5⟩ := h
  have e1 := Nat.eq_of_beq_eq_true h1
  have e2 := Nat.eq_of_beq_eq_true h2
  have e3 := Nat.eq_of_beq_eq_true h3
  subst e1
  subst e2
  subst e3
  have key := fun (k : Nat) (v : Value) => x_leO_ok (ad := ad) (sc := sc) ho ht h4 h5 k v
  unfold x_cell at hc ⊢
  split at hc
  · rename_i h0; simp only at h0; subst h0
    obtain ⟨fs, g1, g2, g3⟩ := hc
    exact ⟨fs, g1, g2, fun k hk => by obtain ⟨v, k1, k2⟩ := g3 k hk; exact ⟨v, k1, key k v k2⟩⟩
  · rename_i h0; simp only at h0; subst h0
    obtain ⟨t0, cA, f, g1, g2, g3, g4⟩ := hc
    exact ⟨t0, cA, f, g1, g2, g3, fun k hk => key k _ (g4 k hk)⟩
  · rename_i h0; simp only at h0; subst h0
    obtain ⟨t0, cA, f, g1, g2, g3, g4⟩ := hc
    exact ⟨t0, cA, f, g1, g2, g3, fun k hk => key k _ (g4 k hk)⟩
  · rename_i h0; simp only at h0; subst h0
    obtain ⟨t0, cA, f, g1, g2, g3, g4⟩ := hc
    exact ⟨t0, cA, f, g1, g2, g3, fun k hk => key k _ (g4 k hk)⟩
  · rename_i h0; simp only at h0; subst h0
    obtain ⟨t0, cA, r, f, g0, g1, g2, g3, g4⟩ := hc
    exact ⟨t0, cA, r, f, g0, g1, g2, g3, fun k hk => key k _ (g4 k hk)⟩
  · rename_i h0; simp only at h0; subst h0
    obtain ⟨t0, cA, f, g1, g2, g3, g4⟩ := hc
    exact ⟨t0, cA, f, g1, g2, g3, fun k hk => key k _ (g4 k hk)⟩
  · exact hc.elim
def x_leW (a : Nat) (tk : xT) : List xC → List xC → Bool
  | [], [] => true
  | x :: r, y :: r' => x_leC a tk x y && x_leW a tk r r'
  | _, _ => false
theorem x_leW_ok {a : Nat} {tk : xT} : ∀ {w w' : List xC}, x_leW a tk w w' = true → w.length = w'.length ∧ ∀ (k : Nat) (y : xC), w'[k]? = some y → ∃ x, w[k]? = some x ∧ x_leC a tk x y = true
  | [], [], _ => ⟨rfl, fun k y h => by simp at h⟩
  | x :: r, y :: r', h => by
    unfold x_leW at h
    simp only [Bool.and_eq_true] at h
    obtain ⟨h1, h2⟩ := x_leW_ok h.2
    refine ⟨by simp [h1], fun k z hz => ?_⟩
    cases k with
    | zero => cases hz; exact ⟨x, rfl, h.1⟩
    | succ k => simp only [List.getElem?_cons_succ] at hz ⊢; exact h2 k z hz
  | [], _ :: _, h => by unfold x_leW at h; cases h
  | _ :: _, [], h => by unfold x_leW at h; cases h
def x_leS (a : Nat) (tk : xT) : List xV → List xV → Bool
  | [], [] => true
  | x :: r, y :: r' => x_leV a tk x y && x_leS a tk r r'
  | _, _ => false
theorem x_leS_ok {a : Nat} {ad : List Nat} {V U : List Int} {sc : Nat × Nat × List Nat} {tk : xT} (ho : x_off a V U) (ht : x_tk tk V) : ∀ {st st' : List xV} {vs : List Value}, x_leS a tk st st' = true → x_all2 (x_rel ad V sc) st vs → x_all2 (x_rel ad U sc) st' vs
  | [], [], [], _, _ => trivial
  | x :: r, y :: r', v :: vs, h, hr => by
    unfold x_leS at h
    simp only [Bool.and_eq_true] at h
    exact ⟨x_leV_ok ho ht h.1 hr.1, x_leS_ok ho ht h.2 hr.2⟩
  | [], _ :: _, _, h, _ => by unfold x_leS at h; cases h
  | _ :: _, [], _, h, _ => by unfold x_leS at h; cases h
  | [], [], _ :: _, _, hr => hr.elim
  | _ :: _, _ :: _, [], _, hr => hr.elim
/-- locals: those that count (their places c.1, c.2) stand as the tokens a, a + 2 -/
def x_leL (a : Nat) (tk : xT) (c : Nat × Nat) (l : xL) : xL → Bool
  | [] => true
  | q :: r => (bif Nat.beq q.1 c.1 then x_eqv q.2 (3, (a : Int), 0) else bif Nat.beq q.1 c.2 then x_eqv q.2 (3, ((a + 2 : Nat) : Int), 0) else match x_find l q.1 with
    | some x => x_leV a tk x q.2
    | none => false) && x_leL a tk c l r
theorem x_leL_ok {a : Nat} {ad : List Nat} {V U : List Int} {sc : Nat × Nat × List Nat} {tk : xT} {c : Nat × Nat} {nL : Nat} {ls : Array Slot} {l : xL} {lv : List (Nat × Value)} (ho : x_off a V U) (ht : x_tk tk V) (hl : lv_has ls nL lv) (h2 : x_all2 (fun a q => a.1 = q.1 ∧ x_rel ad V sc a.2 q.2) l lv) (hc : c.1 ≠ 99999 → ∃ vc, ls[c.1]? = some (.val vc) ∧ x_rel ad U sc (3, (a : Int), 0) vc) (hc2 : c.2 ≠ 99999 → ∃ vc, ls[c.2]? = some (.val vc) ∧ x_rel ad U sc (3, ((a + 2 : Nat) : Int), 0) vc) : ∀ {l' : xL}, (∀ q ∈ l', q.1 ≠ 99999) → x_leL a tk c l l' = true → ∃ lv', lv_has ls nL lv' ∧ x_all2 (fun a q => a.1 = q.1 ∧ x_rel ad U sc a.2 q.2) l' lv'
  | [], _, _ => ⟨[], ⟨hl.1, hl.2.1, fun q hq => absurd hq List.not_mem_nil⟩, trivial⟩
  | q :: r, hn, h => by
    unfold x_leL at h
    simp only [Bool.and_eq_true] at h
    obtain ⟨lv', g1, g2⟩ := x_leL_ok ho ht hl h2 hc hc2 (fun q hq => hn q (List.mem_cons_of_mem _ hq)) h.2
    have h1 := h.1
    cases hb : Nat.beq q.1 c.1 with
    | true =>
      rw [hb] at h1
      have e := Nat.eq_of_beq_eq_true hb
      obtain ⟨vc, k1, k2⟩ := hc (fun z => hn q List.mem_cons_self (e.trans z))
      refine ⟨(c.1, vc) :: lv', ⟨g1.1, g1.2.1, fun p hp => ?_⟩, ⟨e, by rw [x_eqv_ok h1]; exact k2⟩, g2⟩
      rcases List.mem_cons.mp hp with rfl | hp
      · exact k1
      · exact g1.2.2 p hp
    | false =>
    cases hb2 : Nat.beq q.1 c.2 with
    | true =>
      rw [hb, hb2] at h1
      have e := Nat.eq_of_beq_eq_true hb2
      obtain ⟨vc, k1, k2⟩ := hc2 (fun z => hn q List.mem_cons_self (e.trans z))
      refine ⟨(c.2, vc) :: lv', ⟨g1.1, g1.2.1, fun p hp => ?_⟩, ⟨e, by rw [x_eqv_ok h1]; exact k2⟩, g2⟩
      rcases List.mem_cons.mp hp with rfl | hp
      · exact k1
      · exact g1.2.2 p hp
    | false =>
      rw [hb, hb2] at h1
      simp only [cond_false] at h1
      split at h1
      · rename_i x hx
        obtain ⟨k, v, hk, hr⟩ := x_find_ok h2 hx
        refine ⟨(q.1, v) :: lv', ⟨g1.1, g1.2.1, fun p hp => ?_⟩, ⟨rfl, x_leV_ok ho ht h1 hr⟩, g2⟩
        rcases List.mem_cons.mp hp with rfl | hp
        · exact lv_at hl k hk
        · exact g1.2.2 p hp
      · cases h1
def x_leT (a : Nat) : Nat → xT → xT → Bool
  | _, [], [] => true
  | i, p :: r, q :: r' => (bif Nat.ble a i && Nat.ble i (a + 3) then true else decide (q.1 ≤ p.1) && decide (p.2 ≤ q.2)) && x_leT a (i + 1) r r'
  | _, _, _ => false
theorem x_leT_ok {a : Nat} : ∀ {i : Nat} {tk tk' : xT}, x_leT a i tk tk' = true → ∀ (j : Nat) (q : Int × Int), ¬ (a ≤ i + j ∧ i + j ≤ a + 3) → tk'[j]? = some q → ∃ p, tk[j]? = some p ∧ q.1 ≤ p.1 ∧ p.2 ≤ q.2
  | _, [], [], _, j, q, _, hj => by simp at hj
  | i, p :: r, q :: r', h, j, z, n1, hj => by
    unfold x_leT at h
    simp only [Bool.and_eq_true] at h
    cases j with
    | zero =>
      cases hj
      have h1 := h.1
      have hb : (Nat.ble a i && Nat.ble i (a + 3)) = false := by
        cases hb : (Nat.ble a i && Nat.ble i (a + 3)) with
        | false => rfl
        | true =>
          simp only [Bool.and_eq_true] at hb
          exact absurd ⟨Nat.le_of_ble_eq_true hb.1, Nat.le_of_ble_eq_true hb.2⟩ n1
      rw [hb] at h1
      simp only [cond_false, Bool.and_eq_true, decide_eq_true_eq] at h1
      exact ⟨p, rfl, h1⟩
    | succ j =>
      simp only [List.getElem?_cons_succ] at hj ⊢
      exact x_leT_ok h.2 j z (by omega) hj
  | _, [], _ :: _, h, _, _, _, _ => by unfold x_leT at h; cases h
  | _, _ :: _, [], h, _, _, _, _ => by unfold x_leT at h; cases h
/-- the picture t gives the picture u, but for the locals c.1, c.2 and the tokens a .. a + 3 -/
def x_le (a : Nat) (c : Nat × Nat) (t u : xS) : Bool := Nat.beq t.1 u.1 && (u.2.1.all (fun q => Nat.ble q.1 5000) && (x_leL a t.2.2.2.2.1 c t.2.1 u.2.1 && (x_leS a t.2.2.2.2.1 t.2.2.1 u.2.2.1 && (x_leW a t.2.2.2.2.1 t.2.2.2.1 u.2.2.2.1 && (x_leT a 0 t.2.2.2.2.1 u.2.2.2.2.1 && (Nat.ble t.2.2.2.2.2.1 u.2.2.2.2.2.1 && Nat.ble t.2.2.2.2.2.2 u.2.2.2.2.2.2))))))
theorem x_le_ok {cl : List vw_C} {V U : List Int} {sc : Nat × Nat × List Nat} {nL : Nat} {s : State} {D : va_G} {A : Nat → Prop} {H0 : Heap} {a : Nat} {c : Nat × Nat} {t u : xS} {ls : Array Slot} {stk : List Value} {H : Heap} {locs : List Loc} (ho : x_off a V U) (h : x_le a c t u = true)
    (hc : ∀ ad, c.1 ≠ 99999 → ∃ vc, ls[c.1]? = some (.val vc) ∧ x_rel ad U sc (3, (a : Int), 0) vc) (hc2 : ∀ ad, c.2 ≠ 99999 → ∃ vc, ls[c.2]? = some (.val vc) ∧ x_rel ad U sc (3, ((a + 2 : Nat) : Int), 0) vc) (ha : ∀ j q, (a ≤ j ∧ j ≤ a + 3) → u.2.2.2.2.1[j]? = some q → ∃ n, U[j]? = some n ∧ q.1 ≤ n ∧ n ≤ q.2)
    (hI : x_In cl V sc nL s D A H0 t ls stk H locs) : x_In cl U sc nL s D A H0 u ls stk H locs := by
  unfold x_le at h
  simp only [Bool.and_eq_true] at h
  obtain ⟨-, b1, b2, b3, b4, b5, -, -⟩ := h
  obtain ⟨lv, ws, tys, h1, h2, h3, h4, h5, h6, h7, h8, h9⟩ := hI
  have hn : ∀ q ∈ u.2.1, q.1 ≠ 99999 := fun q hq e => by
    have := Nat.le_of_ble_eq_true (List.all_eq_true.mp b1 q hq)
    omega
  obtain ⟨g1, g2⟩ := x_leW_ok b4
  obtain ⟨lv', k1, k2⟩ := x_leL_ok ho h9 h1 h2 (hc (ws.map Prod.fst)) (hc2 (ws.map Prod.fst)) hn b2
  refine ⟨lv', ws, tys, k1, k2, x_leS_ok ho h9 b3 h3, ⟨g1.symm.trans h4.1, h4.2.1, fun k y q hy hq => ?_⟩, h5, h6, h7, h8, fun j q hj => ?_⟩
  · obtain ⟨x, hx, hxy⟩ := g2 k y hy
    exact x_leC_ok ho h9 hxy (h4.2.2 k x q hx hq)
  · by_cases e1 : a ≤ j ∧ j ≤ a + 3
    · exact ha j q e1 hj
    · obtain ⟨p, hp, p1, p2⟩ := x_leT_ok b5 j q (by simpa using e1) hj
      obtain ⟨n, n1, n2, n3⟩ := h9 j p hp
      exact ⟨n, by rw [← ho.2 j e1]; exact n1, Int.le_trans p1 n2, Int.le_trans n3 p2⟩
theorem x_le_W {p : Program} {l : Launch} {e : Env} {R : Room} {s : State} {m : MethodId} {args : Array Value} {below : List Frame} {meth : Method} {c : Code} {H : Heap} {locs : List Loc} {Q : State → Prop} {a : Nat} {i : Nat × Nat} {t u : xS} {ls : Array Slot} {stk : List Value} (h : x_le a i t u = true) (k : W p l e R s m args below meth c H locs u.2.2.2.2.2.1 u.2.2.2.2.2.2 Q (F0 m u.1 ls stk)) : W p l e R s m args below meth c H locs t.2.2.2.2.2.1 t.2.2.2.2.2.2 Q (F0 m t.1 ls stk) := by
  unfold x_le at h
  simp only [Bool.and_eq_true] at h
  obtain ⟨b0, -, -, -, -, -, b6, b7⟩ := h
  rw [Nat.eq_of_beq_eq_true b0]
  exact W.widen (Nat.le_of_ble_eq_true b6) (Nat.le_of_ble_eq_true b7) k
end
end
section
noncomputable section
/-! the engine: methods by number, calls inside; and what it says of a method is a contract -/
/-- name, code, locals, answer's type, cells and slots that it makes at most, class of the receiver (999: none) -/
abbrev xM : Type := MethodName × ByteArray × Nat × Option FieldType × Nat × Nat × Nat
abbrev xm_y (q : xM) : MethodName := q.1
abbrev xm_b (q : xM) : ByteArray := q.2.1
abbrev xm_l (q : xM) : Nat := q.2.2.1
abbrev xm_r (q : xM) : Option FieldType := q.2.2.2.1
abbrev xm_c (q : xM) : Nat := q.2.2.2.2.1
abbrev xm_s (q : xM) : Nat := q.2.2.2.2.2.1
abbrev xm_o (q : xM) : Nat := q.2.2.2.2.2.2
def x_ws (q : xM) : List Cond := .code (xm_y q) (xm_b q) (xm_l q) (xm_r q) :: x_tbl
def x_rm (d : Nat) (q : xM) : Room := { frames := d, cells := xm_c q, slots := xm_s q, locals := 64 * d }
def x_ent : Nat → List xV → xL
  | _, [] => []
  | i, x :: r => (i, x) :: x_ent (bif Nat.beq (x_ty x) 1 then i + 2 else i + 1) r
def x_cats : List xV → Nat
  | [] => 0
  | x :: r => (bif Nat.beq (x_ty x) 1 then 2 else 1) + x_cats r
def x_each {α β : Type} (f : α → Option (List β)) : List α → Option (List β)
  | [] => some []
  | t :: r => match f t with
    | some a => match x_each f r with
      | some b => some (a ++ b)
      | none => none
    | none => none
def x_retv (k : Nat) (t : xS) : Option xK := match k, t.2.2.1 with
  | 0, [] => some ([], t.2.2.2.1, t.2.2.2.2.1)
  | 1, [x] => bif Nat.beq (x_ty x) 0 then some ([x], t.2.2.2.1, t.2.2.2.2.1) else none
  | 2, [x] => bif Nat.beq (x_ty x) 1 then some ([x], t.2.2.2.1, t.2.2.2.2.1) else none
  | 3, [x] => bif Nat.beq (x_ty x) 2 then some ([x], t.2.2.2.1, t.2.2.2.2.1) else none
  | 4, [x] => bif x_pkb t.2.2.2.2.1 1 x then some ([x], t.2.2.2.1, t.2.2.2.2.1) else none
  | _, _ => none
def x_ret (k : Nat) (q : xM) (t : xS) : Option xK := bif Nat.ble t.2.2.2.2.2.1 (xm_c q) && Nat.ble t.2.2.2.2.2.2 (xm_s q) then x_retv k t else none
/-- the receiver is an object of the class that is wanted -/
def x_rcv (o : Nat) (as : List xV) (w : List xC) : Bool := bif Nat.beq o 999 then true else match as with
  | (1, j, _) :: _ => match x_at w j.toNat with
    | some (0, c, _) => Nat.beq c o
    | _ => false
  | _ => false
def x_back (t : xS) (rest : List xV) (q : xM) (lf : xK) : xS := (t.1 + 3, t.2.1, lf.1 ++ rest, lf.2.1, lf.2.2, t.2.2.2.2.2.1 + xm_c q, t.2.2.2.2.2.2 + xm_s q)
def x_may_call (fd d : Nat) (t : xS) (M' na : Nat) (q q' : xM) (as rest : List xV) : Bool :=
  Nat.ble fd d && (Nat.ble 1 M' && (Nat.ble na t.2.2.1.length && (Nat.ble (x_cats rest) 8 && (Nat.ble (x_cats as) (xm_l q') && (Nat.ble (t.2.2.2.2.2.1 + xm_c q') (xm_c q) && (Nat.ble (t.2.2.2.2.2.2 + xm_s q') (xm_s q) && x_rcv (xm_o q') as t.2.2.2.1))))))
def x_rets (code : Nat → Nat → xE) (q : xM) (M : Nat) : List xS → Option (List xK)
  | [] => some []
  | t :: r => match code M t.1 with
    | (1, _, k, _) => match x_ret k q t with
      | some lf => match x_rets code q M r with
        | some b => some (lf :: b)
        | none => none
      | none => none
    | _ => none
/-- a loop: the places of the locals that count (99999: none), the picture at its head, its token, where it goes out -/
abbrev xLp : Type := (Nat × Nat) × (xS → Option xS) × Nat × Nat
def x_tok (a : Nat) : Bool := Nat.beq a 20 || (Nat.beq a 24 || Nat.beq a 28)
def x_cb (t : xS) (c : Nat) : Option (Int × Int) := match x_find t.2.1 c with
  | some x => x_bi t.2.2.2.2.1 x
  | none => none
def x_c2 (c : Nat × Nat) : Nat := bif Nat.beq c.2 99999 then c.1 else c.2
def x_inb (tk : xT) (j : Nat) (lo hi : Int) : Bool := match tk[j]? with
  | some q => decide (q.1 ≤ lo) && decide (hi ≤ q.2)
  | none => false
/-- those that count lie between the bounds that u has for the tokens -/
def x_ctr (a : Nat) (c : Nat × Nat) (t u : xS) : Bool := match x_cb t c.1, x_cb t (x_c2 c) with
  | some b, some b2 => x_inb u.2.2.2.2.1 a b.1 b.2 && (x_inb u.2.2.2.2.1 (a + 1) (b.1 + 1) (b.2 + 1) && (x_inb u.2.2.2.2.1 (a + 2) b2.1 b2.2 && x_inb u.2.2.2.2.1 (a + 3) (b2.1 + 1) (b2.2 + 1)))
  | _, _ => false
def x_below (a : Nat) (c : Nat × Nat) (t : xS) : Bool := bif Nat.beq a 20 && !(Nat.beq c.2 99999) then match x_cb t c.1, x_cb t c.2 with
  | some b, some b2 => decide (b2.2 ≤ b.1)
  | _, _ => false else true
def x_enter (fd d M a : Nat) (c : Nat × Nat) (t u : xS) : Bool := Nat.ble fd d && (Nat.ble 1 M && (x_tok a && (x_below a c t && (x_le a c t u && x_ctr a c t u))))
/-- back at the head: the count is one more -/
def x_again (a : Nat) (c : Nat × Nat) (t u : xS) : Bool := x_le a c t u && (x_ctr a c t u && ((match x_find t.2.1 c.1 with
  | some x => x_eqv x (3, ((a + 1 : Nat) : Int), 0)
  | none => false) && (bif Nat.beq a 20 && !(Nat.beq c.2 99999) then match x_find t.2.1 c.2 with
    | some x => x_eqv x (3, ((a + 2 : Nat) : Int), 0) || x_eqv x (3, ((a + 3 : Nat) : Int), 0)
    | none => false else true)))
def x_cln (a : Nat) (tk : xT) (x : xV) : xV := bif x_nt a x then x else match x.1 with
  | 3 => match tk[x.2.1.toNat]? with
    | some b => (0, b)
    | none => x
  | _ => match tk[x.2.1.toNat]? with
    | some b => (4, b)
    | none => x
/-- behind the loop: its tokens are forgotten -/
def x_out (a : Nat) (tk0 : xT) (t : xS) : Option xS := match tk0[a]?, tk0[a + 1]?, tk0[a + 2]?, tk0[a + 3]? with
  | some q, some q', some r, some r' => some (t.1, t.2.1.map (fun p => (p.1, x_cln a t.2.2.2.2.1 p.2)), t.2.2.1.map (x_cln a t.2.2.2.2.1), t.2.2.2.1, (((t.2.2.2.2.1.set a q).set (a + 1) q').set (a + 2) r).set (a + 3) r', t.2.2.2.2.2)
  | _, _, _, _ => none
def x_loop (h e a : Nat) (c : Nat × Nat) (tk0 : xT) (u : xS) : List xS → Option (List xS)
  | [] => some []
  | t :: r => bif Nat.beq t.1 h then (bif x_again a c t u then x_loop h e a c tk0 u r else none) else bif Nat.beq t.1 e then match x_out a tk0 t with
      | some t' => bif x_le a (99999, 99999) t t' then match x_loop h e a c tk0 u r with
          | some b => some (t' :: b)
          | none => none
        else none
      | none => none
    else none
/-- a number, whatever cells there are -/
def x_num (x : xV) : Bool := match x.1 with
  | 0 => true
  | 3 => true
  | 4 => true
  | 6 => true
  | _ => false
def x_longs (ls : List xK) : Bool := ls.all (fun lf => match lf.1 with
  | [x] => Nat.beq (x_ty x) 1
  | _ => false)
/-- from t on, to a place of sp, or to the method's end -/
def x_go (fd : Nat) (code : Nat → Nat → xE) (lp : Nat → xLp) (I : Nat → xM) : Nat → Nat → Nat → Nat × Nat → xS → Option (List xS)
  | 0, _, _, _, _ => none
  | n + 1, d, M, sp, t => bif Nat.beq t.1 sp.1 || Nat.beq t.1 sp.2 then some [t] else match code M t.1 with
    | (0, f, _, _) => match f t with
      | some [t'] => x_go fd code lp I n d M sp t'
      | some l => x_each (fun t' => x_go fd code lp I n d M sp t') l
      | none => none
    | (1, _, _, _) => some [t]
    | (2, _, M', na) => match d with
      | 0 => none
      | d' + 1 => bif x_may_call fd d' t M' na (I M) (I M') (t.2.2.1.take na).reverse (t.2.2.1.drop na) then
          match x_go fd code lp I n d' M' (99999, 99999) (0, x_ent 0 (t.2.2.1.take na).reverse, [], t.2.2.2.1, t.2.2.2.2.1, 0, 0) with
          | some rs => match x_rets code (I M') M' rs with
            | some [lf] => x_go fd code lp I n (d' + 1) M sp (x_back t (t.2.2.1.drop na) (I M') lf)
            | some ls => x_each (fun lf => x_go fd code lp I n (d' + 1) M sp lf) (ls.map (x_back t (t.2.2.1.drop na) (I M')))
            | none => none
          | none => none
          else none
    | (3, g, L, _) => match lp L with
      | (c, wk, a, e) => match wk t with
        | some u => bif x_enter fd d M a c t u then match g u with
            | some l => match x_each (fun t' => x_go fd code lp I n d M (t.1, e) t') l with
              | some rs => match x_loop t.1 e a c t.2.2.2.2.1 u rs with
                | some ex => x_each (fun t' => x_go fd code lp I n d M sp t') ex
                | none => none
              | none => none
            | none => none
          else none
        | none => match g t with
          | some [t'] => x_go fd code lp I n d M sp t'
          | some l => x_each (fun t' => x_go fd code lp I n d M sp t') l
          | none => none
    | (4, _, M', na) => match d with
      | 0 => none
      | d' + 1 => bif x_may_call fd d' t M' na (I M) (I M') (t.2.2.1.take na).reverse (t.2.2.1.drop na) && (Nat.beq (xm_o (I M')) 999 && ((t.2.2.1.take na).reverse).all x_num) then
          match x_go fd code lp I n d' M' (99999, 99999) (0, x_ent 0 (t.2.2.1.take na).reverse, [], [], t.2.2.2.2.1, 0, 0) with
          | some rs => match x_rets code (I M') M' rs with
            | some ls => bif x_longs ls then x_go fd code lp I n (d' + 1) M sp (x_back t (t.2.2.1.drop na) (I M') ([x_anyL], t.2.2.2.1, t.2.2.2.2.1)) else none
            | none => none
          | none => none
          else none
    | _ => none
theorem x_after {p : Program} {l : Launch} {e : Env} {R : Room} {s : State} {m : MethodId} {args : Array Value} {below : List Frame} {meth : Method} {c : Code} {H : Heap} {locs : List Loc} {cells slots : Nat} {Q : State → Prop} {pc : Nat} {ls : Array Slot} {rest st0 : List Value} {A0 A1 : Nat → Prop} {H0 : Heap} {mc ms : Nat} {free : Addr → Prop} {Qa : State → Outcome → State → Prop}
    (hr : va_Run p l e R s m args below meth c H locs cells slots mc ms (F0 m pc ls st0) rest Qa free) (hS : va_S A0 H0 H locs) (hQ : ∀ st v t, Qa st (.returned v) t → va_F A1 st t) (hA : ∀ q, q < H.size → A1 q → A0 q) (hf : ∀ q, free q → A0 q)
    (kk : ∀ (v : Option Value) (st t : State) (H1 : Heap) (locs1 : List Loc), st.heap = H → t.heap = H1 → s.vm.Alike t.vm → Qa st (.returned v) t → va_S A0 H0 H1 locs1 → W p l e R s m args below meth c H1 locs1 (cells + mc) (slots + ms) Q (F0 m (pc + 3) ls (v.toList ++ rest))) : W p l e R s m args below meth c H locs cells slots Q (F0 m pc ls st0) := by
  intro T hT X
  obtain ⟨v, st₀, t, T', L, h0, X', hL, e1, e2, hq, st⟩ := hr T hT X
  obtain ⟨hz, hk⟩ := hQ _ _ _ hq
  rw [h0] at hz hk
  obtain ⟨t2, a1, b1⟩ := kk v st₀ t T'.heap (locs ++ L) h0 e1.symm (by rw [← e2]; exact X'.warmed.alike) hq
    ⟨Nat.le_trans hS.1 (by rw [e1]; exact hz), fun q h1 h2 => by rw [e1, hk q (Nat.lt_of_lt_of_le h1 hS.1) (fun z => h2 (hA q (Nat.lt_of_lt_of_le h1 hS.1) z))]; exact hS.2.1 q h1 h2, fun q hq => by
      rcases List.mem_append.mp hq with h | h
      · exact hS.2.2 q h
      · exact hf _ (hL q h)⟩ T' rfl X'
  exact ⟨t2, st t2 a1, b1⟩
/-- what is left behind a method -/
def x_Q (cl : List vw_C) (V : List Int) (sc : Nat × Nat × List Nat) (D : va_G) (ws0 : va_W) (sz : Nat) (Ls : List xK) : Array Value → State → Outcome → State → Prop := fun _ st oc t =>
  (∃ lf ∈ Ls, ∃ (v : Option Value) (ws : va_W) (tys : List (ClassId × FieldType)), oc = .returned v ∧ x_all2 (x_rel (ws.map Prod.fst) V sc) lf.1 v.toList ∧ x_world cl V sc tys lf.2.1 ws ∧ va_K D cl tys t ∧ va_P D cl ws t.heap ∧ va_D (va_A ws0 sz) ws ∧ x_tk lf.2.2 V) ∧ va_F (va_A ws0 sz) st t
def x_Rt (cc : ByteArray) (rt : Option FieldType) (pc k : Nat) : Prop := match k with
  | 0 => decode cc pc = .ok (.return_, 1) ∧ rt = none
  | 1 => decode cc pc = .ok (.ireturn, 1) ∧ rt = some .int
  | 2 => decode cc pc = .ok (.lreturn, 1) ∧ rt = some .long
  | 3 => decode cc pc = .ok (.areturn, 1) ∧ ∃ t, rt = some t ∧ ((∃ n, t = .object n) ∨ ∃ q, t = .array q)
  | _ => decode cc pc = .ok (.ireturn, 1) ∧ rt = some .boolean
def x_Cl (cc : ByteArray) (own : String) (nL : Nat) (nm : String) (MC MS pc : Nat) (q' : xM) (na : Nat) : Prop := (19 + xm_l q' ≤ 64) ∧ ∀ {p : Program} {l : Launch} {e : Env} {R : Room} {s : State} {m : MethodId} {args : Array Value} {below : List Frame} {meth : Method} {c : Code}, x_Cx cc own nL nm MC MS p R s m args meth c →
  ∀ {H : Heap} {locs : List Loc} {cells slots mc ms : Nat} {ls : Array Slot} {rest vargs : List Value} {Pc : Array Value → State → Prop} {Qc : Array Value → State → Outcome → State → Prop} {free : Addr → Prop} {rm : Room}, Met l (xm_y q') (x_ws q') rm Pc Qc mc ms free → FrameBlind Pc → (∀ U : State, U.heap = H → s.WarmedH U.vm → Pc vargs.toArray U) →
  (xm_o q' = 999 ∨ ∃ b As, vargs = .ref b :: As ∧ ∃ cellB : Cell, H[b]? = some cellB ∧ cellB.vm.isStatics = false ∧ s.vm.findClass (xm_y q').cls = some cellB.cls) → vargs.length = na → rm.cells = mc → rm.slots = ms → rm.frames + 1 ≤ R.frames → 8 + (xm_l q' + 11) + rm.locals ≤ R.locals → ls.size = nL → (rest.map fun v => v.category).sum ≤ 8 → cells + mc ≤ R.cells ∧ slots + ms ≤ R.slots →
  va_Run p l e R s m args below meth c H locs cells slots mc ms (F0 m pc ls (vargs.reverse ++ rest)) rest (Qc vargs.toArray) free
/-- a place of a method's table may be trusted -/
def x_EOq (cl : List vw_C) (K : xKx) (I : Nat → xM) (q : xM) (pc : Nat) (en : xE) : Prop := match en with
  | (0, f, _, _) => x_Snd cl K (xm_b q) (xm_y q).cls (xm_l q) (xm_y q).name (xm_c q) (xm_s q) pc f
  | (1, _, k, _) => x_Rt (xm_b q) (xm_r q) pc k
  | (2, _, M', na) => x_Cl (xm_b q) (xm_y q).cls (xm_l q) (xm_y q).name (xm_c q) (xm_s q) pc (I M') na
  | (3, f, _, _) => x_Snd cl K (xm_b q) (xm_y q).cls (xm_l q) (xm_y q).name (xm_c q) (xm_s q) pc f
  | (4, _, M', na) => x_Cl (xm_b q) (xm_y q).cls (xm_l q) (xm_y q).name (xm_c q) (xm_s q) pc (I M') na
  | _ => True
abbrev x_EOk (cl : List vw_C) (K : xKx) (I : Nat → xM) (M pc : Nat) (en : xE) : Prop := x_EOq cl K I (I M) pc en
theorem x_each_in {α β : Type} {f : α → Option (List β)} : ∀ {l : List α} {r : List β}, x_each f l = some r → ∀ t ∈ l, ∃ a, f t = some a ∧ ∀ x ∈ a, x ∈ r
  | [], r, h, t, ht => absurd ht List.not_mem_nil
  | t0 :: l, r, h, t, ht => by
    unfold x_each at h
    split at h
    · rename_i a ha
      split at h
      · rename_i b hb
        cases h
        rcases List.mem_cons.mp ht with rfl | ht
        · exact ⟨a, ha, fun x hx => List.mem_append_left _ hx⟩
        · obtain ⟨a', h1, h2⟩ := x_each_in hb t ht
          exact ⟨a', h1, fun x hx => List.mem_append_right _ (h2 x hx)⟩
      · cases h
    · cases h
theorem x_rel_sc {ad : List Nat} {V : List Int} {sc sc' : Nat × Nat × List Nat} (h1 : sc.1 = sc'.1) (h2 : sc.2.1 = sc'.2.1) {x : xV} {v : Value} (h : x_rel ad V sc x v) : x_rel ad V sc' x v := by
  obtain ⟨t, a, b⟩ := x
  unfold x_rel at h ⊢
  split at h <;> try exact h
  exact ⟨by rw [← h1]; exact h.1, by rw [← h2]; exact h.2⟩
theorem x_cell_sc {cl : List vw_C} {ad : List Nat} {V : List Int} {sc sc' : Nat × Nat × List Nat} (h1 : sc.1 = sc'.1) (h2 : sc.2.1 = sc'.2.1) {tys : List (ClassId × FieldType)} {x : xC} {e : va_E} (h : x_cell cl ad V sc tys x e) : x_cell cl ad V sc' tys x e := by
  obtain ⟨t, n, ln, d, o⟩ := x
  unfold x_cell at h ⊢
  split at h
  · obtain ⟨fs, g1, g2, g3⟩ := h
    exact ⟨fs, g1, g2, fun k hk => by obtain ⟨v, k1, k2⟩ := g3 k hk; exact ⟨v, k1, x_rel_sc h1 h2 k2⟩⟩
  · obtain ⟨t0, cA, f, g1, g2, g3, g4⟩ := h
    exact ⟨t0, cA, f, g1, g2, g3, fun k hk => x_rel_sc h1 h2 (g4 k hk)⟩
  · obtain ⟨t0, cA, f, g1, g2, g3, g4⟩ := h
    exact ⟨t0, cA, f, g1, g2, g3, fun k hk => x_rel_sc h1 h2 (g4 k hk)⟩
  · obtain ⟨t0, cA, f, g1, g2, g3, g4⟩ := h
    exact ⟨t0, cA, f, g1, g2, g3, fun k hk => x_rel_sc h1 h2 (g4 k hk)⟩
  · obtain ⟨t0, cA, r, f, g0, g1, g2, g3, g4⟩ := h
    exact ⟨t0, cA, r, f, g0, g1, g2, g3, fun k hk => x_rel_sc h1 h2 (g4 k hk)⟩
  · obtain ⟨t0, cA, f, g1, g2, g3, g4⟩ := h
    exact ⟨t0, cA, f, g1, g2, g3, fun k hk => x_rel_sc h1 h2 (g4 k hk)⟩
  · exact h.elim
theorem x_ent_ok {ad : List Nat} {V : List Int} {sc : Nat × Nat × List Nat} : ∀ {as : List xV} {vs : List Value} (i : Nat), x_all2 (x_rel ad V sc) as vs → x_all2 (fun a q => a.1 = q.1 ∧ x_rel ad V sc a.2 q.2) (x_ent i as) (lv_args i vs)
  | [], [], _, _ => trivial
  | a :: as, v :: vs, i, h => by
    refine ⟨⟨rfl, h.1⟩, ?_⟩
    have e := x_kd_cat (x_ty_ok h.1)
    cases hb : Nat.beq (x_ty a) 1 with
    | true =>
      have := Nat.eq_of_beq_eq_true hb
      rw [this, if_pos rfl] at e
      rw [e, if_pos rfl]
      exact x_ent_ok (i + 2) h.2
    | false =>
      have h1 : ¬ x_ty a = 1 := fun q => by rw [q] at hb; cases hb
      rw [if_neg h1] at e
      rw [e, if_neg (by decide)]
      exact x_ent_ok (i + 1) h.2
  | [], _ :: _, _, h => h.elim
  | _ :: _, [], _, h => h.elim
theorem x_cats_ok {ad : List Nat} {V : List Int} {sc : Nat × Nat × List Nat} : ∀ {as : List xV} {vs : List Value}, x_all2 (x_rel ad V sc) as vs → (vs.map fun v => v.category).sum = x_cats as ∧ (lg_sl vs).length = x_cats as
  | [], [], _ => ⟨rfl, rfl⟩
  | a :: as, v :: vs, h => by
    have e := x_kd_cat (x_ty_ok h.1)
    obtain ⟨h1, h2⟩ := x_cats_ok h.2
    cases hb : Nat.beq (x_ty a) 1 with
    | true =>
      have := Nat.eq_of_beq_eq_true hb
      rw [this, if_pos rfl] at e
      refine ⟨by simp only [List.map_cons, List.sum_cons, e, h1, x_cats, hb, cond_true], ?_⟩
      show (List.flatMap _ (v :: vs)).length = _
      rw [List.flatMap_cons, e, if_pos rfl, List.length_append]
      show 2 + (lg_sl vs).length = _
      rw [h2]
      simp only [x_cats, hb, cond_true]
    | false =>
      have h3 : ¬ x_ty a = 1 := fun q => by rw [q] at hb; cases hb
      rw [if_neg h3] at e
      refine ⟨by simp only [List.map_cons, List.sum_cons, e, h1, x_cats, hb, cond_false], ?_⟩
      show (List.flatMap _ (v :: vs)).length = _
      rw [List.flatMap_cons, e, if_neg (by decide), List.length_append]
      show 1 + (lg_sl vs).length = _
      rw [h2]
      simp only [x_cats, hb, cond_false]
  | [], _ :: _, h => h.elim
  | _ :: _, [], h => h.elim
theorem x_split {α β : Type} {R : α → β → Prop} (n : Nat) : ∀ {as : List α} {bs : List β}, x_all2 R as bs → x_all2 R (as.take n) (bs.take n) ∧ x_all2 R (as.drop n) (bs.drop n) := by
  induction n with
  | zero => intro as bs h; simp only [List.take_zero, List.drop_zero]; exact ⟨trivial, h⟩
  | succ n ih =>
    intro as bs h
    match as, bs, h with
    | [], [], _ => exact ⟨trivial, trivial⟩
    | a :: as, b :: bs, h =>
      obtain ⟨h1, h2⟩ := ih h.2
      exact ⟨⟨h.1, h1⟩, h2⟩
theorem x_num_ok {ad ad' : List Nat} {V : List Int} {sc sc' : Nat × Nat × List Nat} {x : xV} {v : Value} (h : x_num x = true) (hr : x_rel ad V sc x v) : x_rel ad' V sc' x v := by
  obtain ⟨t, i, b⟩ := x
  unfold x_num at h
  unfold x_rel at hr ⊢
  split at h
  · rename_i h0; simp only at h0; subst h0; exact hr
  · rename_i h0; simp only at h0; subst h0; exact hr
  · rename_i h0; simp only at h0; subst h0; exact hr
  · rename_i h0; simp only at h0; subst h0; exact hr
  · cases h
theorem x_nums_ok {ad ad' : List Nat} {V : List Int} {sc sc' : Nat × Nat × List Nat} : ∀ {as : List xV} {vs : List Value}, as.all x_num = true → x_all2 (x_rel ad V sc) as vs → x_all2 (x_rel ad' V sc') as vs
  | [], [], _, _ => trivial
  | a :: as, v :: vs, h, hr => by
    simp only [List.all_cons, Bool.and_eq_true] at h
    exact ⟨x_num_ok h.1 hr.1, x_nums_ok h.2 hr.2⟩
  | [], _ :: _, _, h => h.elim
  | _ :: _, [], _, h => h.elim
end
end
section
noncomputable section
/-! what the engine says holds -/
def x_Tab (fd : Nat) (PV : List Int → Prop) (cl : List vw_C) (KK : Nat → xKx) (I : Nat → xM) (code : Nat → Nat → xE) : Prop :=
  1 ≤ fd ∧ (∀ M pc, x_EOk cl (KK M) I M pc (code M pc)) ∧ (∀ M, plainName (xm_y (I M)).cls = true) ∧ (∀ M, M ≠ 0 → ∀ (R : Room) s A H V sc, fd ≤ R.frames → 64 * fd ≤ R.locals → PV V → KK M R s A H V sc) ∧ (∀ M, xm_o (I M) ≠ 999 → ∃ r, cl[xm_o (I M)]? = some r ∧ r.1 = (xm_y (I M)).cls) ∧
  ∀ V a k i, x_tok a = true → PV V → a + 3 < V.length ∧ V[a + 1]? = V[a]?.map (· + 1) ∧ V[a + 3]? = V[a + 2]?.map (· + 1) ∧ (a = 20 → ∀ x y, V[20]? = some x → V[22]? = some y → y ≤ x) ∧ ((a = 20 → i ≤ k) → PV (x_vup V a k i))
def x_Frm (fd : Nat) (PV : List Int → Prop) (cl : List vw_C) (KK : Nat → xKx) (I : Nat → xM) (code : Nat → Nat → xE) (lp : Nat → xLp) (l : Launch) (n : Nat) : Prop :=
  ∀ (d M : Nat) (sp : Nat × Nat) (t : xS) (Ls : List xS), x_go fd code lp I n d M sp t = some Ls → ∀ {V : List Int} {sc : Nat × Nat × List Nat} {p : Program} {e : Env} {R : Room} {s : State} {m : MethodId} {args : Array Value} {below : List Frame} {meth : Method} {c : Code} {D : va_G} {A : Nat → Prop} {H0 : Heap} {Q : State → Prop},
    x_Cx (xm_b (I M)) (xm_y (I M)).cls (xm_l (I M)) (xm_y (I M)).name (xm_c (I M)) (xm_s (I M)) p R s m args meth c → d ≤ R.frames → 64 * d ≤ R.locals → (∀ q : Nat, H0.size ≤ q → A q) → KK M R s A H0 V sc → PV V →
    (∀ t' ∈ Ls, x_Good cl V sc (xm_l (I M)) p l e R s m args below meth c D A H0 Q t') → x_Good cl V sc (xm_l (I M)) p l e R s m args below meth c D A H0 Q t
theorem x_rets_in {code : Nat → Nat → xE} {q : xM} {M : Nat} : ∀ {rs : List xS} {ls : List xK}, x_rets code q M rs = some ls → ∀ t ∈ rs, ∃ f k b lf, code M t.1 = (1, f, k, b) ∧ x_ret k q t = some lf ∧ lf ∈ ls
  | [], _, _, t, ht => absurd ht List.not_mem_nil
  | t0 :: rs, ls, h, t, ht => by
    unfold x_rets at h
    split at h
    · rename_i f k b hc
      split at h
      · rename_i lf hlf
        split at h
        · rename_i b' hb
          cases h
          rcases List.mem_cons.mp ht with rfl | ht
          · exact ⟨f, k, b, lf, hc, hlf, List.mem_cons_self⟩
          · obtain ⟨f', k', b'', lf', h1, h2, h3⟩ := x_rets_in hb t ht
            exact ⟨f', k', b'', lf', h1, h2, List.mem_cons_of_mem _ h3⟩
        · cases h
      · cases h
    · cases h
theorem x_loop_in {h e a : Nat} {c : Nat × Nat} {tk0 : xT} {u : xS} : ∀ {rs ex : List xS}, x_loop h e a c tk0 u rs = some ex → ∀ t ∈ rs, (x_again a c t u = true) ∨ (∃ t', x_out a tk0 t = some t' ∧ x_le a (99999, 99999) t t' = true ∧ t' ∈ ex)
  | [], _, _, t, ht => absurd ht List.not_mem_nil
  | t0 :: rs, ex, hh, t, ht => by
    unfold x_loop at hh
    cases h1 : Nat.beq t0.1 h with
    | true =>
      rw [h1] at hh
      simp only [cond_true] at hh
      cases h2 : x_again a c t0 u with
      | true =>
        rw [h2] at hh
        rcases List.mem_cons.mp ht with rfl | ht
        · exact Or.inl h2
        · exact x_loop_in hh t ht
      | false => rw [h2] at hh; cases hh
    | false =>
      rw [h1] at hh
      simp only [cond_false] at hh
      cases h2 : Nat.beq t0.1 e with
      | false => rw [h2] at hh; cases hh
      | true =>
        rw [h2] at hh
        simp only [cond_true] at hh
        split at hh
        · rename_i t' ho
          cases h3 : x_le a (99999, 99999) t0 t' with
          | false => rw [h3] at hh; cases hh
          | true =>
            rw [h3] at hh
            simp only [cond_true] at hh
            split at hh
            · rename_i b hb
              cases hh
              rcases List.mem_cons.mp ht with rfl | ht
              · exact Or.inr ⟨t', ho, h3, List.mem_cons_self⟩
              · rcases x_loop_in hb t ht with g | ⟨t2, g1, g2, g3⟩
                · exact Or.inl g
                · exact Or.inr ⟨t2, g1, g2, List.mem_cons_of_mem _ g3⟩
            · cases hh
        · cases hh
theorem x_inb_ok {tk : xT} {j : Nat} {lo hi n : Int} (h : x_inb tk j lo hi = true) (h1 : lo ≤ n) (h2 : n ≤ hi) : ∃ q, tk[j]? = some q ∧ q.1 ≤ n ∧ n ≤ q.2 := by
  unfold x_inb at h
  split at h
  · rename_i q hq
    simp only [Bool.and_eq_true, decide_eq_true_eq] at h
    exact ⟨q, hq, by omega, by omega⟩
  · cases h
theorem x_cb_ok {cl : List vw_C} {V : List Int} {sc : Nat × Nat × List Nat} {nL : Nat} {s : State} {D : va_G} {A : Nat → Prop} {H0 : Heap} {c : Nat} {t : xS} {b : Int × Int} {ls : Array Slot} {stk : List Value} {H : Heap} {locs : List Loc} (h : x_cb t c = some b) (hI : x_In cl V sc nL s D A H0 t ls stk H locs) : ∃ (n : Int32) (x : xV) (ad : List Nat), ls[c]? = some (.val (.int n)) ∧ b.1 ≤ n.toInt ∧ n.toInt ≤ b.2 ∧ x_find t.2.1 c = some x ∧ x_rel ad V sc x (.int n) := by
  unfold x_cb at h
  split at h
  · rename_i x hx
    obtain ⟨lv, ws, tys, h1, h2, h3, h4, h5, h6, h7, h8, h9⟩ := hI
    obtain ⟨k, v, hk, hr⟩ := x_find_ok h2 hx
    obtain ⟨n, rfl, n1, n2⟩ := x_bi_ok h9 h hr
    exact ⟨n, x, _, lv_at h1 k hk, n1, n2, hx, hr⟩
  · cases h
/-- into the picture at the head -/
theorem x_into {cl : List vw_C} {V : List Int} {sc : Nat × Nat × List Nat} {nL : Nat} {s : State} {D : va_G} {A : Nat → Prop} {H0 : Heap} {a : Nat} {c : Nat × Nat} {t u : xS} {ls : Array Slot} {stk : List Value} {H : Heap} {locs : List Loc} (hlen : a + 3 < V.length) (hle : x_le a c t u = true) (h : x_ctr a c t u = true) (hI : x_In cl V sc nL s D A H0 t ls stk H locs) :
    ∃ (n i : Int32), ls[c.1]? = some (.val (.int n)) ∧ ls[x_c2 c]? = some (.val (.int i)) ∧ (∃ q, u.2.2.2.2.1[a]? = some q ∧ q.1 ≤ n.toInt ∧ n.toInt ≤ q.2) ∧ x_In cl (x_vup V a n.toInt i.toInt) sc nL s D A H0 u ls stk H locs := by
  unfold x_ctr at h
  split at h
  · rename_i b b2 hb hb2
    simp only [Bool.and_eq_true] at h
    obtain ⟨n, x, ad, k1, k2, k3, k4, k5⟩ := x_cb_ok hb hI
    obtain ⟨i, x', ad', m1, m2, m3, m4, m5⟩ := x_cb_ok hb2 hI
    obtain ⟨q1, q1a, q1b⟩ := x_inb_ok h.1 k2 k3
    obtain ⟨q2, q2a, q2b⟩ := x_inb_ok (n := n.toInt + 1) h.2.1 (by omega) (by omega)
    obtain ⟨q3, q3a, q3b⟩ := x_inb_ok h.2.2.1 m2 m3
    obtain ⟨q4, q4a, q4b⟩ := x_inb_ok (n := i.toInt + 1) h.2.2.2 (by omega) (by omega)
    refine ⟨n, i, k1, m1, ⟨q1, q1a, q1b⟩, x_le_ok (x_vup_off V a n.toInt i.toInt) hle (fun ad' _ => ⟨.int n, k1, n, rfl, ?_⟩) (fun ad' hne => ⟨.int i, ?_, i, rfl, ?_⟩) (fun j z hj hz => ?_) hI⟩
    · simp only [Int.toNat_natCast]
      exact x_vup_a hlen
    · have e : x_c2 c = c.2 := by unfold x_c2; rw [x_nb hne]; rfl
      rw [← e]
      exact m1
    · simp only [Int.toNat_natCast]
      exact x_vup_b hlen
    · have hj4 : j = a ∨ j = a + 1 ∨ j = a + 2 ∨ j = a + 3 := by omega
      rcases hj4 with rfl | rfl | rfl | rfl
      · rw [q1a] at hz; cases hz; exact ⟨_, x_vup_a hlen, q1b⟩
      · rw [q2a] at hz; cases hz; exact ⟨_, x_vup_s hlen, q2b⟩
      · rw [q3a] at hz; cases hz; exact ⟨_, x_vup_b hlen, q3b⟩
      · rw [q4a] at hz; cases hz; exact ⟨_, x_vup_t hlen, q4b⟩
  · cases h
theorem x_out_tk {a : Nat} {tk0 : xT} {t t' : xS} (h : x_out a tk0 t = some t') : ∀ j q, (a ≤ j ∧ j ≤ a + 3) → t'.2.2.2.2.1[j]? = some q → tk0[j]? = some q := by
  unfold x_out at h
  split at h
  · rename_i q q' r r' hq hq' hr hr'
    cases h
    intro j z hj hz
    simp only [List.getElem?_set] at hz
    have hj4 : j = a ∨ j = a + 1 ∨ j = a + 2 ∨ j = a + 3 := by omega
    rcases hj4 with rfl | rfl | rfl | rfl
    · rw [if_neg (by omega), if_neg (by omega), if_neg (by omega), if_pos rfl] at hz
      split at hz
      · cases hz; exact hq
      · cases hz
    · rw [if_neg (by omega), if_neg (by omega), if_pos rfl] at hz
      split at hz
      · cases hz; exact hq'
      · cases hz
    · rw [if_neg (by omega), if_pos rfl] at hz
      split at hz
      · cases hz; exact hr
      · cases hz
    · rw [if_pos rfl] at hz
      split at hz
      · cases hz; exact hr'
      · cases hz
  · cases h
/-- a local by its picture -/
theorem x_lcl {cl : List vw_C} {V : List Int} {sc : Nat × Nat × List Nat} {nL : Nat} {s : State} {D : va_G} {A : Nat → Prop} {H0 : Heap} {c : Nat} {t : xS} {x : xV} {n : Int32} {ls : Array Slot} {stk : List Value} {H : Heap} {locs : List Loc} (hx : x_find t.2.1 c = some x) (hn : ls[c]? = some (.val (.int n))) (hI : x_In cl V sc nL s D A H0 t ls stk H locs) : ∃ ad, x_rel ad V sc x (.int n) := by
  obtain ⟨lv, ws, tys, h1, h2, h3, h4, h5, h6, h7, h8, h9⟩ := hI
  obtain ⟨k, v, hk, hr⟩ := x_find_ok h2 hx
  have e := lv_at h1 k hk
  rw [hn] at e
  cases e
  exact ⟨_, hr⟩
theorem x_tkn {ad : List Nat} {V : List Int} {sc : Nat × Nat × List Nat} {j : Nat} {n : Int32} (h : x_rel ad V sc (3, (j : Int), 0) (.int n)) : V[j]? = some n.toInt := by
  obtain ⟨z, e, h2⟩ := h
  cases e
  simpa using h2
def x_Met (PV : List Int → Prop) (cl : List vw_C) (I : Nat → xM) (l : Launch) (d M : Nat) (as : List xV) (w : List xC) (tk : xT) (ls : List xK) : Prop :=
  ∀ (V : List Int) (s1 s2 : Nat) (D : va_G) (ws : va_W) (tys : List (ClassId × FieldType)) (vs : List Value) (sz : Nat), x_all2 (x_rel (ws.map Prod.fst) V (s1, s2, ws.map Prod.fst)) as vs → x_world cl V (s1, s2, ws.map Prod.fst) tys w ws → x_tk tk V → PV V →
    Met l (xm_y (I M)) (x_ws (I M)) (x_rm d (I M)) (va_Pc vs (fun U => U.heap.size = sz ∧ va_P D cl ws U.heap ∧ va_K D cl tys U ∧ va_D (fun _ => True) ws ∧ x_Ex U)) (x_Q cl V (s1, s2, ws.map Prod.fst) D ws sz ls) (xm_c (I M)) (xm_s (I M)) (va_A ws sz)
theorem x_goodIn {q q' : xM} (h : Cond.code (xm_y q') (xm_b q') (xm_l q') (xm_r q') ∈ x_tbl) (hg : x_tbl.all goodWord = true) : GoodIn x_tbl (x_ws q') := by
  intro w hw
  rcases List.mem_cons.mp hw with rfl | hw
  · exact ⟨h, good_of_word (List.all_eq_true.mp hg _ h)⟩
  · exact ⟨hw, good_of_word (List.all_eq_true.mp hg _ hw)⟩
section X10
variable {fd : Nat} {PV : List Int → Prop} {cl : List vw_C} {KK : Nat → xKx} {I : Nat → xM} {code : Nat → Nat → xE} {lp : Nat → xLp} {l : Launch}
theorem x_met_of (hT : x_Tab fd PV cl KK I code) {n : Nat} (hF : x_Frm fd PV cl KK I code lp l n) {d M : Nat} {as : List xV} {w : List xC} {tk : xT} {rs : List xS} {ls : List xK} (hd : fd ≤ d) (hM : M ≠ 0) (hl : x_cats as ≤ xm_l (I M)) (h : x_go fd code lp I n d M (99999, 99999) (0, x_ent 0 as, [], w, tk, 0, 0) = some rs) (hrs : x_rets code (I M) M rs = some ls) : x_Met PV cl I l d M as w tk ls := by
  intro V s1 s2 D ws tys vs sz has hw htk hPV
  refine Met.ofW (cc := xm_b (I M)) (maxL := xm_l (I M)) (ret := xm_r (I M)) (hT.2.2.1 M) rfl ?_
  intro p e s m args below meth c s₁ B hml hv
  obtain ⟨rfl, hsz, hP, hK, hD0, hEx⟩ := hv
  have hx := B.exec
  have hb := B.bytes
  have hr := B.returns
  have hts := atoms_spec (ws := x_ws (I M)) B.pre
  have hown : s.vm.findClass (xm_y (I M)).cls = some m.cls := findClass_of_methodNamed B.named
  have hlocks := B.notSynchronized
  have hin : meth.name = (xm_y (I M)).name := (name_of_methodNamed B.named B.method).1
  subst hsz
  have hD := hD0.self (sz := s.heap.size)
  have hA : ∀ q : Nat, s.heap.size ≤ q → va_A ws s.heap.size q := fun q h => Or.inr h
  rw [lg_entry_eq]
  have hle : (lg_sl vs).length ≤ xm_l (I M) := by rw [(x_cats_ok has).2]; exact hl
  refine hF d M _ _ rs h (D := D) (A := va_A ws s.heap.size) (H0 := s.heap) ⟨⟨hx, hb, hml, hown, fun w hw => hts w (List.mem_cons_of_mem _ hw)⟩, hin, rfl, rfl, by show 1 ≤ d; have := hT.1; omega, by show 32 ≤ 64 * d; have := hT.1; omega, hEx⟩ (Nat.le_refl d) (Nat.le_refl (64 * d)) hA (hT.2.2.2.1 M hM _ _ _ _ _ _ hd (Nat.mul_le_mul_left 64 hd) hPV) hPV ?_ _ [] s.heap [] ⟨lv_args 0 vs, ws, tys, lv_entry vs hle, x_ent_ok 0 has, trivial, hw, hK, hP, hD, va_S.rf, htk⟩
  intro t ht ls' stk H locs hI
  obtain ⟨f, k, b, lf, hc, hlf, hmem⟩ := x_rets_in hrs t ht
  obtain ⟨lv, ws', tys', h1, h2, h3, h4, h5, h6, h7, h8, h9⟩ := hI
  unfold x_ret at hlf
  cases hbb : (Nat.ble t.2.2.2.2.2.1 (xm_c (I M)) && Nat.ble t.2.2.2.2.2.2 (xm_s (I M))) with
  | false => rw [hbb] at hlf; cases hlf
  | true =>
    rw [hbb] at hlf
    simp only [Bool.and_eq_true] at hbb
    have hE := hT.2.1 M t.1
    rw [hc] at hE
    replace hE : x_Rt (xm_b (I M)) (xm_r (I M)) t.1 k := hE
    replace hlf : x_retv k t = some lf := hlf
    refine W.widen (k := xm_c (I M)) (n := xm_s (I M)) (Nat.le_of_ble_eq_true hbb.1) (Nat.le_of_ble_eq_true hbb.2) ?_
    have fin : ∀ (v : Option Value) (T : State), x_all2 (x_rel (ws'.map Prod.fst) V (s1, s2, ws.map Prod.fst)) lf.1 v.toList → lf.2.1 = t.2.2.2.1 → lf.2.2 = t.2.2.2.2.1 → T.heap = H → s.WarmedH T.vm → x_Q cl V (s1, s2, ws.map Prod.fst) D ws s.heap.size ls vs.toArray s (.returned v) T := by
      intro v T hr e1 e2 hTh hW
      exact ⟨⟨lf, hmem, v, ws', tys', rfl, hr, by rw [e1]; exact h4, va_K.moved hW.alike h5, by rw [hTh]; exact h6, h7, by rw [e2]; exact h9⟩, h8.F hTh⟩
    unfold x_retv at hlf
    split at hlf
    · rename_i hst
      cases hlf
      rw [hst] at h3
      match stk, h3 with
      | [], _ =>
        obtain ⟨g1, g2⟩ := hE
        exact W.vret hx hb (by rw [hr, g2]) (fun T hTh hW => fin none T trivial rfl rfl hTh hW) h8.2.2 g1
    · rename_i x hst
      cases hy : Nat.beq (x_ty x) 0 with
      | false => rw [hy] at hlf; cases hlf
      | true =>
        rw [hy] at hlf
        cases hlf
        rw [hst] at h3
        match stk, h3 with
        | [v], h3 =>
          obtain ⟨g1, g2⟩ := hE
          have hk := x_ty_ok h3.1
          rw [Nat.eq_of_beq_eq_true hy] at hk
          obtain ⟨z, rfl⟩ := hk
          exact W.iret hx hb (by rw [hr, g2]) (fun T hTh hW => fin (some (.int z)) T h3 rfl rfl hTh hW) h8.2.2 g1
    · rename_i x hst
      cases hy : Nat.beq (x_ty x) 1 with
      | false => rw [hy] at hlf; cases hlf
      | true =>
        rw [hy] at hlf
        cases hlf
        rw [hst] at h3
        match stk, h3 with
        | [v], h3 =>
          obtain ⟨g1, g2⟩ := hE
          have hk := x_ty_ok h3.1
          rw [Nat.eq_of_beq_eq_true hy] at hk
          obtain ⟨z, rfl⟩ := hk
          exact W.lret hx hb (by rw [hr, g2]) (fun T hTh hW => fin (some (.long z)) T h3 rfl rfl hTh hW) h8.2.2 g1
    · rename_i x hst
      cases hy : Nat.beq (x_ty x) 2 with
      | false => rw [hy] at hlf; cases hlf
      | true =>
        rw [hy] at hlf
        cases hlf
        rw [hst] at h3
        match stk, h3 with
        | [v], h3 =>
          obtain ⟨g1, rt, g2, g3⟩ := hE
          have hk := x_ty_ok h3.1
          rw [Nat.eq_of_beq_eq_true hy] at hk
          exact W.aret hx hb (by rw [hr, g2]) g3 hk (fun T hTh hW => fin (some v) T h3 rfl rfl hTh hW) h8.2.2 g1
    · rename_i x hst
      cases hy : x_pkb t.2.2.2.2.1 1 x with
      | false => rw [hy] at hlf; cases hlf
      | true =>
        rw [hy] at hlf
        cases hlf
        rw [hst] at h3
        match stk, h3 with
        | [v], h3 =>
          obtain ⟨g1, g2⟩ := hE
          have hk : v = .int 0 ∨ v = .int 1 := x_pkb_ok h9 h3.1 hy
          rcases hk with rfl | rfl
          · exact W.zret hx hb (by rw [hr, g2]) (by decide) (fun T hTh hW => fin (some (.int 0)) T h3 rfl rfl hTh hW) h8.2.2 g1
          · exact W.zret hx hb (by rw [hr, g2]) (by decide) (fun T hTh hW => fin (some (.int 1)) T h3 rfl rfl hTh hW) h8.2.2 g1
    · cases hlf
theorem x_frm (hT : x_Tab fd PV cl KK I code) : ∀ n, x_Frm fd PV cl KK I code lp l n := by
  intro n
  induction n with
  | zero => intro d M sp t Ls h; cases h
  | succ n ih =>
    intro d M sp t Ls h V sc p e R s m args below meth c D A H0 Q C hd hdl hA hK hPV hret
    unfold x_go at h
    cases hsp : (Nat.beq t.1 sp.1 || Nat.beq t.1 sp.2) with
    | true =>
      rw [hsp] at h
      cases h
      exact hret t (List.mem_singleton.mpr rfl)
    | false =>
    rw [hsp] at h
    simp only [cond_false] at h
    have hE := hT.2.1 M t.1
    split at h
    · rename_i f a b hc
      rw [hc] at hE
      replace hE : x_Snd cl (KK M) (xm_b (I M)) (xm_y (I M)).cls (xm_l (I M)) (xm_y (I M)).name (xm_c (I M)) (xm_s (I M)) t.1 f := hE
      split at h
      · rename_i t' hf
        refine hE C hA hK t [t'] rfl hf (fun t2 h2 => ?_)
        rw [List.mem_singleton] at h2
        subst h2
        exact ih d M sp t2 Ls h C hd hdl hA hK hPV hret
      · rename_i l' hne hf
        refine hE C hA hK t l' rfl hf (fun t2 h2 => ?_)
        obtain ⟨a', ha, hin⟩ := x_each_in h t2 h2
        exact ih d M sp t2 a' ha C hd hdl hA hK hPV (fun t3 h3 => hret t3 (hin _ h3))
      · cases h
    · rename_i f k b hc
      cases h
      exact hret t (List.mem_singleton.mpr rfl)
    · rename_i f M' na hc
      rw [hc] at hE
      obtain ⟨h64, hE⟩ : x_Cl (xm_b (I M)) (xm_y (I M)).cls (xm_l (I M)) (xm_y (I M)).name (xm_c (I M)) (xm_s (I M)) t.1 (I M') na := hE
      cases d with
      | zero => cases h
      | succ d' =>
        simp only at h
        cases hb : x_may_call fd d' t M' na (I M) (I M') (t.2.2.1.take na).reverse (t.2.2.1.drop na) with
        | false => rw [hb] at h; cases h
        | true =>
          rw [hb] at h
          simp only [cond_true] at h
          unfold x_may_call at hb
          simp only [Bool.and_eq_true] at hb
          obtain ⟨b1, b2, b3, b4, b5, b6, b7, b8⟩ := hb
          have b1 := Nat.le_of_ble_eq_true b1
          have b2 := Nat.le_of_ble_eq_true b2
          have b3 := Nat.le_of_ble_eq_true b3
          have b4 := Nat.le_of_ble_eq_true b4
          have b5 := Nat.le_of_ble_eq_true b5
          have b6 := Nat.le_of_ble_eq_true b6
          have b7 := Nat.le_of_ble_eq_true b7
          have key : ∀ (rs : List xS) (ls : List xK), x_go fd code lp I n d' M' (99999, 99999) (0, x_ent 0 (t.2.2.1.take na).reverse, [], t.2.2.2.1, t.2.2.2.2.1, 0, 0) = some rs → x_rets code (I M') M' rs = some ls → (∀ lf ∈ ls, x_Good cl V sc (xm_l (I M)) p l e R s m args below meth c D A H0 Q (x_back t (t.2.2.1.drop na) (I M') lf)) → x_Good cl V sc (xm_l (I M)) p l e R s m args below meth c D A H0 Q t := by
            intro rs ls hls hrs hgo lsl stk H locs hI
            obtain ⟨lv, ws, tys, h1, h2, h3, h4, h5, h6, h7, h8, h9⟩ := hI
            have hspl := x_split na h3
            have hargs := x_all2_rev hspl.1
            have hM := x_met_of hT ih (l := l) b1 (by omega) b5 hls hrs V sc.1 sc.2.1 D ws tys (stk.take na).reverse H.size
              (x_all2_imp (fun a v hh => x_rel_sc rfl rfl hh) hargs)
              ⟨h4.1, ⟨[], by simp⟩, fun k x q hx hq => x_cell_sc rfl rfl (h4.2.2 k x q hx hq)⟩ h9 hPV
            have hlen : stk.length = t.2.2.1.length := (x_all2_len h3).symm
            have hvA : ∀ q : Nat, va_A ws H.size q → A q := by
              intro q hq
              rcases hq with ⟨k, e9, hk⟩ | hq
              · exact h7.2 k _ hk
              · exact hA q (Nat.le_trans h8.1 hq)
            have hrun := hE (e := e) (below := below) C (H := H) (locs := locs) (cells := t.2.2.2.2.2.1) (slots := t.2.2.2.2.2.2) (ls := lsl) (rest := stk.drop na) hM
              (fun a U g mk q => by obtain ⟨q0, q1, qP, qK, qD, qE⟩ := q; exact ⟨q0, q1, qP, va_K.moved (u := U) (U := U.calling g mk a) (Vm.Alike.refl U.vm) qK, qD, qE.same (U := U.calling g mk a) rfl⟩)
              (fun U hU hW => ⟨rfl, by rw [hU], by rw [hU]; exact h6, va_K.moved hW.alike h5, h7.weaken (fun _ _ _ _ => trivial), C.2.2.2.2.2.2.warm hW⟩)
              (by
                by_cases ho : xm_o (I M') = 999
                · exact Or.inl ho
                · refine Or.inr ?_
                  unfold x_rcv at b8
                  rw [x_nb ho] at b8
                  simp only [cond_false] at b8
                  split at b8
                  · rename_i j jb as' has'
                    split at b8
                    · rename_i c9 r9 hcell
                      have e9 := Nat.eq_of_beq_eq_true b8
                      rw [has'] at hargs
                      match hv : (stk.take na).reverse, hargs with
                      | v :: As, hargs =>
                        obtain ⟨a, ee, hq, rfl, hcc⟩ := x_ref h4 hargs.1 hcell
                        obtain ⟨fs, rfl, -, -⟩ := hcc
                        obtain ⟨r, hr1, hr2⟩ := hT.2.2.2.2.1 M' ho
                        rw [← e9] at hr1
                        obtain ⟨cellB, k1, k2, k3⟩ := va_recv h5 h6 hr1 hq
                        exact ⟨a, As, rfl, cellB, k1, k2, by rw [← hr2]; exact k3⟩
                    · cases b8
                  · cases b8)
              (by rw [List.length_reverse, List.length_take, hlen]; omega) rfl rfl (by show d' + 1 ≤ R.frames; omega) (by show 8 + (xm_l (I M') + 11) + 64 * d' ≤ R.locals; omega) h1.1
              (by rw [(x_cats_ok hspl.2).1]; exact b4) ⟨by rw [C.2.2.1]; exact b6, by rw [C.2.2.2.1]; exact b7⟩
            rw [List.reverse_reverse, List.take_append_drop] at hrun
            refine x_after hrun h8 (fun st v T hq => hq.2) (fun q _ h => hvA q h) hvA (fun v st T H1 locs1 hst hTh hal hq hS1 => ?_)
            obtain ⟨⟨lf, hlf, v', ws', tys', ev, hr, hw', hK', hP', hD', htk⟩, hFr⟩ := hq
            cases ev
            obtain ⟨l9, e9⟩ := hw'.2.1
            have e9 : ws'.map Prod.fst = ws.map Prod.fst ++ l9 := e9
            refine hgo lf hlf lsl (v.toList ++ stk.drop na) H1 locs1 ⟨lv, ws', tys', h1, ?_, ?_, ⟨hw'.1, ?_, fun k x q hx hq => x_cell_sc rfl rfl (hw'.2.2 k x q hx hq)⟩, va_K.moved hal.symm hK', by rw [← hTh]; exact hP', hD'.weaken (fun _ q _ h => hvA q.1 h), hS1, htk⟩
            · rw [e9]; exact x_lv_app h2
            · refine x_all2_app (x_all2_imp (fun a v hh => x_rel_sc rfl rfl hh) hr) ?_
              rw [e9]; exact x_stk_app hspl.2
            · obtain ⟨l0, e0⟩ := h4.2.1
              exact ⟨l0 ++ l9, by rw [e9, e0, List.append_assoc]⟩
          split at h
          · rename_i rs hls
            split at h
            · rename_i lf hrs
              refine key rs [lf] hls hrs (fun lf2 h2 => ?_)
              rw [List.mem_singleton] at h2
              subst h2
              exact ih (d' + 1) M sp _ Ls h C hd hdl hA hK hPV hret
            · rename_i ls hne hrs
              refine key rs ls hls hrs (fun lf2 h2 => ?_)
              obtain ⟨a', ha, hin⟩ := x_each_in h _ (List.mem_map_of_mem h2)
              exact ih (d' + 1) M sp _ a' ha C hd hdl hA hK hPV (fun t3 h3 => hret t3 (hin _ h3))
            · cases h
          · cases h
    · rename_i g L b hc
      rw [hc] at hE
      replace hE : x_Snd cl (KK M) (xm_b (I M)) (xm_y (I M)).cls (xm_l (I M)) (xm_y (I M)).name (xm_c (I M)) (xm_s (I M)) t.1 g := hE
      generalize hlp : lp L = lq at h
      obtain ⟨ci, wk, a, ep⟩ := lq
      simp only at h
      split at h
      · rename_i u hwk
        cases hb : x_enter fd d M a ci t u with
        | false => rw [hb] at h; cases h
        | true =>
          rw [hb] at h
          simp only [cond_true] at h
          split at h
          · rename_i l' hg
            split at h
            · rename_i rs hrs
              split at h
              · rename_i ex hex
                unfold x_enter at hb
                simp only [Bool.and_eq_true] at hb
                obtain ⟨c1, c2, c3, c5, c6, c7⟩ := hb
                have c1 := Nat.le_of_ble_eq_true c1
                have c2 := Nat.le_of_ble_eq_true c2
                have hupc : u.1 = t.1 := by
                  unfold x_le at c6
                  simp only [Bool.and_eq_true] at c6
                  exact (Nat.eq_of_beq_eq_true c6.1).symm
                have hexG : ∀ t' ∈ ex, x_Good cl V sc (xm_l (I M)) p l e R s m args below meth c D A H0 Q t' := fun t' ht' => by
                  obtain ⟨a', ha, hin⟩ := x_each_in h t' ht'
                  exact ih d M sp t' a' ha C hd hdl hA hK hPV (fun t3 h3 => hret t3 (hin _ h3))
                intro ls stk H locs hI
                have htk : x_tk t.2.2.2.2.1 V := by
                  obtain ⟨lv, ws, tys, h1, h2, h3, h4, h5, h6, h7, h8, h9⟩ := hI
                  exact h9
                obtain ⟨hlen, -, -, -, -⟩ := hT.2.2.2.2.2 V a 0 0 c3 hPV
                obtain ⟨n0, i0, u1, u2, ⟨q, hq, q1, q2⟩, hIn0⟩ := x_into hlen c6 c7 hI
                have main : ∀ (N : Nat) (U : List Int), x_off a V U → PV U → (∀ k, U[a]? = some k → (q.2 + 1 - k).toNat ≤ N) → x_Good cl U sc (xm_l (I M)) p l e R s m args below meth c D A H0 Q u := by
                  intro N
                  induction N with
                  | zero =>
                    intro U hoff hPU hN ls2 stk2 H2 locs2 hI2
                    have h9 : x_tk u.2.2.2.2.1 U := by
                      obtain ⟨lv, ws, tys, h1, h2, h3, h4, h5, h6, h7, h8, h9⟩ := hI2
                      exact h9
                    obtain ⟨k, z1, z2, z3⟩ := h9 a q hq
                    have := hN k z1
                    omega
                  | succ N ihN =>
                    intro U hoff hPU hN
                    have hKU := hT.2.2.2.1 M (by omega) R s A H0 U sc (Nat.le_trans c1 hd) (Nat.le_trans (Nat.mul_le_mul_left 64 c1) hdl) hPU
                    refine hE C hA hKU u l' hupc hg (fun t1 ht1 => ?_)
                    obtain ⟨a1, ha1, hin1⟩ := x_each_in hrs t1 ht1
                    refine ih d M (t.1, ep) t1 a1 ha1 C hd hdl hA hKU hPU (fun t2 ht2 => ?_)
                    rcases x_loop_in hex t2 (hin1 t2 ht2) with hag | ⟨t', ho, hle', hmem⟩
                    · intro ls2 stk2 H2 locs2 hI2
                      unfold x_again at hag
                      simp only [Bool.and_eq_true] at hag
                      obtain ⟨g1, g2, g3, g4⟩ := hag
                      obtain ⟨hlenU, hs1, hs2, hrel, -⟩ := hT.2.2.2.2.2 U a 0 0 c3 hPU
                      obtain ⟨n, i, w1, w2, ⟨q', hq', q1', q2'⟩, hIn⟩ := x_into hlenU g1 g2 hI2
                      rw [hq] at hq'
                      cases hq'
                      split at g3
                      · rename_i x hx
                        have ex9 := x_eqv_ok g3
                        subst ex9
                        obtain ⟨ad9, hr9⟩ := x_lcl hx w1 hI2
                        have hn9 : U[a + 1]? = some n.toInt := x_tkn hr9
                        rw [hn9] at hs1
                        cases hUa : U[a]? with
                        | none => rw [hUa] at hs1; cases hs1
                        | some k0 =>
                          rw [hUa] at hs1
                          have e7 : n.toInt = k0 + 1 := Option.some.inj hs1
                          have hle9 : a = 20 → i.toInt ≤ n.toInt := fun ea => by
                            subst ea
                            by_cases e2 : ci.2 = 99999
                            · have e3 : x_c2 ci = ci.1 := by unfold x_c2; rw [e2]; rfl
                              rw [e3, w1] at w2
                              cases w2
                              exact Int.le_refl _
                            · have e3 : x_c2 ci = ci.2 := by unfold x_c2; rw [x_nb e2]; rfl
                              rw [x_nb e2] at g4
                              simp only [Nat.beq_refl, Bool.not_false, Bool.and_self, cond_true] at g4
                              split at g4
                              · rename_i x2 hx2
                                rw [e3] at w2
                                obtain ⟨ad8, hr8⟩ := x_lcl hx2 w2 hI2
                                simp only [Bool.or_eq_true] at g4
                                rcases g4 with g4 | g4
                                · have ex8 := x_eqv_ok g4
                                  subst ex8
                                  have := hrel rfl k0 i.toInt hUa (x_tkn hr8)
                                  omega
                                · have ex8 := x_eqv_ok g4
                                  subst ex8
                                  have h23 : U[20 + 3]? = some i.toInt := x_tkn hr8
                                  rw [h23] at hs2
                                  cases hU2 : U[20 + 2]? with
                                  | none => rw [hU2] at hs2; cases hs2
                                  | some i0 =>
                                    rw [hU2] at hs2
                                    have e6 : i.toInt = i0 + 1 := Option.some.inj hs2
                                    have := hrel rfl k0 i0 hUa hU2
                                    omega
                              · cases g4
                          refine x_le_W g1 (ihN (x_vup U a n.toInt i.toInt) (hoff.trans (x_vup_off U a n.toInt i.toInt)) ((hT.2.2.2.2.2 U a n.toInt i.toInt c3 hPU).2.2.2.2 hle9) (fun k2 hk2 => ?_) ls2 stk2 H2 locs2 hIn)
                          rw [x_vup_a hlenU] at hk2
                          cases hk2
                          have := hN k0 hUa
                          omega
                      · cases g3
                    · intro ls2 stk2 H2 locs2 hI2
                      refine x_le_W hle' (hexG t' hmem ls2 stk2 H2 locs2 (x_le_ok hoff.symm hle' (fun _ z => absurd rfl z) (fun _ z => absurd rfl z) (fun j q hj hq => ?_) hI2))
                      exact htk j q (x_out_tk ho j q hj hq)
                have hle0 : a = 20 → i0.toInt ≤ n0.toInt := fun ea => by
                  subst ea
                  by_cases e2 : ci.2 = 99999
                  · have e3 : x_c2 ci = ci.1 := by unfold x_c2; rw [e2]; rfl
                    rw [e3, u1] at u2
                    cases u2
                    exact Int.le_refl _
                  · have e3 : x_c2 ci = ci.2 := by unfold x_c2; rw [x_nb e2]; rfl
                    unfold x_below at c5
                    rw [x_nb e2] at c5
                    simp only [Nat.beq_refl, Bool.not_false, Bool.and_self, cond_true] at c5
                    split at c5
                    · rename_i b b2 hb hb2
                      simp only [decide_eq_true_eq] at c5
                      obtain ⟨n, x, ad, k1, k2, k3, k4, k5⟩ := x_cb_ok hb hI
                      obtain ⟨i, x', ad', m1, m2, m3, m4, m5⟩ := x_cb_ok hb2 hI
                      rw [e3, m1] at u2
                      rw [k1] at u1
                      cases u1
                      cases u2
                      omega
                    · cases c5
                refine x_le_W c6 (main (q.2 + 1 - n0.toInt).toNat (x_vup V a n0.toInt i0.toInt) (x_vup_off V a n0.toInt i0.toInt) ((hT.2.2.2.2.2 V a n0.toInt i0.toInt c3 hPV).2.2.2.2 hle0) (fun k' hk' => ?_) ls stk H locs hIn0)
                rw [x_vup_a hlen] at hk'
                cases hk'
                exact Nat.le_refl _
              · cases h
            · cases h
          · cases h
      · split at h
        · rename_i t' hf
          refine hE C hA hK t [t'] rfl hf (fun t2 h2 => ?_)
          rw [List.mem_singleton] at h2
          subst h2
          exact ih d M sp t2 Ls h C hd hdl hA hK hPV hret
        · rename_i l' hne hf
          refine hE C hA hK t l' rfl hf (fun t2 h2 => ?_)
          obtain ⟨a', ha, hin⟩ := x_each_in h t2 h2
          exact ih d M sp t2 a' ha C hd hdl hA hK hPV (fun t3 h3 => hret t3 (hin _ h3))
        · cases h
    · rename_i f M' na hc
      rw [hc] at hE
      obtain ⟨h64, hE⟩ : x_Cl (xm_b (I M)) (xm_y (I M)).cls (xm_l (I M)) (xm_y (I M)).name (xm_c (I M)) (xm_s (I M)) t.1 (I M') na := hE
      cases d with
      | zero => cases h
      | succ d' =>
        simp only at h
        cases hb : (x_may_call fd d' t M' na (I M) (I M') (t.2.2.1.take na).reverse (t.2.2.1.drop na) && (Nat.beq (xm_o (I M')) 999 && ((t.2.2.1.take na).reverse).all x_num)) with
        | false => rw [hb] at h; cases h
        | true =>
          rw [hb] at h
          simp only [cond_true] at h
          unfold x_may_call at hb
          simp only [Bool.and_eq_true] at hb
          obtain ⟨⟨b1, b2, b3, b4, b5, b6, b7, b8⟩, b9, b10⟩ := hb
          have b1 := Nat.le_of_ble_eq_true b1
          have b2 := Nat.le_of_ble_eq_true b2
          have b3 := Nat.le_of_ble_eq_true b3
          have b4 := Nat.le_of_ble_eq_true b4
          have b5 := Nat.le_of_ble_eq_true b5
          have b6 := Nat.le_of_ble_eq_true b6
          have b7 := Nat.le_of_ble_eq_true b7
          split at h
          · rename_i rs hls
            split at h
            · rename_i lfs hrs
              cases hlg : x_longs lfs with
              | false => rw [hlg] at h; cases h
              | true =>
                rw [hlg] at h
                simp only [cond_true] at h
                have hgo := ih (d' + 1) M sp _ Ls h C hd hdl hA hK hPV hret
                intro lsl stk H locs hI
                obtain ⟨lv, ws, tys, h1, h2, h3, h4, h5, h6, h7, h8, h9⟩ := hI
                have hspl := x_split na h3
                have hargs := x_all2_rev hspl.1
                have hM := x_met_of hT ih (l := l) b1 (by omega) b5 hls hrs V sc.1 sc.2.1 D [] tys (stk.take na).reverse H.size
                  (x_nums_ok (by simpa using b10) hargs) ⟨rfl, ⟨[], rfl⟩, fun k x q hx hq => by simp at hx⟩ h9 hPV
                have hlen : stk.length = t.2.2.1.length := (x_all2_len h3).symm
                have hvA : ∀ q : Nat, va_A [] H.size q → H.size ≤ q := by
                  intro q hq
                  rcases hq with ⟨k, e9, hk⟩ | hq
                  · simp at hk
                  · exact hq
                have hrun := hE (e := e) (below := below) C (H := H) (locs := locs) (cells := t.2.2.2.2.2.1) (slots := t.2.2.2.2.2.2) (ls := lsl) (rest := stk.drop na) hM
                  (fun a U g mk q => by obtain ⟨q0, q1, qP, qK, qD, qE⟩ := q; exact ⟨q0, q1, qP, va_K.moved (u := U) (U := U.calling g mk a) (Vm.Alike.refl U.vm) qK, qD, qE.same (U := U.calling g mk a) rfl⟩)
                  (fun U hU hW => ⟨rfl, by rw [hU], fun k x hx => by simp at hx, va_K.moved hW.alike h5, ⟨fun i j x y hi => by simp at hi, fun k x hx => by simp at hx⟩, C.2.2.2.2.2.2.warm hW⟩)
                  (Or.inl (Nat.eq_of_beq_eq_true b9))
                  (by rw [List.length_reverse, List.length_take, hlen]; omega) rfl rfl (by show d' + 1 ≤ R.frames; omega) (by show 8 + (xm_l (I M') + 11) + 64 * d' ≤ R.locals; omega) h1.1
                  (by rw [(x_cats_ok hspl.2).1]; exact b4) ⟨by rw [C.2.2.1]; exact b6, by rw [C.2.2.2.1]; exact b7⟩
                rw [List.reverse_reverse, List.take_append_drop] at hrun
                refine x_after hrun h8 (fun st v T hq => hq.2) (fun q hq h => absurd (hvA q h) (Nat.not_le.mpr hq)) (fun q h => hA q (Nat.le_trans h8.1 (hvA q h))) (fun v st T H1 locs1 hst hTh hal hq hS1 => ?_)
                obtain ⟨⟨lf, hlf, v', ws', tys', ev, hr, hw', hK', hP', hD', htk⟩, hFr⟩ := hq
                cases ev
                have hl1 := List.all_eq_true.mp hlg lf hlf
                split at hl1
                · rename_i x hx
                  rw [hx] at hr
                  match v, hr with
                  | some v, hr =>
                    have hk := x_ty_ok hr.1
                    rw [Nat.eq_of_beq_eq_true hl1] at hk
                    obtain ⟨z, rfl⟩ := hk
                    refine hgo lsl (.long z :: stk.drop na) H1 locs1 ⟨lv, ws, tys, h1, h2, ⟨x_anyL_ok z, hspl.2⟩, h4, h5, h6.kept (fun k x hx => ?_), h7, hS1, h9⟩
                    have hlt := (h6 k x hx).lt
                    rw [← hTh, hFr.2 x.1 (by rw [hst]; exact hlt) (fun q => absurd (hvA _ q) (Nat.not_le.mpr hlt)), hst]
                  | none, hr => exact hr.elim
                · cases hl1
            · cases h
          · cases h
    · cases h
end X10
end
end
section
noncomputable section
/-! rows of the tables: an instruction's decoding gives its trust -/
theorem x_c {z : Int} {v : Int32} (h : v.toInt = z) : ∀ ad V sc, x_rel ad V sc (0, z, z) (.int v) := fun _ _ _ => ⟨v, rfl, by rw [h]; exact Int.le_refl z, by rw [h]; exact Int.le_refl z⟩
theorem x_cL {z : Int} {v : Int64} (h : v.toInt = z) : ∀ ad V sc, x_rel ad V sc (4, z, z) (.long v) := fun _ _ _ => ⟨v, rfl, by rw [h]; exact Int.le_refl z, by rw [h]; exact Int.le_refl z⟩
theorem x_lin {u v c : Int} (h1 : u ≤ c) (h2 : c ≤ v) (k : Int) : x_min (u * k) (v * k) ≤ c * k ∧ c * k ≤ x_max (u * k) (v * k) := by
  rcases Int.le_total 0 k with hk | hk
  · exact ⟨x_min_l (Int.mul_le_mul_of_nonneg_right h1 hk), x_max_r (Int.mul_le_mul_of_nonneg_right h2 hk)⟩
  · exact ⟨x_min_r (Int.mul_le_mul_of_nonpos_right h2 hk), x_max_l (Int.mul_le_mul_of_nonpos_right h1 hk)⟩
def xF_add (a b : Int × Int) : Option xV := some (x_I (a.1 + b.1) (a.2 + b.2))
def xF_sub (a b : Int × Int) : Option xV := some (x_I (a.1 - b.2) (a.2 - b.1))
def xF_mul (a b : Int × Int) : Option xV := some (x_I (x_min (x_min (a.1 * b.1) (a.2 * b.1)) (x_min (a.1 * b.2) (a.2 * b.2))) (x_max (x_max (a.1 * b.1) (a.2 * b.1)) (x_max (a.1 * b.2) (a.2 * b.2))))
def xF_neg (a : Int × Int) : xV := x_I (-a.2) (-a.1)
def xF_and63 (_ b : Int × Int) : Option xV := bif decide (b.1 = 63) && decide (b.2 = 63) then some (0, 0, 63) else none
def xF_any (_ _ : Int × Int) : Option xV := some x_any
def xF_byte (a : Int × Int) : xV := bif decide (-128 ≤ a.1) && decide (a.2 ≤ 127) then (0, a) else (0, -128, 127)
theorem x_corner {a1 a2 b1 b2 x y : Int} (h1 : a1 ≤ x) (h2 : x ≤ a2) (h3 : b1 ≤ y) (h4 : y ≤ b2) : x_min (x_min (a1 * b1) (a2 * b1)) (x_min (a1 * b2) (a2 * b2)) ≤ x * y ∧ x * y ≤ x_max (x_max (a1 * b1) (a2 * b1)) (x_max (a1 * b2) (a2 * b2)) := by
  obtain ⟨p1, p2⟩ := x_lin h1 h2 b1
  obtain ⟨q1, q2⟩ := x_lin h1 h2 b2
  obtain ⟨r1, r2⟩ := x_lin h3 h4 x
  rw [Int.mul_comm y x, Int.mul_comm b1 x, Int.mul_comm b2 x] at r1 r2
  constructor
  · refine Int.le_trans ?_ r1
    exact x_le_min (x_min_l p1) (x_min_r q1)
  · refine Int.le_trans r2 ?_
    exact x_max_le (x_max_l p2) (x_max_r q2)
section X11
variable {cl : List vw_C} {K : xKx} {cc : ByteArray} {own : String} {nL : Nat} {nm : String} {MC MS pc : Nat}
theorem xr_iconst {n z : Int} {v : Int32} (d : decode cc pc = .ok (.iconst n, 1)) (hv : Int32.ofInt n = v) (hz : v.toInt = z) : x_Snd cl K cc own nL nm MC MS pc (xi_push (0, z, z) (pc + 1)) := xi_push_ok (fun S => fun k => lv_iconst S.1 S.2.1 d hv k) (x_c hz)
theorem xr_bipush {n z : Int} {v : Int32} (d : decode cc pc = .ok (.bipush n, 2)) (hv : (Int8.ofInt n).toInt32 = v) (hz : v.toInt = z) : x_Snd cl K cc own nL nm MC MS pc (xi_push (0, z, z) (pc + 2)) := xi_push_ok (fun S => fun k => lv_bipush S.1 S.2.1 d hv k) (x_c hz)
theorem xr_sipush {n z : Int} {v : Int32} (d : decode cc pc = .ok (.sipush n, 3)) (hv : (Int16.ofInt n).toInt32 = v) (hz : v.toInt = z) : x_Snd cl K cc own nL nm MC MS pc (xi_push (0, z, z) (pc + 3)) := xi_push_ok (fun S => fun k => lv_sipush S.1 S.2.1 d hv k) (x_c hz)
theorem xr_ldc {ix : Nat} {z : Int} {v : Int32} (d : decode cc pc = .ok (.ldc ix, 2)) (hw : Cond.constant own ix v ∈ x_tbl) (hz : v.toInt = z) : x_Snd cl K cc own nL nm MC MS pc (xi_push (0, z, z) (pc + 2)) := xi_push_ok (fun S => fun k => lv_ldc S.1 S.2.1 S.2.2.2.1 (S.2.2.2.2 _ hw) d k) (x_c hz)
theorem xr_ldcw {ix : Nat} {z : Int} {v : Int32} (d : decode cc pc = .ok (.ldc_w ix, 3)) (hw : Cond.constant own ix v ∈ x_tbl) (hz : v.toInt = z) : x_Snd cl K cc own nL nm MC MS pc (xi_push (0, z, z) (pc + 3)) := xi_push_ok (fun S => fun k => lv_ldcw S.1 S.2.1 S.2.2.2.1 (S.2.2.2.2 _ hw) d k) (x_c hz)
theorem xr_ldc2 {ix : Nat} {z : Int} {v : Int64} (d : decode cc pc = .ok (.ldc2_w ix, 3)) (hw : Cond.constantLong own ix v ∈ x_tbl) (hz : v.toInt = z) : x_Snd cl K cc own nL nm MC MS pc (xi_push (4, z, z) (pc + 3)) := xi_push_ok (fun S => fun k => lv_ldc2 S.1 S.2.1 S.2.2.2.1 (S.2.2.2.2 _ hw) d k) (x_cL hz)
theorem xr_lconst {n : Fin 2} {z : Int} {v : Int64} (d : decode cc pc = .ok (.lconst n, 1)) (hv : Int64.ofNat n = v) (hz : v.toInt = z) : x_Snd cl K cc own nL nm MC MS pc (xi_push (4, z, z) (pc + 1)) := xi_push_ok (fun S => fun k => lv_lconst S.1 S.2.1 d hv k) (x_cL hz)
theorem xr_null (d : decode cc pc = .ok (.aconst_null, 1)) : x_Snd cl K cc own nL nm MC MS pc (xi_push (2, 0, 0) (pc + 1)) := xi_push_ok (x := (2, 0, 0)) (v := .null) (fun S => fun k => lv_null S.1 S.2.1 d k) (fun _ _ _ => rfl)
theorem xr_iload_n {i : Fin 4} (d : decode cc pc = .ok (.iload_n i, 1)) : x_Snd cl K cc own nL nm MC MS pc (xi_load i 0 (pc + 1)) := xi_load_ok (fun S => fun hl hk k => by obtain ⟨n, rfl⟩ := hk; exact lv_iload_n S.1 S.2.1 d rfl hl k)
theorem xr_iload {i : Nat} (d : decode cc pc = .ok (.iload i, 2)) : x_Snd cl K cc own nL nm MC MS pc (xi_load i 0 (pc + 2)) := xi_load_ok (fun S => fun hl hk k => by obtain ⟨n, rfl⟩ := hk; exact lv_iload S.1 S.2.1 d hl k)
theorem xr_lload_n {i : Fin 4} (d : decode cc pc = .ok (.lload_n i, 1)) : x_Snd cl K cc own nL nm MC MS pc (xi_load i 1 (pc + 1)) := xi_load_ok (fun S => fun hl hk k => by obtain ⟨n, rfl⟩ := hk; exact lv_lload_n S.1 S.2.1 d rfl hl k)
theorem xr_lload {i : Nat} (d : decode cc pc = .ok (.lload i, 2)) : x_Snd cl K cc own nL nm MC MS pc (xi_load i 1 (pc + 2)) := xi_load_ok (fun S => fun hl hk k => by obtain ⟨n, rfl⟩ := hk; exact lv_lload S.1 S.2.1 d hl k)
theorem xr_aload_n {i : Fin 4} (d : decode cc pc = .ok (.aload_n i, 1)) : x_Snd cl K cc own nL nm MC MS pc (xi_load i 2 (pc + 1)) := xi_load_ok (fun S => fun hl hk k => by rcases hk with rfl | ⟨a, rfl⟩; exact lv_aload_nN S.1 S.2.1 d rfl hl k; exact lv_aload_n S.1 S.2.1 d rfl hl k)
theorem xr_aload {i : Nat} (d : decode cc pc = .ok (.aload i, 2)) : x_Snd cl K cc own nL nm MC MS pc (xi_load i 2 (pc + 2)) := xi_load_ok (fun S => fun hl hk k => by rcases hk with rfl | ⟨a, rfl⟩; exact lv_aloadN S.1 S.2.1 d hl k; exact lv_aload S.1 S.2.1 d hl k)
theorem xr_istore_n {i : Fin 4} (d : decode cc pc = .ok (.istore_n i, 1)) (hn : (i : Nat) < nL) : x_Snd cl K cc own nL nm MC MS pc (xi_stor i 0 (pc + 1)) := xi_stor_ok (fun S => fun hl hk k => by obtain ⟨n, rfl⟩ := hk; exact lv_istore_n S.1 S.2.1 d rfl hl hn rfl k)
theorem xr_istore {i : Nat} (d : decode cc pc = .ok (.istore i, 2)) (hn : i < nL) : x_Snd cl K cc own nL nm MC MS pc (xi_stor i 0 (pc + 2)) := xi_stor_ok (fun S => fun hl hk k => by obtain ⟨n, rfl⟩ := hk; exact lv_istore S.1 S.2.1 d hl hn rfl k)
theorem xr_lstore_n {i : Fin 4} (d : decode cc pc = .ok (.lstore_n i, 1)) (hn : (i : Nat) + 1 < nL) : x_Snd cl K cc own nL nm MC MS pc (xi_stor i 1 (pc + 1)) := xi_stor_ok (fun S => fun hl hk k => by obtain ⟨n, rfl⟩ := hk; exact lv_lstore_n S.1 S.2.1 d rfl hl hn rfl k)
theorem xr_lstore {i : Nat} (d : decode cc pc = .ok (.lstore i, 2)) (hn : i + 1 < nL) : x_Snd cl K cc own nL nm MC MS pc (xi_stor i 1 (pc + 2)) := xi_stor_ok (fun S => fun hl hk k => by obtain ⟨n, rfl⟩ := hk; exact lv_lstore S.1 S.2.1 d hl hn rfl k)
theorem xr_astore_n {i : Fin 4} (d : decode cc pc = .ok (.astore_n i, 1)) (hn : (i : Nat) < nL) : x_Snd cl K cc own nL nm MC MS pc (xi_stor i 2 (pc + 1)) := xi_stor_ok (fun S => fun hl hk k => by rcases hk with rfl | ⟨a, rfl⟩; exact lv_astore_nN S.1 S.2.1 d rfl hl hn rfl k; exact lv_astore_n S.1 S.2.1 d rfl hl hn rfl k)
theorem xr_astore {i : Nat} (d : decode cc pc = .ok (.astore i, 2)) (hn : i < nL) : x_Snd cl K cc own nL nm MC MS pc (xi_stor i 2 (pc + 2)) := xi_stor_ok (fun S => fun hl hk k => by rcases hk with rfl | ⟨a, rfl⟩; exact lv_astoreN S.1 S.2.1 d hl hn rfl k; exact lv_astore S.1 S.2.1 d hl hn rfl k)
theorem xr_iinc {i : Nat} {n : Int} (d : decode cc pc = .ok (.iinc i n, 3)) (hn : i < nL) (hz : -2147483648 ≤ n ∧ n ≤ 2147483647) : x_Snd cl K cc own nL nm MC MS pc (xi_inc i n (pc + 3)) := xi_inc_ok hz (fun S => fun hl hk k => lv_iinc S.1 S.2.1 d hl hk rfl hn rfl k)
theorem xr_goto {off : Int} {tg : Nat} (d : decode cc pc = .ok (.goto off, 3)) (ht : (pc : Int) + off = (tg : Int)) : x_Snd cl K cc own nL nm MC MS pc (xi_goto tg) := xi_goto_ok (fun S => fun k => lv_goto S.1 S.2.1 d ht k)
theorem xr_iadd (d : decode cc pc = .ok (.iadd, 1)) : x_Snd cl K cc own nL nm MC MS pc (xi_bin xF_add (pc + 1)) := xi_bin_ok (g := fun x y => x + y) (fun _ => True) (fun x y _ => (fun S => fun k => lv_iadd S.1 S.2.1 d k)) (fun a b z x y h h1 h2 h3 h4 => ⟨trivial, fun ad V sc => by cases h; exact x_I_ok (Int32.toInt_add x y) (by omega) (by omega)⟩)
theorem xr_isub (d : decode cc pc = .ok (.isub, 1)) : x_Snd cl K cc own nL nm MC MS pc (xi_bin xF_sub (pc + 1)) := xi_bin_ok (g := fun x y => x - y) (fun _ => True) (fun x y _ => (fun S => fun k => lv_isub S.1 S.2.1 d k)) (fun a b z x y h h1 h2 h3 h4 => ⟨trivial, fun ad V sc => by cases h; exact x_I_ok (Int32.toInt_sub x y) (by omega) (by omega)⟩)
theorem xr_imul (d : decode cc pc = .ok (.imul, 1)) : x_Snd cl K cc own nL nm MC MS pc (xi_bin xF_mul (pc + 1)) := xi_bin_ok (g := fun x y => x * y) (fun _ => True) (fun x y _ => (fun S => fun k => lv_imul S.1 S.2.1 d k)) (fun a b z x y h h1 h2 h3 h4 => ⟨trivial, fun ad V sc => by cases h; exact x_I_ok (Int32.toInt_mul x y) (x_corner h1 h2 h3 h4).1 (x_corner h1 h2 h3 h4).2⟩)
theorem xr_iand (d : decode cc pc = .ok (.iand, 1)) : x_Snd cl K cc own nL nm MC MS pc (xi_bin xF_and63 (pc + 1)) := xi_bin_ok (g := fun x y => x &&& y) (fun _ => True) (fun x y _ => (fun S => fun k => lv_iand S.1 S.2.1 d k)) (fun a b z x y h h1 h2 h3 h4 => ⟨trivial, fun ad V sc => by
  unfold xF_and63 at h
  cases hb : (decide (b.1 = 63) && decide (b.2 = 63)) with
  | false => rw [hb] at h; cases h
  | true =>
    rw [hb] at h
    cases h
    simp only [Bool.and_eq_true, decide_eq_true_eq] at hb
    have e : y = 63 := Int32.toInt_inj.mp (by rw [show (63 : Int32).toInt = 63 from by decide]; omega)
    subst e
    obtain ⟨j, hj, ej⟩ := pk_andE x (m := 63) 6 (by decide)
    have e2 : (x &&& 63).toInt = j := by rw [ej]; exact nI_toInt (by omega)
    exact ⟨_, rfl, by show (0 : Int) ≤ _; omega, by show _ ≤ (63 : Int); omega⟩⟩)
theorem xr_ishr (d : decode cc pc = .ok (.ishr, 1)) : x_Snd cl K cc own nL nm MC MS pc (xi_bin xF_any (pc + 1)) := xi_bin_ok (g := fun x y => x >>> (y &&& 31)) (fun _ => True) (fun x y _ => (fun S => fun k => lv_ishr S.1 S.2.1 d k)) (fun a b z x y h h1 h2 h3 h4 => ⟨trivial, fun ad V sc => by cases h; exact x_any_ok _⟩)
theorem xr_ineg (d : decode cc pc = .ok (.ineg, 1)) : x_Snd cl K cc own nL nm MC MS pc (xi_un xF_neg (pc + 1)) := xi_un_ok (g := fun x => .int (-x)) (fun x => (fun S => fun k => lv_ineg S.1 S.2.1 d k)) (fun a x h1 h2 ad V sc => x_I_ok (Int32.toInt_neg x) (by omega) (by omega))
theorem xr_i2b (d : decode cc pc = .ok (.i2b, 1)) : x_Snd cl K cc own nL nm MC MS pc (xi_un xF_byte (pc + 1)) := xi_un_ok (g := fun x => .int x.toInt8.toInt32) (fun x => (fun S => fun k => lv_i2b S.1 S.2.1 d rfl k)) (fun a x h1 h2 ad V sc => by
  have h := (x_nrw_ok (ad := ad) (V := V) (sc := sc) (kd := 2) (x := (0, a)) (b := a) (n := x) ⟨x, rfl, h1, h2⟩ h1 h2).1
  unfold x_nrw at h
  unfold xF_byte
  cases hb : (decide (-128 ≤ a.1) && decide (a.2 ≤ 127)) with
  | true => rw [hb] at h; exact h
  | false => rw [hb] at h; exact h)
theorem xr_i2l (d : decode cc pc = .ok (.i2l, 1)) : x_Snd cl K cc own nL nm MC MS pc (xi_i2l (pc + 1)) := xi_i2l_ok (fun x => (fun S => fun k => lv_i2l S.1 S.2.1 d rfl k))
theorem xr_lcmp (d : decode cc pc = .ok (.lcmp, 1)) : x_Snd cl K cc own nL nm MC MS pc (xi_lcmp (pc + 1)) := xi_lcmp_ok (fun x y => (fun S => fun k => W.lcmp S.1 S.2.1 d k))
def xF_addL (a b : Int × Int) : Option xV := some (x_J (a.1 + b.1) (a.2 + b.2))
def xF_subL (a b : Int × Int) : Option xV := some (x_J (a.1 - b.2) (a.2 - b.1))
theorem xr_ladd (d : decode cc pc = .ok (.ladd, 1)) : x_Snd cl K cc own nL nm MC MS pc (xi_binL xF_addL (pc + 1)) := xi_binL_ok (g := fun x y => x + y) (fun _ => True) (fun x y _ => (fun S => fun k => lv_ladd S.1 S.2.1 d k)) (fun a b z x y h h1 h2 h3 h4 => ⟨trivial, fun ad V sc => by cases h; exact x_J_ok (Int64.toInt_add x y) (by omega) (by omega)⟩)
theorem xr_lsub (d : decode cc pc = .ok (.lsub, 1)) : x_Snd cl K cc own nL nm MC MS pc (xi_binL xF_subL (pc + 1)) := xi_binL_ok (g := fun x y => x - y) (fun _ => True) (fun x y _ => (fun S => fun k => lv_lsub S.1 S.2.1 d k)) (fun a b z x y h h1 h2 h3 h4 => ⟨trivial, fun ad V sc => by cases h; exact x_J_ok (Int64.toInt_sub x y) (by omega) (by omega)⟩)
theorem x_le32 {x y : Int32} : x ≤ y ↔ x.toInt ≤ y.toInt := Int32.le_iff_toInt_le
theorem x_lt32 {x y : Int32} : x < y ↔ x.toInt < y.toInt := Int32.lt_iff_toInt_lt
theorem x_eq32 {x y : Int32} : x = y ↔ x.toInt = y.toInt := Int32.toInt_inj.symm
theorem xr_icmpeq {off : Int} {tg : Nat} (d : decode cc pc = .ok (.if_icmp .eq off, 3)) (ht : (pc : Int) + off = (tg : Int)) : x_Snd cl K cc own nL nm MC MS pc (xi_if2 0 tg (pc + 3)) := xi_if2_ok (k := 0) (fun S => fun kt kf => lv_icmp_eq S.1 S.2.1 d ht (fun h => kt (x_eq32.mp h)) (fun h => kf (fun q => h (x_eq32.mpr q))))
theorem xr_icmpne {off : Int} {tg : Nat} (d : decode cc pc = .ok (.if_icmp .ne off, 3)) (ht : (pc : Int) + off = (tg : Int)) : x_Snd cl K cc own nL nm MC MS pc (xi_if2 1 tg (pc + 3)) := xi_if2_ok (k := 1) (fun S => fun kt kf => lv_icmp_ne S.1 S.2.1 d ht (fun h => kt (fun q => h (x_eq32.mpr q))) (fun h => kf (fun q => q (x_eq32.mp h))))
theorem xr_icmplt {off : Int} {tg : Nat} (d : decode cc pc = .ok (.if_icmp .lt off, 3)) (ht : (pc : Int) + off = (tg : Int)) : x_Snd cl K cc own nL nm MC MS pc (xi_if2 2 tg (pc + 3)) := xi_if2_ok (k := 2) (fun S => fun kt kf => lv_icmp_lt S.1 S.2.1 d ht (fun h => kt (x_lt32.mp h)) (fun h => kf (fun q => h (x_lt32.mpr q))))
theorem xr_icmpge {off : Int} {tg : Nat} (d : decode cc pc = .ok (.if_icmp .ge off, 3)) (ht : (pc : Int) + off = (tg : Int)) : x_Snd cl K cc own nL nm MC MS pc (xi_if2 3 tg (pc + 3)) := xi_if2_ok (k := 3) (fun S => fun kt kf => lv_icmp_ge S.1 S.2.1 d ht (fun h => kt (x_le32.mp h)) (fun h => kf (fun q => h (x_le32.mpr q))))
theorem xr_icmpgt {off : Int} {tg : Nat} (d : decode cc pc = .ok (.if_icmp .gt off, 3)) (ht : (pc : Int) + off = (tg : Int)) : x_Snd cl K cc own nL nm MC MS pc (xi_if2 4 tg (pc + 3)) := xi_if2_ok (k := 4) (fun S => fun kt kf => lv_icmp_gt S.1 S.2.1 d ht (fun h => kt (x_lt32.mp h)) (fun h => kf (fun q => h (x_lt32.mpr q))))
theorem xr_icmple {off : Int} {tg : Nat} (d : decode cc pc = .ok (.if_icmp .le off, 3)) (ht : (pc : Int) + off = (tg : Int)) : x_Snd cl K cc own nL nm MC MS pc (xi_if2 5 tg (pc + 3)) := xi_if2_ok (k := 5) (fun S => fun kt kf => lv_icmp_le S.1 S.2.1 d ht (fun h => kt (x_le32.mp h)) (fun h => kf (fun q => h (x_le32.mpr q))))
theorem x_z : (0 : Int32).toInt = 0 := by decide
theorem x_eq0 {x : Int32} : x = 0 ↔ x.toInt = 0 := by rw [x_eq32, x_z]
theorem x_lt0 {x : Int32} : x < 0 ↔ x.toInt < 0 := by rw [x_lt32, x_z]
theorem x_gt0 {x : Int32} : 0 < x ↔ 0 < x.toInt := by rw [x_lt32, x_z]
theorem x_le0 {x : Int32} : x ≤ 0 ↔ x.toInt ≤ 0 := by rw [x_le32, x_z]
theorem x_ge0 {x : Int32} : 0 ≤ x ↔ 0 ≤ x.toInt := by rw [x_le32, x_z]
theorem xr_ifeq {off : Int} {tg : Nat} (d : decode cc pc = .ok (.ifCond .eq off, 3)) (ht : (pc : Int) + off = (tg : Int)) : x_Snd cl K cc own nL nm MC MS pc (xi_if1 0 tg (pc + 3)) := xi_if1_ok (k := 0) (fun S => fun kt kf => lv_if_eq S.1 S.2.1 d ht (fun h => kt (x_eq0.mp h)) (fun h => kf (fun q => h (x_eq0.mpr q))))
theorem xr_ifne {off : Int} {tg : Nat} (d : decode cc pc = .ok (.ifCond .ne off, 3)) (ht : (pc : Int) + off = (tg : Int)) : x_Snd cl K cc own nL nm MC MS pc (xi_if1 1 tg (pc + 3)) := xi_if1_ok (k := 1) (fun S => fun kt kf => lv_if_ne S.1 S.2.1 d ht (fun h => kt (fun q => h (x_eq0.mpr q))) (fun h => kf (fun q => q (x_eq0.mp h))))
theorem xr_iflt {off : Int} {tg : Nat} (d : decode cc pc = .ok (.ifCond .lt off, 3)) (ht : (pc : Int) + off = (tg : Int)) : x_Snd cl K cc own nL nm MC MS pc (xi_if1 2 tg (pc + 3)) := xi_if1_ok (k := 2) (fun S => fun kt kf => lv_if_lt S.1 S.2.1 d ht (fun h => kt (x_lt0.mp h)) (fun h => kf (fun q => h (x_lt0.mpr q))))
theorem xr_ifge {off : Int} {tg : Nat} (d : decode cc pc = .ok (.ifCond .ge off, 3)) (ht : (pc : Int) + off = (tg : Int)) : x_Snd cl K cc own nL nm MC MS pc (xi_if1 3 tg (pc + 3)) := xi_if1_ok (k := 3) (fun S => fun kt kf => lv_if_ge S.1 S.2.1 d ht (fun h => kt (x_ge0.mp h)) (fun h => kf (fun q => h (x_ge0.mpr q))))
theorem xr_ifgt {off : Int} {tg : Nat} (d : decode cc pc = .ok (.ifCond .gt off, 3)) (ht : (pc : Int) + off = (tg : Int)) : x_Snd cl K cc own nL nm MC MS pc (xi_if1 4 tg (pc + 3)) := xi_if1_ok (k := 4) (fun S => fun kt kf => lv_if_gt S.1 S.2.1 d ht (fun h => kt (x_gt0.mp h)) (fun h => kf (fun q => h (x_gt0.mpr q))))
theorem xr_ifle {off : Int} {tg : Nat} (d : decode cc pc = .ok (.ifCond .le off, 3)) (ht : (pc : Int) + off = (tg : Int)) : x_Snd cl K cc own nL nm MC MS pc (xi_if1 5 tg (pc + 3)) := xi_if1_ok (k := 5) (fun S => fun kt kf => lv_if_le S.1 S.2.1 d ht (fun h => kt (x_le0.mp h)) (fun h => kf (fun q => h (x_le0.mpr q))))
theorem xr_dup (d : decode cc pc = .ok (.dup, 1)) : x_Snd cl K cc own nL nm MC MS pc (xi_stk xf_dup (pc + 1)) := xf_dup_ok (fun v h => (fun S => fun k => lv_dup S.1 S.2.1 d h k))
theorem xr_pop (d : decode cc pc = .ok (.pop, 1)) : x_Snd cl K cc own nL nm MC MS pc (xi_stk xf_pop (pc + 1)) := xf_pop_ok (fun v h => (fun S => fun k => lv_pop S.1 S.2.1 d h k))
theorem xr_dup2 (d : decode cc pc = .ok (.dup2, 1)) : x_Snd cl K cc own nL nm MC MS pc (xi_stk xf_dup2 (pc + 1)) := xf_dup2_ok (fun v u h h' => (fun S => fun k => lv_dup2_11 S.1 S.2.1 d h h' k))
theorem xr_dup_x1 (d : decode cc pc = .ok (.dup_x1, 1)) : x_Snd cl K cc own nL nm MC MS pc (xi_stk xf_dupx1 (pc + 1)) := xf_dupx1_ok (fun v u h h' => (fun S => fun k => lv_dup_x1 S.1 S.2.1 d h h' k))
theorem xr_dup_x2 (d : decode cc pc = .ok (.dup_x2, 1)) : x_Snd cl K cc own nL nm MC MS pc (xi_stk xf_dupx2 (pc + 1)) := xf_dupx2_ok (fun v u w h h' h'' => (fun S => fun k => lv_dup_x2 S.1 S.2.1 d h h' h'' k))
theorem xr_iaload (d : decode cc pc = .ok (.iaload, 1)) : x_Snd cl K cc own nL nm MC MS pc (xi_ald false (pc + 1)) := xi_ald_ok (fun kd hk => by
  have e := Nat.eq_of_beq_eq_true hk
  subst e
  intro p l e R s m args below meth c C H locs cells slots Q ls rest D tys ws a q0 t0 n cA f i h1 h2 h3 h4 h5 k
  exact va_iald C.1.1 C.1.2.1 h1 h2 _ _ h3 h4 h5 d k)
theorem xr_baload (d : decode cc pc = .ok (.baload, 1)) : x_Snd cl K cc own nL nm MC MS pc (xi_ald true (pc + 1)) := xi_ald_ok (fun kd hk => by
  unfold x_akd at hk
  simp only [Bool.or_eq_true] at hk
  rcases hk with hk | hk
  · have e := Nat.eq_of_beq_eq_true hk
    subst e
    intro p l e R s m args below meth c C H locs cells slots Q ls rest D tys ws a q0 t0 n cA f i h1 h2 h3 h4 h5 k
    exact va_bald C.1.1 C.1.2.1 h1 h2 _ _ h3 h4 h5 d k
  · have e := Nat.eq_of_beq_eq_true hk
    subst e
    intro p l e R s m args below meth c C H locs cells slots Q ls rest D tys ws a q0 t0 n cA f i h1 h2 h3 h4 h5 k
    exact va_zald C.1.1 C.1.2.1 h1 h2 _ _ h3 h4 h5 d k)
theorem xr_iastore (d : decode cc pc = .ok (.iastore, 1)) : x_Snd cl K cc own nL nm MC MS pc (xi_ast false (pc + 1)) := xi_ast_ok (fun kd hk => by
  have e := Nat.eq_of_beq_eq_true hk
  subst e
  intro p l e R s m args below meth c C H H0 locs cells slots Q ls rest D A tys ws a q0 t0 n cA f i x h1 h2 h6 h7 h3 h4 h5 k
  exact va_iast C.1.1 C.1.2.1 h1 h2 h6 h7 _ _ h3 h4 h5 d k)
theorem xr_bastore (d : decode cc pc = .ok (.bastore, 1)) : x_Snd cl K cc own nL nm MC MS pc (xi_ast true (pc + 1)) := xi_ast_ok (fun kd hk => by
  unfold x_akd at hk
  simp only [Bool.or_eq_true] at hk
  rcases hk with hk | hk
  · have e := Nat.eq_of_beq_eq_true hk
    subst e
    intro p l e R s m args below meth c C H H0 locs cells slots Q ls rest D A tys ws a q0 t0 n cA f i x h1 h2 h6 h7 h3 h4 h5 k
    exact va_bast C.1.1 C.1.2.1 h1 h2 h6 h7 _ _ h3 h4 h5 d k
  · have e := Nat.eq_of_beq_eq_true hk
    subst e
    intro p l e R s m args below meth c C H H0 locs cells slots Q ls rest D A tys ws a q0 t0 n cA f i x h1 h2 h6 h7 h3 h4 h5 k
    exact va_zast C.1.1 C.1.2.1 h1 h2 h6 h7 _ _ h3 h4 h5 d k)
theorem xr_aaload (d : decode cc pc = .ok (.aaload, 1)) : x_Snd cl K cc own nL nm MC MS pc (xi_aald (pc + 1)) := xi_aald_ok (fun C => fun h0 h1 h2 h3 h4 h5 k => x_aald C.1.1 C.1.2.1 h1 h2 _ _ h0 h3 h4 h5 d k)
theorem xr_aastore (d : decode cc pc = .ok (.aastore, 1)) : x_Snd cl K cc own nL nm MC MS pc (xi_aast (pc + 1)) := xi_aast_ok (fun C => fun h1 h2 h3 h4 h5 h6 h7 h8 h9 k => va_astq C.1.1 C.1.2.1 h1 h2 h3 h4 _ _ _ _ h5 h6 h7 h8 h9 d k)
theorem xr_alen (d : decode cc pc = .ok (.arraylength, 1)) : x_Snd cl K cc own nL nm MC MS pc (xi_alen (pc + 1)) := xi_alen_ok (fun C => fun h1 h2 h3 h4 k => va_alen C.1.1 C.1.2.1 h1 h2 _ _ h3 h4 rfl d k)
end X11
end
end
section
noncomputable section
/-! rows that need the classes' words -/
theorem x_fit_int : ∀ v, x_pk 0 v → narrow .int v = v ∧ fits .int v = true := fun v h => by obtain ⟨n, rfl⟩ := h; exact ⟨rfl, rfl⟩
theorem x_fit_bool : ∀ v, x_pk 1 v → narrow .boolean v = v ∧ fits .boolean v = true := fun v h => by
  rcases h with rfl | rfl
  · exact ⟨by decide, by decide⟩
  · exact ⟨by decide, by decide⟩
theorem x_fit_obj {C : String} : ∀ v, x_pk 2 v → narrow (.object C) v = v ∧ fits (.object C) v = true := fun v h => by
  rcases h with rfl | ⟨a, rfl⟩
  · exact ⟨rfl, rfl⟩
  · exact ⟨rfl, rfl⟩
theorem x_fit_arr {t : FieldType} : ∀ v, x_pk 2 v → narrow (.array t) v = v ∧ fits (.array t) v = true := fun v h => by
  rcases h with rfl | ⟨a, rfl⟩
  · exact ⟨rfl, rfl⟩
  · exact ⟨rfl, rfl⟩
/-- a new object's fields: 0 a number, 1 a reference -/
def x_fv (b : Nat) : Value := match b with
  | 0 => .int 0
  | _ => .null
def x_fa (b : Nat) : xV := match b with
  | 0 => (0, 0, 0)
  | _ => (2, 0, 0)
def x_ovs : Nat → List Nat → xA
  | _, [] => []
  | i, b :: r => (i, x_fa b) :: x_ovs (i + 1) r
def x_nc (ci : Nat) (ks : List Nat) : xC := (0, ci, ks.length, (0, 0, 0), x_ovs 0 ks)
theorem x_fa_ok {ad : List Nat} {V : List Int} {sc : Nat × Nat × List Nat} (b : Nat) : x_rel ad V sc (x_fa b) (x_fv b) := by
  unfold x_fa x_fv
  split
  · exact ⟨0, rfl, by show (0 : Int) ≤ Int32.toInt 0; decide, by show Int32.toInt 0 ≤ (0 : Int); decide⟩
  · exact rfl
theorem x_ovs_ok : ∀ (ks : List Nat) (i k : Nat) (b : Nat), ks[k]? = some b → x_get (0, 0, 0) (x_ovs i ks) (i + k) = x_fa b
  | [], _, _, _, h => by cases h
  | c :: r, i, 0, b, h => by
    cases h
    simp [x_ovs, x_get_cons]
  | c :: r, i, k + 1, b, h => by
    simp only [x_ovs, x_get_cons]
    rw [x_nb (by omega : i ≠ i + (k + 1))]
    have := x_ovs_ok r (i + 1) k b (by simpa using h)
    rw [show i + (k + 1) = i + 1 + k by omega]
    exact this
theorem x_nc_ok {cl : List vw_C} {ci : Nat} {ks : List Nat} : ∀ ad V sc tys, x_cell cl ad V sc tys (x_nc ci ks) (.inr (ci, ks.map x_fv)) := fun ad V sc tys =>
  ⟨ks.map x_fv, rfl, List.length_map _, fun k hk => by
    have hk : k < ks.length := hk
    have h := x_ovs_ok ks 0 k ks[k] (List.getElem?_eq_getElem hk)
    rw [Nat.zero_add] at h
    refine ⟨x_fv ks[k], by rw [List.getElem?_map, List.getElem?_eq_getElem hk]; rfl, ?_⟩
    show x_rel ad V sc (x_get (0, 0, 0) (x_ovs 0 ks) k) _
    rw [h]
    exact x_fa_ok _⟩
def xi_oi (nx : Nat) : xS → Option (List xS) := fun t => match t.2.2.1 with
  | (1, _, _) :: r => bif Nat.ble (x_cats r) 8 then some [(nx, t.2.1, r, t.2.2.2)] else none
  | _ => none
section X12
variable {cl : List vw_C} {K : xKx} {cc : ByteArray} {own : String} {nL : Nat} {nm : String} {MC MS pc : Nat}
theorem xr_getf {ci k ix N : Nat} {C : String} {T : u_T} (hc : cl[ci]? = some (C, T, N)) (hin : ∀ w ∈ u_ws C T N, w ∈ x_tbl) (hk : k < N) (hw : Cond.fieldLink own ix (T k).1 (T k).2.1 (T k).2.2.1 ∈ x_tbl) (d : decode cc pc = .ok (.getfield ix, 3)) : x_Snd cl K cc own nL nm MC MS pc (xi_getf ci k (pc + 3)) := xi_getf_ok (by
  intro p l e R s m args below meth c C1 H locs cells slots Q ls rest D tys ws a q0 fs v h1 h2 h3 h4 kk
  exact va_get C1.1.1 C1.1.2.1 C1.1.2.2.2.2 hin C1.1.2.2.2.1 h1 h2 q0 h3 hc k hk (C1.1.2.2.2.2 _ hw) (fun _ h => h) h4 d kk)
theorem xr_putf {ci k ix N fk : Nat} {C : String} {T : u_T} {ty0 : Nat → FieldType} {ty : FieldType} (hc : cl[ci]? = some (C, T, N)) (hin : ∀ w ∈ u_ws C T N, w ∈ x_tbl) (hty : ∀ k, k < N → parseFieldDescriptor (T k).2.2.1 = some (ty0 k)) (hnm : ∀ a, a < N → ∀ b, b < N → a ≠ b → (T a).2.1 ≠ (T b).2.1) (hk : k < N) (hw : Cond.fieldLink own ix (T k).1 (T k).2.1 (T k).2.2.1 ∈ x_tbl) (hfin : (T k).2.2.2 = false) (hd : ty0 k = ty) (hv : ∀ v, x_pk fk v → narrow ty v = v ∧ fits ty v = true) (d : decode cc pc = .ok (.putfield ix, 3)) : x_Snd cl K cc own nL nm MC MS pc (xi_putf ci k fk (pc + 3)) := xi_putf_ok (by
  intro p l e R s m args below meth c C1 H H0 locs cells slots Q ls rest D A tys ws a q0 fs v h1 h2 h3 h4 h5 h6 h7 kk
  exact va_put C1.1.1 C1.1.2.1 C1.1.2.2.2.2 hin ty0 hty hnm C1.1.2.2.2.1 h1 h2 h3 h4 q0 h5 hc k hk (C1.1.2.2.2.2 _ hw) (fun _ h => h) hfin (by rw [← hd]; exact hty k hk) (hv v h7).1 (hv v h7).2 h6 d kk)
theorem xr_putF {ci k ix N fk : Nat} {C : String} {T : u_T} {ty0 : Nat → FieldType} {ty : FieldType} (hc : cl[ci]? = some (C, T, N)) (hin : ∀ w ∈ u_ws C T N, w ∈ x_tbl) (hty : ∀ k, k < N → parseFieldDescriptor (T k).2.2.1 = some (ty0 k)) (hnm : ∀ a, a < N → ∀ b, b < N → a ≠ b → (T a).2.1 ≠ (T b).2.1) (hk : k < N) (hw : Cond.fieldLink own ix (T k).1 (T k).2.1 (T k).2.2.1 ∈ x_tbl) (hfin : (T k).2.2.2 = true) (hmn : nm = "<init>") (hdc : (T k).1 = own) (hd : ty0 k = ty) (hv : ∀ v, x_pk fk v → narrow ty v = v ∧ fits ty v = true) (d : decode cc pc = .ok (.putfield ix, 3)) : x_Snd cl K cc own nL nm MC MS pc (xi_putf ci k fk (pc + 3)) := xi_putf_ok (by
  intro p l e R s m args below meth c C1 H H0 locs cells slots Q ls rest D A tys ws a q0 fs v h1 h2 h3 h4 h5 h6 h7 kk
  exact va_putF C1.1.1 C1.1.2.1 C1.1.2.2.2.2 hin ty0 hty hnm C1.1.2.2.2.1 h1 h2 h3 h4 q0 h5 hc k hk (C1.1.2.2.2.2 _ hw) (fun _ h => h) hfin (C1.2.1.trans hmn) hdc (by rw [← hd]; exact hty k hk) (hv v h7).1 (hv v h7).2 h6 d kk)
theorem xr_new {ci ix N : Nat} {C : String} {T : u_T} {ty0 : Nat → FieldType} {ks : List Nat} (hc : cl[ci]? = some (C, T, N)) (hin : ∀ w ∈ u_ws C T N, w ∈ x_tbl) (hty : ∀ k, k < N → parseFieldDescriptor (T k).2.2.1 = some (ty0 k)) (hl : Cond.classLink own ix C ∈ x_tbl) (hi : Cond.instantiable C N ∈ x_tbl) (hn : Cond.initialized C ∈ x_tbl) (hks : ks.length = N) (hfs : ∀ j, j < N → defaultValue (ty0 j) = vp_V (ks.map x_fv) j) (d : decode cc pc = .ok (.new ix, 3)) : x_Snd cl K cc own nL nm MC MS pc (xi_new (x_nc ci ks) MC MS (pc + 3)) := xi_new_ok (nc := x_nc ci ks) (ci := ci) (N := N) (fs := ks.map x_fv) hks x_nc_ok (by
  intro p l e R s m args below meth c C1 H H0 locs cells slots Q ls rest D A tys ws hA h1 h2 h3 h4 h5 h6 kk
  exact va_new C1.1.1 C1.1.2.1 C1.1.2.2.2.2 hin ty0 hty C1.1.2.2.2.1 (C1.1.2.2.2.2 _ hl) (C1.1.2.2.2.2 _ hi) (C1.1.2.2.2.2 _ hn) h1 h2 h3 h4 hA hc hfs (by rw [C1.2.2.1]; exact h5) (by rw [C1.2.2.2.1]; exact h6) d kk)
theorem x_bytes (kd : Nat) : componentBytes (x_aty kd) ≤ 4 := by
  unfold x_aty
  split <;> decide
theorem x_dflt (kd : Nat) : defaultValue (x_aty kd) = .int 0 := by
  unfold x_aty
  split <;> rfl
theorem xr_newa {kd : Nat} {b : Bool} {ty : ArrayType} (hkd : x_akd b kd = true) (ht : newarray.typeOf ty = x_aty kd) (ha : Cond.arrayClass (newarray.typeOf ty) ∈ x_tbl) (d : decode cc pc = .ok (.newarray ty, 2)) : x_Snd cl K cc own nL nm MC MS pc (xi_newa kd 0 (0, 0, 0) MC MS (pc + 2)) := xi_newa_ok hkd (by
  intro p l e R s m args below meth c C1 H H0 locs cells slots Q ls rest D A tys ws n N hA h1 h2 h3 h4 h5 h6 h7 h8 h9 kk
  exact va_newa C1.1.1 C1.1.2.1 (C1.1.2.2.2.2 _ ha) ht h1 h2 h3 h4 hA (a0 := (N, .inl (fun _ => 0))) (fun cA => by rw [x_dflt]; rfl) h5 h6 (Nat.le_trans (Nat.mul_le_mul h7 (x_bytes kd)) (by decide)) (by rw [C1.2.2.1]; exact h8) (by rw [C1.2.2.2.1]; exact h9) d kk)
theorem xr_newq {ci ix : Nat} {r : vw_C} (hr : cl[ci]? = some r) (hl : Cond.classLink own ix r.1 ∈ x_tbl) (ho : ∀ U, x_Ex U → va_AO r.1 U) (d : decode cc pc = .ok (.anewarray ix, 3)) : x_Snd cl K cc own nL nm MC MS pc (xi_newa 5 ci (2, 0, 0) MC MS (pc + 3)) := xi_newq_ok hr (by
  intro p l e R s m args below meth c C1 H H0 locs cells slots Q ls rest D A tys ws n N hA h1 h2 h3 h4 h5 h6 h7 h8 h9 kk
  exact va_newq C1.1.1 C1.1.2.1 C1.1.2.2.2.1 (C1.1.2.2.2.2 _ hl) (ho _ C1.2.2.2.2.2.2) h1 h2 h3 h4 hA h5 h6 (by omega) (by rw [C1.2.2.1]; exact h8) (by rw [C1.2.2.2.1]; exact h9) d kk)
theorem xr_oi {ix : Nat} (hl : Cond.methodLink own ix objectInit ∈ x_tbl) (hi : Cond.instanceMethod objectInit ∈ x_tbl) (hc : Cond.code objectInit ⟨#[0xb1]⟩ 1 none ∈ x_tbl) (d : decode cc pc = .ok (.invokespecial ix, 3)) : x_Snd cl K cc own nL nm MC MS pc (xi_oi (pc + 3)) := by
  intro V sc p l e R s m args below meth c D A H0 Q C hA hK t ts hpc hf hg
  unfold xi_oi at hf
  split at hf
  · rename_i j jb r hst
    cases hb : Nat.ble (x_cats r) 8 with
    | false => rw [hb] at hf; cases hf
    | true =>
      rw [hb] at hf
      cases hf
      subst hpc
      intro ls stk H locs ⟨lv, ws, tys, h1, h2, h3, h4⟩
      rw [hst] at h3
      match stk, h3 with
      | v2 :: rest, h3 =>
        obtain ⟨a, -, rfl⟩ := h3.1
        refine W.objInit C.1.1 C.1.2.1 C.1.2.2.2.1 (C.1.2.2.2.2 _ hl) (C.1.2.2.2.2 _ hi) (C.1.2.2.2.2 _ hc) rfl (by rw [C.1.2.2.1]; exact h1.1) rfl d C.2.2.2.2.1 ?_ ?_
        · have h8 := Nat.le_of_ble_eq_true hb
          rw [← (x_cats_ok h3.2).1] at h8
          have := lv_room (m := m) (pc := t.1) (ls := ls) (rest := .ref a :: rest) (st := rest) h8
          have h32 := C.2.2.2.2.2.1
          omega
        · exact hg _ List.mem_cons_self ls rest H locs ⟨lv, ws, tys, h1, h2, h3.2, h4⟩
  · cases hf
theorem xr_callV {q' : xM} {ix n : Nat} (hcode : Cond.code (xm_y q') (xm_b q') (xm_l q') (xm_r q') ∈ x_tbl) (hgood : x_tbl.all goodWord = true) (hini : Cond.initialized (xm_y q').cls ∈ x_tbl) (hl : Cond.methodLink own ix (xm_y q') ∈ x_tbl) (hinst : Cond.instanceMethod (xm_y q') ∈ x_tbl) (hsel : Cond.selects (xm_y q').cls (xm_y q') (xm_y q') ∈ x_tbl) (ho : xm_o q' ≠ 999) (h19 : 19 + xm_l q' ≤ 64)
    (hd : (xm_y q').cls ≠ "java/lang/invoke/MethodHandle" ∧ (xm_y q').cls ≠ "java/lang/invoke/VarHandle" ∧ (parseMethodDescriptor (xm_y q').desc).map (fun d => d.parameters.length) = some n) (d : decode cc pc = .ok (.invokevirtual ix, 3)) : x_Cl cc own nL nm MC MS pc q' (n + 1) := by
  refine ⟨h19, ?_⟩
  intro p l e R s m args below meth c C1 H locs cells slots mc ms ls rest vargs Pc Qc free rm hM hbl hpre hrec hlen hrc hrs hfr hlo hsz hcat hf
  rcases hrec with h | ⟨b, As, rfl, cellB, k1, k2, k3⟩
  · exact absurd h ho
  · have hts := C1.1.2.2.2.2
    have cb : CallB R s args own ix (xm_y q') (xm_b q') (xm_l q') (xm_r q') (x_ws q') rm mc ms n := callB_of n hts (x_goodIn (q := q') hcode hgood) rfl hrc hrs (hts _ hini) (hts _ hl) hd ⟨hfr, hlo⟩
    exact va_runV C1.1 hM ⟨cb, hts _ hinst, hts _ hsel⟩ ⟨hbl, ⟨cellB, k1, k2, k3⟩, hpre⟩ rfl (by simpa using hlen) hsz (by simp) (lv_room hcat) d hf
theorem xr_callS {q' : xM} {ix n : Nat} (hcode : Cond.code (xm_y q') (xm_b q') (xm_l q') (xm_r q') ∈ x_tbl) (hgood : x_tbl.all goodWord = true) (hini : Cond.initialized (xm_y q').cls ∈ x_tbl) (hl : Cond.methodLink own ix (xm_y q') ∈ x_tbl) (hst : Cond.static (xm_y q') ∈ x_tbl) (h19 : 19 + xm_l q' ≤ 64)
    (hd : (xm_y q').cls ≠ "java/lang/invoke/MethodHandle" ∧ (xm_y q').cls ≠ "java/lang/invoke/VarHandle" ∧ (parseMethodDescriptor (xm_y q').desc).map (fun d => d.parameters.length) = some n) (d : decode cc pc = .ok (.invokestatic ix, 3)) : x_Cl cc own nL nm MC MS pc q' n := by
  refine ⟨h19, ?_⟩
  intro p l e R s m args below meth c C1 H locs cells slots mc ms ls rest vargs Pc Qc free rm hM hbl hpre hrec hlen hrc hrs hfr hlo hsz hcat hf
  have hts := C1.1.2.2.2.2
  have cb : CallB R s args own ix (xm_y q') (xm_b q') (xm_l q') (xm_r q') (x_ws q') rm mc ms n := callB_of n hts (x_goodIn (q := q') hcode hgood) rfl hrc hrs (hts _ hini) (hts _ hl) hd ⟨hfr, hlo⟩
  exact va_runS C1.1 hM ⟨cb, hts _ hst⟩ ⟨hbl, hpre⟩ rfl hlen hsz rfl (lv_room hcat) d hf
theorem xr_callI {q' : xM} {ix n : Nat} (hcode : Cond.code (xm_y q') (xm_b q') (xm_l q') (xm_r q') ∈ x_tbl) (hgood : x_tbl.all goodWord = true) (hini : Cond.initialized (xm_y q').cls ∈ x_tbl) (hl : Cond.methodLink own ix (xm_y q') ∈ x_tbl) (hinst : Cond.instanceMethod (xm_y q') ∈ x_tbl) (hnm : (xm_y q').name = "<init>") (hr : xm_r q' = none) (ho : xm_o q' ≠ 999) (h19 : 19 + xm_l q' ≤ 64)
    (hd : (xm_y q').cls ≠ "java/lang/invoke/MethodHandle" ∧ (xm_y q').cls ≠ "java/lang/invoke/VarHandle" ∧ (parseMethodDescriptor (xm_y q').desc).map (fun d => d.parameters.length) = some n) (d : decode cc pc = .ok (.invokespecial ix, 3)) : x_Cl cc own nL nm MC MS pc q' (n + 1) := by
  refine ⟨h19, ?_⟩
  intro p l e R s m args below meth c C1 H locs cells slots mc ms ls rest vargs Pc Qc free rm hM hbl hpre hrec hlen hrc hrs hfr hlo hsz hcat hf
  rcases hrec with h | ⟨b, As, rfl, cellB, k1, k2, k3⟩
  · exact absurd h ho
  · have hts := C1.1.2.2.2.2
    have cb : CallB R s args own ix (xm_y q') (xm_b q') (xm_l q') (xm_r q') (x_ws q') rm mc ms n := callB_of n hts (x_goodIn (q := q') hcode hgood) rfl hrc hrs (hts _ hini) (hts _ hl) hd ⟨hfr, hlo⟩
    rw [hr] at cb
    exact va_runI C1.1 hM ⟨cb, hnm, hts _ hinst⟩ ⟨hbl, hpre⟩ rfl (by simpa using hlen) hsz (by simp) (lv_room hcat) d hf
theorem x_cn {R : Room} {s : State} {args : Array Value} {q' : xM} {ix n mc ms : Nat} {own host : String} {rm : Room} (hts : ∀ w ∈ x_tbl, w.before args s = true) (hcode : Cond.code (xm_y q') (xm_b q') (xm_l q') (xm_r q') ∈ x_tbl) (hgood : x_tbl.all goodWord = true) (hini : Cond.initialized (xm_y q').cls ∈ x_tbl) (hl : va_Nw (.methodLinkNest own ix (xm_y q') host) s) (hrc : rm.cells = mc) (hrs : rm.slots = ms)
    (hd : (xm_y q').cls ≠ "java/lang/invoke/MethodHandle" ∧ (xm_y q').cls ≠ "java/lang/invoke/VarHandle" ∧ (parseMethodDescriptor (xm_y q').desc).map (fun d => d.parameters.length) = some n) (hR : rm.frames + 1 ≤ R.frames ∧ 8 + (xm_l q' + 11) + rm.locals ≤ R.locals) : va_CN R s args own ix (xm_y q') host (xm_b q') (xm_l q') (xm_r q') (x_ws q') rm mc ms n :=
  va_cnB n hts (x_goodIn (q := q') hcode hgood) rfl hrc hrs hl (hts _ hini) hd hR
theorem xr_callIN {q' : xM} {ix n : Nat} {host : String} (hcode : Cond.code (xm_y q') (xm_b q') (xm_l q') (xm_r q') ∈ x_tbl) (hgood : x_tbl.all goodWord = true) (hini : Cond.initialized (xm_y q').cls ∈ x_tbl) (hl : (own, ix, xm_y q', host) ∈ x_nest) (hinst : Cond.instanceMethod (xm_y q') ∈ x_tbl) (hnm : (xm_y q').name = "<init>") (hr : xm_r q' = none) (ho : xm_o q' ≠ 999) (h19 : 19 + xm_l q' ≤ 64)
    (hd : (xm_y q').cls ≠ "java/lang/invoke/MethodHandle" ∧ (xm_y q').cls ≠ "java/lang/invoke/VarHandle" ∧ (parseMethodDescriptor (xm_y q').desc).map (fun d => d.parameters.length) = some n) (d : decode cc pc = .ok (.invokespecial ix, 3)) : x_Cl cc own nL nm MC MS pc q' (n + 1) := by
  refine ⟨h19, ?_⟩
  intro p l e R s m args below meth c C1 H locs cells slots mc ms ls rest vargs Pc Qc free rm hM hbl hpre hrec hlen hrc hrs hfr hlo hsz hcat hf
  rcases hrec with h | ⟨b, As, rfl, cellB, k1, k2, k3⟩
  · exact absurd h ho
  · have hts := C1.1.2.2.2.2
    have cb := x_cn (R := R) hts hcode hgood hini (C1.2.2.2.2.2.2.2.2 _ hl) hrc hrs hd ⟨hfr, hlo⟩
    rw [hr] at cb
    exact va_runIN C1.1 hM ⟨cb, hnm, hts _ hinst⟩ ⟨hbl, hpre⟩ rfl (by simpa using hlen) hsz (by simp) (lv_room hcat) d hf
theorem xr_callVN {q' : xM} {ix n : Nat} {host : String} (hcode : Cond.code (xm_y q') (xm_b q') (xm_l q') (xm_r q') ∈ x_tbl) (hgood : x_tbl.all goodWord = true) (hini : Cond.initialized (xm_y q').cls ∈ x_tbl) (hl : (own, ix, xm_y q', host) ∈ x_nest) (hinst : Cond.instanceMethod (xm_y q') ∈ x_tbl) (hsel : Cond.selects (xm_y q').cls (xm_y q') (xm_y q') ∈ x_tbl) (ho : xm_o q' ≠ 999) (h19 : 19 + xm_l q' ≤ 64)
    (hd : (xm_y q').cls ≠ "java/lang/invoke/MethodHandle" ∧ (xm_y q').cls ≠ "java/lang/invoke/VarHandle" ∧ (parseMethodDescriptor (xm_y q').desc).map (fun d => d.parameters.length) = some n) (d : decode cc pc = .ok (.invokevirtual ix, 3)) : x_Cl cc own nL nm MC MS pc q' (n + 1) := by
  refine ⟨h19, ?_⟩
  intro p l e R s m args below meth c C1 H locs cells slots mc ms ls rest vargs Pc Qc free rm hM hbl hpre hrec hlen hrc hrs hfr hlo hsz hcat hf
  rcases hrec with h | ⟨b, As, rfl, cellB, k1, k2, k3⟩
  · exact absurd h ho
  · have hts := C1.1.2.2.2.2
    have cb := x_cn (R := R) hts hcode hgood hini (C1.2.2.2.2.2.2.2.2 _ hl) hrc hrs hd ⟨hfr, hlo⟩
    exact va_runVN C1.1 hM ⟨cb, hts _ hinst, hts _ hsel⟩ ⟨hbl, ⟨cellB, k1, k2, k3⟩, hpre⟩ rfl (by simpa using hlen) hsz (by simp) (lv_room hcat) d hf
theorem xr_callSN {q' : xM} {ix n : Nat} {host : String} (hcode : Cond.code (xm_y q') (xm_b q') (xm_l q') (xm_r q') ∈ x_tbl) (hgood : x_tbl.all goodWord = true) (hini : Cond.initialized (xm_y q').cls ∈ x_tbl) (hl : (own, ix, xm_y q', host) ∈ x_nest) (hst : Cond.static (xm_y q') ∈ x_tbl) (h19 : 19 + xm_l q' ≤ 64)
    (hd : (xm_y q').cls ≠ "java/lang/invoke/MethodHandle" ∧ (xm_y q').cls ≠ "java/lang/invoke/VarHandle" ∧ (parseMethodDescriptor (xm_y q').desc).map (fun d => d.parameters.length) = some n) (d : decode cc pc = .ok (.invokestatic ix, 3)) : x_Cl cc own nL nm MC MS pc q' n := by
  refine ⟨h19, ?_⟩
  intro p l e R s m args below meth c C1 H locs cells slots mc ms ls rest vargs Pc Qc free rm hM hbl hpre hrec hlen hrc hrs hfr hlo hsz hcat hf
  have hts := C1.1.2.2.2.2
  have cb := x_cn (R := R) hts hcode hgood hini (C1.2.2.2.2.2.2.2.2 _ hl) hrc hrs hd ⟨hfr, hlo⟩
  exact va_runSN C1.1 hM ⟨cb, hts _ hst, trivial⟩ ⟨hbl, hpre⟩ rfl hlen hsz rfl (lv_room hcat) d hf
/-- a tableswitch by its ranges -/
theorem xr_tsw {dflt lo hi : Int} {offs : Array Int} {len : Nat} {l : List (Int × Int × Nat)} (d : decode cc pc = .ok (.tableswitch dflt lo hi offs, len)) (hd : ∃ q ∈ l, q.1 = -2147483648 ∧ q.2.1 = lo - 1 ∧ (pc : Int) + dflt = (q.2.2 : Int)) (hd2 : ∃ q ∈ l, q.1 = hi + 1 ∧ q.2.1 = 2147483647 ∧ (pc : Int) + dflt = (q.2.2 : Int))
    (hm : ∀ j : Nat, (j : Int) < hi + 1 - lo → ∃ q ∈ l, q.1 = lo + j ∧ q.2.1 = lo + j ∧ ∃ off, offs[j]? = some off ∧ (pc : Int) + off = (q.2.2 : Int)) : x_Snd cl K cc own nL nm MC MS pc (xi_sw l) := xi_sw_ok (fun x => by
  have hr := x_rng x
  by_cases h1 : x.toInt < lo
  · obtain ⟨q, hq, e1, e2, e3⟩ := hd
    exact ⟨q, hq, by omega, by omega, (fun S => fun k => lv_tableOut S.1 S.2.1 d (Or.inl h1) e3 k)⟩
  · by_cases h2 : hi < x.toInt
    · obtain ⟨q, hq, e1, e2, e3⟩ := hd2
      exact ⟨q, hq, by omega, by omega, (fun S => fun k => lv_tableOut S.1 S.2.1 d (Or.inr h2) e3 k)⟩
    · obtain ⟨q, hq, e1, e2, off, e3, e4⟩ := hm (x.toInt - lo).toNat (by omega)
      exact ⟨q, hq, by omega, by omega, (fun S => fun k => lv_tableIn S.1 S.2.1 d h1 h2 e3 e4 k)⟩)
end X12
end
end
section
/-! ===== BEGIN new T[n][m]: the outer array a place, the inner ones among the pooled ===== -/
/-- f, but v at every address of l -/
def vr_up {α : Type} (f : Nat → α) (l : List Nat) (v : α) : Nat → α := fun a => if a ∈ l then v else f a
theorem vr_up_in {α : Type} {f : Nat → α} {l : List Nat} {v : α} {a : Nat} (h : a ∈ l) : vr_up f l v a = v := if_pos h
theorem vr_up_ne {α : Type} {f : Nat → α} {l : List Nat} {v : α} {a : Nat} (h : a ∉ l) : vr_up f l v a = f a := if_neg h
theorem vr_rows {L l : List Nat} {f : Nat → va_E} {e : va_E} (h : ∀ a, a ∈ l → a ∉ L) : va_pl L f ++ l.map (fun a => (a, e)) = va_pl (L ++ l) (vr_up f l e) := by
  unfold va_pl
  rw [List.map_append]
  congr 1
  · apply List.map_congr_left
    intro a ha
    rw [vr_up_ne (fun q => h a q ha)]
  · apply List.map_congr_left
    intro a ha
    rw [vr_up_in ha]
theorem vr_lay {X rows : va_W} {x : Nat × va_E} {pl : va_W} {D : va_G} {cl : List vw_C} {H : Heap} (hP : va_P D cl (((X ++ pl) ++ [x]) ++ rows) H) : va_P D cl ((X ++ [x]) ++ (pl ++ rows)) H := by
  rw [List.append_assoc (X ++ pl)] at hP
  have h := va_P.swap hP
  rw [← List.append_assoc X] at h
  have h2 := va_P.swap h
  rw [List.append_assoc (X ++ [x])] at h2
  exact h2
theorem vr_layD {X rows : va_W} {x : Nat × va_E} {pl : va_W} {A : Nat → Prop} (hD : va_D A (((X ++ pl) ++ [x]) ++ rows)) : va_D A ((X ++ [x]) ++ (pl ++ rows)) := by
  rw [List.append_assoc (X ++ pl)] at hD
  have h := va_D.swap hD
  rw [← List.append_assoc X] at h
  have h2 := va_D.swap h
  rw [List.append_assoc (X ++ [x])] at h2
  exact h2
theorem vr_outer (c : ClassId) (N h0 : Nat) : ∀ i : Nat, Jvm.Free.Multi.outerC c N h0 i = arrV c N (fun j => va_rf (if j < i then some (h0 + 1 + j) else none))
  | 0 => by
    show ({ cls := c, slots := Array.replicate N .null, vm := .none } : Cell) = _
    rw [arrV_new]
    refine congrArg (arrV c N) (funext fun j => ?_)
    simp [va_rf]
  | i + 1 => by
    show (Jvm.Free.Multi.outerC c N h0 i).setSlot i (.ref (h0 + 1 + i)) = _
    rw [vr_outer c N h0 i, arrV_store]
    refine congrArg (arrV c N) (funext fun j => ?_)
    by_cases e : j = i
    · subst e
      simp [updV, va_rf]
    · by_cases h : j < i
      · simp [updV, e, h, Nat.lt_succ_of_lt h]
      · simp [updV, e, h, show ¬ j < i + 1 by omega]
section VGM
variable {p : Program} {l : Launch} {e : Env} {R : Room} {s : State} {m : MethodId} {args : Array Value} {below : List Frame} {meth : Method} {c : Code} {H : Heap} {locs : List Loc} {cells slots : Nat} {Q : State → Prop}
variable {cc : ByteArray} {pc : Nat} {ls : Array Slot} {rest : List Value} {D : va_G} {cl : List vw_C} {A : Nat → Prop} {a : Nat} {tys : List (ClassId × FieldType)} {ws : va_W} {H0 : Heap}
theorem va_mna {X : va_W} {L : List Nat} {f : Nat → va_E} {cc : ByteArray} (hexec : p.tables.exec = Jvm.exec) (hb : c.code = cc) {own : String} {index : Nat} {ty : FieldType} {cy : ClassId} (hown : s.vm.findClass own = some m.cls) (hclink : (Cond.classLink own index ("[" ++ (FieldType.array ty).toString)).before args s = true) (hover : va_AOA ty s) (harr : (Cond.arrayClass ty).before args s = true) (hcy : s.vm.findClass (FieldType.array ty).toString = some cy)
    (hK : va_K D cl tys s) (hP : va_P D cl (X ++ va_pl L f) H) (hD : va_D A (X ++ va_pl L f)) (hS : va_S A H0 H locs) (hA : ∀ q, H0.size ≤ q → A q) {n k : Int32} {N' K' : Nat} {z : vp_A} (hn : ¬ n < 0) (hk : ¬ k < 0) (hN : n.toNatClampNeg = N') (hM : k.toNatClampNeg = K')
    (hb1 : N' * 4 ≤ 536870912) (hb2 : K' * componentBytes ty ≤ 536870912) (hb3 : K' ≤ 536870912) (hdf : fits ty (defaultValue ty) = true) (hdd : (defaultValue ty).isDefault = true) (hcells : cells + (1 + N') ≤ R.cells) (hslots : slots + (N' + N' * K') ≤ R.slots) (hz : ∀ c : ClassId, Jvm.Free.Multi.innerC c K' (defaultValue ty) = vp_cell c z) (hdg : decode cc pc = .ok (.multianewarray index 2, 4))
    (kk : ∀ (q : Nat) (r : Nat → Nat) (cA : ClassId) (H1 : Heap), (∀ i j : Nat, i < N' → j < N' → r i = r j → i = j) → (∀ i : Nat, i < N' → r i ∉ L) → va_K D cl (tys ++ [(cA, .array ty)]) s →
      va_P D cl ((X ++ [(q, .inl (cA, N', .inr (.inr (.inr (.inr (fun i => if i < N' then some (r i) else none))))))]) ++ va_pl (L ++ (List.range N').map r) (vr_up f ((List.range N').map r) (.inl (cy, z)))) H1 → va_D A ((X ++ [(q, .inl (cA, N', .inr (.inr (.inr (.inr (fun i => if i < N' then some (r i) else none))))))]) ++ va_pl (L ++ (List.range N').map r) (vr_up f ((List.range N').map r) (.inl (cy, z)))) → va_S A H0 H1 locs →
      W p l e R s m args below meth c H1 locs (cells + 1 + N') (slots + N' + N' * K') Q (F0 m (pc + 4) ls (.ref q :: rest))) : W p l e R s m args below meth c H locs cells slots Q (F0 m pc ls (.int k :: .int n :: rest)) := by
  subst hN
  subst hM
  intro T hT Xs
  obtain ⟨vm₁, cA, comp, -, fA, fC, hO, -, X', step⟩ := Xs.multianewarray2F hexec hown hclink (va_AOA.use hover) harr (g := F0 m pc ls (.int k :: .int n :: rest)) rfl (by rw [hb]; exact hdg) rfl hn hk hb1 hb2 hb3 hdf hdd hcells hslots
  have ec : some cy = some comp := hcy.symm.trans fC
  cases ec
  generalize hF : Jvm.Free.Multi.fill (T.setVm vm₁) cA cy n.toNatClampNeg k.toNatClampNeg (defaultValue ty) n.toNatClampNeg = F at X' step
  have hTh : (T.setVm vm₁).heap = H := hT
  obtain ⟨f1, f2, -, -⟩ := Jvm.Free.Multi.fill_facts (T.setVm vm₁) cA cy n.toNatClampNeg k.toNatClampNeg (defaultValue ty) n.toNatClampNeg
  rw [hF, hTh] at f1 f2
  have hold : ∀ x : Nat, x < H.size → F.heap[x]? = H[x]? := fun x hx => by
    have := Jvm.Free.Multi.fill_old (T.setVm vm₁) cA cy n.toNatClampNeg k.toNatClampNeg (defaultValue ty) (a := x) (by rw [hTh]; exact hx) n.toNatClampNeg
    rw [hF, hTh] at this
    exact this
  have hrow : ∀ j : Nat, j < n.toNatClampNeg → F.heap[H.size + 1 + j]? = some (vp_cell cy z) := fun j hj => by
    have := Jvm.Free.Multi.fill_inner (T.setVm vm₁) cA cy n.toNatClampNeg k.toNatClampNeg (defaultValue ty) n.toNatClampNeg j hj
    rw [hF, hTh, hz] at this
    exact this
  have hout : Jvm.Free.Multi.outerC cA n.toNatClampNeg H.size n.toNatClampNeg = vp_cell cA (n.toNatClampNeg, .inr (.inr (.inr (.inr (fun i => if i < n.toNatClampNeg then some (H.size + 1 + i) else none))))) := by
    rw [vp_cell_q]
    exact vr_outer cA n.toNatClampNeg H.size n.toNatClampNeg
  rw [hout] at f2
  have hlt : ∀ a, a ∈ L → a < H.size := fun a ha => by
    obtain ⟨k9, hk9⟩ := va_pl_get (X := X) (f := f) ha
    exact (hP k9 _ hk9).lt
  have hnl : ∀ i : Nat, i < n.toNatClampNeg → H.size + 1 + i ∉ L := fun i _ h => by
    have := hlt _ h
    omega
  have hnm : ∀ a, a ∈ (List.range n.toNatClampNeg).map (fun i => H.size + 1 + i) → a ∉ L := fun a ha h => by
    obtain ⟨i, -, rfl⟩ := List.mem_map.mp ha
    have := hlt _ h
    omega
  have hP0 : va_P D cl (X ++ va_pl L f) F.heap := hP.kept (fun k9 x hx => hold x.1 ((hP k9 x hx).lt))
  have hP1 : va_P D cl ((X ++ va_pl L f) ++ [(H.size, .inl (cA, n.toNatClampNeg, .inr (.inr (.inr (.inr (fun i => if i < n.toNatClampNeg then some (H.size + 1 + i) else none))))))]) F.heap := hP0.app (fun k9 x hx => by
    have h0 : k9 < 1 := (List.getElem?_eq_some_iff.mp hx).1
    rw [show k9 = 0 by omega] at hx
    cases hx
    exact f2)
  have hP2 : va_P D cl (((X ++ va_pl L f) ++ [(H.size, .inl (cA, n.toNatClampNeg, .inr (.inr (.inr (.inr (fun i => if i < n.toNatClampNeg then some (H.size + 1 + i) else none))))))]) ++ ((List.range n.toNatClampNeg).map (fun i => H.size + 1 + i)).map (fun a => (a, .inl (cy, z)))) F.heap := hP1.app (fun k9 x hx => by
    obtain ⟨a, ha, rfl⟩ := List.mem_map.mp (List.mem_of_getElem? hx)
    obtain ⟨i, hi, rfl⟩ := List.mem_map.mp ha
    exact hrow i (List.mem_range.mp hi))
  have hD2 : va_D A (((X ++ va_pl L f) ++ [(H.size, .inl (cA, n.toNatClampNeg, .inr (.inr (.inr (.inr (fun i => if i < n.toNatClampNeg then some (H.size + 1 + i) else none))))))]) ++ ((List.range n.toNatClampNeg).map (fun i => H.size + 1 + i)).map (fun a => (a, .inl (cy, z)))) := by
    have hD1 := hD.push (e := .inl (cA, n.toNatClampNeg, .inr (.inr (.inr (.inr (fun i => if i < n.toNatClampNeg then some (H.size + 1 + i) else none)))))) hP rfl (hA _ hS.1)
    generalize hW1 : (X ++ va_pl L f) ++ [(H.size, .inl (cA, n.toNatClampNeg, .inr (.inr (.inr (.inr (fun i => if i < n.toNatClampNeg then some (H.size + 1 + i) else none))))))] = W1 at hD1 hP1 ⊢
    have hle : ∀ (k9 : Nat) (x : Nat × va_E), W1[k9]? = some x → x.1 ≤ H.size := fun k9 x hx => by
      rw [← hW1] at hx
      by_cases hl : k9 < (X ++ va_pl L f).length
      · rw [List.getElem?_append_left hl] at hx
        exact Nat.le_of_lt ((hP k9 x hx).lt)
      · rw [List.getElem?_append_right (by omega)] at hx
        have h0 : k9 - (X ++ va_pl L f).length < 1 := (List.getElem?_eq_some_iff.mp hx).1
        rw [show k9 - (X ++ va_pl L f).length = 0 by omega] at hx
        cases hx
        exact Nat.le_refl _
    have hr : ∀ (k9 : Nat) (x : Nat × va_E), (((List.range n.toNatClampNeg).map (fun i => H.size + 1 + i)).map (fun a => ((a, .inl (cy, z)) : Nat × va_E)))[k9]? = some x → x.1 = H.size + 1 + k9 := fun k9 x hx => by
      rw [List.getElem?_map, List.getElem?_map] at hx
      by_cases h9 : k9 < n.toNatClampNeg
      · rw [List.getElem?_range h9] at hx
        cases hx
        rfl
      · have hn0 : (List.range n.toNatClampNeg)[k9]? = none := List.getElem?_eq_none (by rw [List.length_range]; omega)
        rw [hn0] at hx
        cases hx
    refine ⟨fun i j x y hi hj hxy => ?_, fun k9 x hx => ?_⟩
    · by_cases h1 : i < W1.length <;> by_cases h2 : j < W1.length
      · rw [List.getElem?_append_left h1] at hi
        rw [List.getElem?_append_left h2] at hj
        exact hD1.1 i j x y hi hj hxy
      · rw [List.getElem?_append_left h1] at hi
        rw [List.getElem?_append_right (by omega)] at hj
        have := hle _ _ hi
        have := hr _ _ hj
        omega
      · rw [List.getElem?_append_right (by omega)] at hi
        rw [List.getElem?_append_left h2] at hj
        have := hle _ _ hj
        have := hr _ _ hi
        omega
      · rw [List.getElem?_append_right (by omega)] at hi hj
        have := hr _ _ hi
        have := hr _ _ hj
        omega
    · by_cases h1 : k9 < W1.length
      · rw [List.getElem?_append_left h1] at hx
        exact hD1.2 k9 x hx
      · rw [List.getElem?_append_right (by omega)] at hx
        have := hr _ _ hx
        exact hA _ (by have := hS.1; omega)
  have hAr : ArrOfT s cA (.array ty) := fun N9 z9 => by
    obtain ⟨-, k9, hk9, cm9, hkk9⟩ := (hO 0 0 0).1
    exact ⟨(fun q hq => by cases hq), k9, hk9, cm9, hkk9⟩
  have hK2 : va_K D cl (tys ++ [(cA, .array ty)]) s := ⟨hK.1, fun k9 x hx => by
    by_cases hl : k9 < tys.length
    · rw [List.getElem?_append_left hl] at hx
      exact hK.2 k9 x hx
    · rw [List.getElem?_append_right (by omega)] at hx
      have h0 : k9 - tys.length < 1 := (List.getElem?_eq_some_iff.mp hx).1
      rw [show k9 - tys.length = 0 by omega] at hx
      cases hx
      exact ⟨hAr, fA⟩⟩
  obtain ⟨t, a1, b1⟩ := kk H.size (fun i => H.size + 1 + i) cA F.heap (fun i j _ _ h => by have h9 : H.size + 1 + i = H.size + 1 + j := h; omega) hnl hK2 (by rw [← vr_rows hnm]; exact vr_lay hP2) (by rw [← vr_rows hnm]; exact vr_layD hD2) ⟨by rw [f1]; have := hS.1; omega, fun x h1 h2 => (hold x (Nat.lt_of_lt_of_le h1 hS.1)).trans (hS.2.1 x h1 h2), hS.2.2⟩ F rfl X'
  refine ⟨t, step t ?_, b1⟩
  have e : T.heap.size = H.size := by rw [hT]
  rw [e]
  exact a1
end VGM
/-! ===== END ===== -/
end
section
noncomputable section
/-! arrays of arrays; longs -/
def x_rws (b : Nat) : Nat → xA
  | 0 => []
  | n + 1 => x_rws b n ++ [(n, (1, ((b + n : Nat) : Int), 0))]
theorem x_get_app (d : xV) (q : Nat × xV) (k : Nat) : ∀ l : xA, (∀ p ∈ l, p.1 ≠ q.1) → x_get d (l ++ [q]) k = if k = q.1 then q.2 else x_get d l k
  | [], _ => by
    simp only [List.nil_append, x_get_nil, x_get_cons]
    by_cases h : k = q.1
    · rw [if_pos h, h]; simp
    · rw [if_neg h, x_nb (Ne.symm h)]; rfl
  | p :: l, hp => by
    simp only [List.cons_append, x_get_cons]
    by_cases hk : p.1 = k
    · have hb : Nat.beq p.1 k = true := Nat.beq_eq.mpr hk
      have hn : ¬ k = q.1 := fun e => hp p List.mem_cons_self (hk.trans e)
      rw [hb, if_neg hn]; rfl
    · rw [x_nb hk]
      exact x_get_app d q k l (fun x hx => hp x (List.mem_cons_of_mem _ hx))
theorem x_rws_lt (b : Nat) : ∀ n, ∀ p ∈ x_rws b n, p.1 < n
  | 0, p, h => absurd h List.not_mem_nil
  | n + 1, p, h => by
    rcases List.mem_append.mp h with h | h
    · exact Nat.lt_succ_of_lt (x_rws_lt b n p h)
    · rw [List.mem_singleton] at h
      subst h
      exact Nat.lt_succ_self n
theorem x_rws_get (b : Nat) (d : xV) : ∀ n k, k < n → x_get d (x_rws b n) k = (1, ((b + k : Nat) : Int), 0)
  | 0, k, h => by omega
  | n + 1, k, h => by
    unfold x_rws
    rw [x_get_app d _ k _ (fun p hp => by have := x_rws_lt b n p hp; simp only; omega)]
    by_cases e : k = n
    · subst e; simp
    · simp only [e, if_false]
      exact x_rws_get b d n k (by omega)
def xi_mna (MC MS nx : Nat) : xS → Option (List xS) := fun t => match t.2.2.1 with
  | k :: n :: r => match x_bi t.2.2.2.2.1 k, x_bi t.2.2.2.2.1 n with
    | some kb, some nb => bif decide (kb.1 = kb.2) && (decide (nb.1 = nb.2) && (decide (0 ≤ kb.1) && (decide (0 ≤ nb.1) && (decide (kb.1 ≤ 1000000) && (decide (nb.1 ≤ 1000000) && (t.2.2.2.1.any (fun x => Nat.beq x.1 1) && (Nat.ble (t.2.2.2.2.2.1 + (1 + nb.1.toNat)) MC && Nat.ble (t.2.2.2.2.2.2 + (nb.1.toNat + nb.1.toNat * kb.1.toNat)) MS))))))) then
        some [(nx, t.2.1, (1, t.2.2.2.1.length, 0) :: r, t.2.2.2.1 ++ ((6, 0, nb.1.toNat, (2, 0, 0), x_rws (t.2.2.2.1.length + 1) nb.1.toNat) :: List.replicate nb.1.toNat (1, 0, kb.1.toNat, (0, 0, 0), [])), t.2.2.2.2.1, t.2.2.2.2.2.1 + 1 + nb.1.toNat, t.2.2.2.2.2.2 + nb.1.toNat + nb.1.toNat * kb.1.toNat)] else none
    | _, _ => none
  | _ => none
section X12b
variable {cl : List vw_C} {K : xKx} {cc : ByteArray} {own : String} {nL : Nat} {nm : String} {MC MS pc : Nat}
theorem xr_mna {ix : Nat} {C : String} (hs : C = "[" ++ (FieldType.array .int).toString) (hl : Cond.classLink own ix C ∈ x_tbl) (harr : Cond.arrayClass .int ∈ x_tbl) (d : decode cc pc = .ok (.multianewarray ix 2, 4)) : x_Snd cl K cc own nL nm MC MS pc (xi_mna MC MS (pc + 4)) := by
  subst hs
  intro V sc p l e R s m args below meth c D A H0 Q C hA hK t ts hpc hf hg
  unfold xi_mna at hf
  split at hf
  · rename_i k n r hst
    split at hf
    · rename_i kb nb hkb hnb
      cases hb : (decide (kb.1 = kb.2) && (decide (nb.1 = nb.2) && (decide (0 ≤ kb.1) && (decide (0 ≤ nb.1) && (decide (kb.1 ≤ 1000000) && (decide (nb.1 ≤ 1000000) && (t.2.2.2.1.any (fun x => Nat.beq x.1 1) && (Nat.ble (t.2.2.2.2.2.1 + (1 + nb.1.toNat)) MC && Nat.ble (t.2.2.2.2.2.2 + (nb.1.toNat + nb.1.toNat * kb.1.toNat)) MS)))))))) with
      | false => rw [hb] at hf; cases hf
      | true =>
        rw [hb] at hf
        cases hf
        subst hpc
        simp only [Bool.and_eq_true, decide_eq_true_eq, List.any_eq_true] at hb
        obtain ⟨b1, b2, b3, b4, b5, b6, ⟨x9, hx9, k9⟩, b8, b9⟩ := hb
        have b8 := Nat.le_of_ble_eq_true b8
        have b9 := Nat.le_of_ble_eq_true b9
        intro ls stk H locs ⟨lv, ws, tys, h1, h2, h3, h4, h5, h6, h7, h8, h9⟩
        rw [hst] at h3
        match stk, h3 with
        | v1 :: v2 :: rest, h3 =>
          obtain ⟨kk, rfl, i1, i2⟩ := x_bi_ok h9 hkb h3.1
          obtain ⟨nn, rfl, j1, j2⟩ := x_bi_ok h9 hnb h3.2.1
          obtain ⟨c1, c2⟩ := x_const b1 b3 i1 i2
          obtain ⟨d1, d2⟩ := x_const b2 b4 j1 j2
          obtain ⟨i9, hi9⟩ := List.getElem?_of_mem hx9
          have hl9 : i9 < ws.length := by rw [← h4.1]; exact (List.getElem?_eq_some_iff.mp hi9).1
          have hc9 := h4.2.2 i9 x9 ws[i9] hi9 (List.getElem?_eq_getElem hl9)
          obtain ⟨x9a, x9b⟩ := x9
          have e9 : x9a = 1 := Nat.eq_of_beq_eq_true k9
          subst e9
          obtain ⟨t9, cy, f9, ht9, -, -, -⟩ := hc9
          have hcy : s.vm.findClass (FieldType.array .int).toString = some cy := (h5.2 t9 _ ht9).2
          refine va_mna (X := ws) (L := []) (f := fun _ => .inl (cy, 0, .inl (fun _ => 0))) C.1.1 C.1.2.1 C.1.2.2.2.1 (C.1.2.2.2.2 _ hl) C.2.2.2.2.2.2.2.1 (C.1.2.2.2.2 _ harr) hcy h5 (by show va_P D cl (ws ++ []) H; rw [List.append_nil]; exact h6) (by show va_D A (ws ++ []); rw [List.append_nil]; exact h7) h8 hA (z := (kb.1.toNat, .inl (fun _ => 0))) d1 c1 d2 c2 (by omega) (by show kb.1.toNat * 4 ≤ 536870912; omega) (by omega) rfl rfl (by rw [C.2.2.1]; exact b8) (by rw [C.2.2.2.1]; exact b9) (fun c => by
            rw [vp_cell_i]
            show ({ cls := c, slots := Array.replicate kb.1.toNat (.int 0), vm := .none } : Cell) = _
            rw [arrV_new]) d (fun q rr cA H1 hinj hnl hK1 hP1 hD1 hS1 => ?_)
          have ew : (ws ++ [(q, .inl (cA, nb.1.toNat, .inr (.inr (.inr (.inr (fun i => if i < nb.1.toNat then some (rr i) else none))))))]) ++ va_pl ([] ++ (List.range nb.1.toNat).map rr) (vr_up (fun _ => .inl (cy, 0, .inl (fun _ => 0))) ((List.range nb.1.toNat).map rr) (.inl (cy, kb.1.toNat, .inl (fun _ => 0)))) = ws ++ ((q, .inl (cA, nb.1.toNat, .inr (.inr (.inr (.inr (fun i => if i < nb.1.toNat then some (rr i) else none)))))) :: (List.range nb.1.toNat).map (fun i => ((rr i, .inl (cy, kb.1.toNat, .inl (fun _ => 0))) : Nat × va_E))) := by
            rw [List.append_assoc, List.nil_append]
            unfold va_pl
            rw [List.map_map]
            congr 1
            show (q, _) :: _ = (q, _) :: _
            congr 1
            apply List.map_congr_left
            intro i hi
            simp only [Function.comp]
            rw [vr_up_in (List.mem_map_of_mem hi)]
          rw [ew] at hP1 hD1
          refine hg _ List.mem_cons_self ls (.ref q :: rest) H1 locs ⟨lv, _, _, h1, ?_, ⟨?_, ?_⟩, ?_, hK1, hP1, hD1, hS1, h9⟩
          · rw [List.map_append]; exact x_lv_app h2
          · refine ⟨q, ?_, rfl⟩
            simp only [Int.toNat_natCast]
            rw [h4.1]
            simp
          · rw [List.map_append]; exact x_stk_app h3.2.2
          · refine x_world_app h4 (by simp) (fun j x y hx hy => ?_)
            cases j with
            | zero =>
              cases hx
              cases hy
              refine ⟨tys.length, cA, _, by simp, rfl, by show nb.1.toNat < 2147483648; omega, fun i hi => ?_⟩
              have hi : i < nb.1.toNat := hi
              show x_rel _ V sc (x_get (2, 0, 0) (x_rws (t.2.2.2.1.length + 1) nb.1.toNat) i) (va_rf (if i < nb.1.toNat then some (rr i) else none))
              rw [x_rws_get _ _ _ _ hi, if_pos hi]
              refine ⟨rr i, ?_, rfl⟩
              simp only [Int.toNat_natCast]
              rw [h4.1, List.map_append, List.getElem?_append_right (by rw [List.length_map]; omega), List.length_map]
              rw [show ws.length + 1 + i - ws.length = i + 1 by omega]
              simp only [List.map_cons, List.getElem?_cons_succ, List.map_map]
              rw [List.getElem?_map, List.getElem?_range hi]
              rfl
            | succ j =>
              simp only [List.getElem?_cons_succ] at hx hy
              have hj : j < nb.1.toNat := by
                have := (List.getElem?_eq_some_iff.mp hx).1
                simpa using this
              rw [List.getElem?_replicate, if_pos hj] at hx
              cases hx
              rw [List.getElem?_map, List.getElem?_range hj] at hy
              cases hy
              refine ⟨t9, cy, _, by rw [List.getElem?_append_left (List.getElem?_eq_some_iff.mp ht9).1]; exact ht9, rfl, by show kb.1.toNat < 2147483648; omega, fun i hi => ⟨0, rfl, by show (0 : Int) ≤ Int32.toInt 0; decide, by show Int32.toInt 0 ≤ (0 : Int); decide⟩⟩
    · cases hf
  · cases hf
def xF_anyL (_ _ : Int × Int) : Option xV := some x_anyL
theorem xr_lshl (d : decode cc pc = .ok (.lshl, 1)) : x_Snd cl K cc own nL nm MC MS pc (xi_shL xF_anyL (pc + 1)) := xi_shL_ok (g := fun x y => x <<< (y.toInt64 &&& 63)) (fun x y => (fun S => fun k => lv_lshl S.1 S.2.1 d rfl k)) (fun a b z x y h h1 h2 h3 h4 ad V sc => by cases h; exact x_anyL_ok _)
def xF_mulL (a b : Int × Int) : Option xV := some (x_J (x_min (x_min (a.1 * b.1) (a.2 * b.1)) (x_min (a.1 * b.2) (a.2 * b.2))) (x_max (x_max (a.1 * b.1) (a.2 * b.1)) (x_max (a.1 * b.2) (a.2 * b.2))))
theorem xr_lmul (d : decode cc pc = .ok (.lmul, 1)) : x_Snd cl K cc own nL nm MC MS pc (xi_binL xF_mulL (pc + 1)) := xi_binL_ok (g := fun x y => x * y) (fun _ => True) (fun x y _ => (fun S => fun k => lv_lmul S.1 S.2.1 d k)) (fun a b z x y h h1 h2 h3 h4 => ⟨trivial, fun ad V sc => by cases h; exact x_J_ok (Int64.toInt_mul x y) (x_corner h1 h2 h3 h4).1 (x_corner h1 h2 h3 h4).2⟩)
def xF_negL (a : Int × Int) : xV := x_J (-a.2) (-a.1)
theorem xr_lneg (d : decode cc pc = .ok (.lneg, 1)) : x_Snd cl K cc own nL nm MC MS pc (xi_unL xF_negL (pc + 1)) := xi_unL_ok (g := fun x => .long (-x)) (fun x => (fun S => fun k => lv_lneg S.1 S.2.1 d k)) (fun a x h1 h2 ad V sc => x_J_ok (Int64.toInt_neg x) (by omega) (by omega))
def xF_l2i (a : Int × Int) : xV := x_I a.1 a.2
theorem xr_l2i (d : decode cc pc = .ok (.l2i, 1)) : x_Snd cl K cc own nL nm MC MS pc (xi_unL xF_l2i (pc + 1)) := xi_unL_ok (g := fun x => .int x.toInt32) (fun x => (fun S => fun k => lv_l2i S.1 S.2.1 d rfl k)) (fun a x h1 h2 ad V sc => x_I_ok (Int64.toInt_toInt32 x) h1 h2)
end X12b
end
end
section
noncomputable section
/-! more of what the interpreter does: a token by its values, three ways, the script, sums of tokens, counting -/
section X12c
variable {cl : List vw_C} {K : xKx} {cc : ByteArray} {own : String} {nL : Nat} {nm : String} {MC MS pc nx tg : Nat}
def x_tks (t : xS) (j : Nat) (q : Int × Int) : xS := (t.1, t.2.1, t.2.2.1, t.2.2.2.1, t.2.2.2.2.1.set j q, t.2.2.2.2.2)
theorem x_tks_in {V : List Int} {sc : Nat × Nat × List Nat} {s : State} {D : va_G} {A : Nat → Prop} {H0 : Heap} {t : xS} {ls : Array Slot} {stk : List Value} {H : Heap} {locs : List Loc} {j : Nat} {q : Int × Int} {z : Int} (hI : x_In cl V sc nL s D A H0 t ls stk H locs) (hv : V[j]? = some z) (h1 : q.1 ≤ z) (h2 : z ≤ q.2) : x_In cl V sc nL s D A H0 (x_tks t j q) ls stk H locs := by
  obtain ⟨lv, ws, tys, k1, k2, k3, k4, k5, k6, k7, k8, k9⟩ := hI
  exact ⟨lv, ws, tys, k1, k2, k3, k4, k5, k6, k7, k8, x_tk_set k9 hv h1 h2⟩
theorem x_In_tk {V : List Int} {sc : Nat × Nat × List Nat} {s : State} {D : va_G} {A : Nat → Prop} {H0 : Heap} {t : xS} {ls : Array Slot} {stk : List Value} {H : Heap} {locs : List Loc} (hI : x_In cl V sc nL s D A H0 t ls stk H locs) : x_tk t.2.2.2.2.1 V := by
  obtain ⟨lv, ws, tys, k1, k2, k3, k4, k5, k6, k7, k8, k9⟩ := hI
  exact k9
/-- a token's values one by one -/
def x_splL (j : Nat) (f : xS → Option (List xS)) (t : xS) (lo : Int) : Nat → Option (List xS)
  | 0 => some []
  | n + 1 => match f (x_tks t j (lo + n, lo + n)) with
    | some a => match x_splL j f t lo n with
      | some b => some (a ++ b)
      | none => none
    | none => none
theorem x_splL_in {j : Nat} {f : xS → Option (List xS)} {t : xS} {lo : Int} : ∀ {n : Nat} {ts : List xS}, x_splL j f t lo n = some ts → ∀ i, i < n → ∃ a, f (x_tks t j (lo + i, lo + i)) = some a ∧ ∀ x ∈ a, x ∈ ts
  | 0, _, _, i, hi => by omega
  | n + 1, ts, h, i, hi => by
    unfold x_splL at h
    split at h
    · rename_i a ha
      split at h
      · rename_i b hb
        cases h
        by_cases e : i = n
        · subst e
          exact ⟨a, ha, fun x hx => List.mem_append_left _ hx⟩
        · obtain ⟨a', h1, h2⟩ := x_splL_in hb i (by omega)
          exact ⟨a', h1, fun x hx => List.mem_append_right _ (h2 x hx)⟩
      · cases h
    · cases h
/-- the same, checked as it runs -/
def xi_splC (j : Nat) (f : xS → Option (List xS)) : xS → Option (List xS) := fun t => match t.2.2.2.2.1[j]? with
  | some q => bif decide (q.2 ≤ q.1 + 100) then x_splL j f t q.1 (q.2 + 1 - q.1).toNat else none
  | none => none
theorem xi_splC_ok {j : Nat} {f : xS → Option (List xS)} (hw : x_Snd cl K cc own nL nm MC MS pc f) : x_Snd cl K cc own nL nm MC MS pc (xi_splC j f) := by
  intro V sc p l e R s m args below meth c D A H0 Q C hA hK t ts hpc hf hg
  unfold xi_splC at hf
  split at hf
  · rename_i q hq
    cases hb : decide (q.2 ≤ q.1 + 100) with
    | false => rw [hb] at hf; cases hf
    | true =>
      rw [hb] at hf
      simp only [cond_true] at hf
      intro ls stk H locs hI
      obtain ⟨z, z1, z2, z3⟩ := x_In_tk hI j q hq
      obtain ⟨a, ha, hin⟩ := x_splL_in hf (z - q.1).toNat (by omega)
      have ez : q.1 + ((z - q.1).toNat : Int) = z := by omega
      rw [ez] at ha
      exact hw C hA hK (x_tks t j (z, z)) a hpc ha (fun t' h' => hg t' (hin t' h')) ls stk H locs (x_tks_in hI z1 (Int.le_refl z) (Int.le_refl z))
  · cases hf
/-- one of two, by a test -/
def xi_or (b : xS → Bool) (f g : xS → Option (List xS)) : xS → Option (List xS) := fun t => bif b t then f t else g t
theorem xi_or_ok {b : xS → Bool} {f g : xS → Option (List xS)} (hf : x_Snd cl K cc own nL nm MC MS pc f) (hg : x_Snd cl K cc own nL nm MC MS pc g) : x_Snd cl K cc own nL nm MC MS pc (xi_or b f g) := by
  intro V sc p l e R s m args below meth c D A H0 Q C hA hK t ts hpc h hh
  unfold xi_or at h
  cases hb : b t with
  | true => rw [hb] at h; exact hf C hA hK t ts hpc h hh
  | false => rw [hb] at h; exact hg C hA hK t ts hpc h hh
/-- less, equal, greater: each its way -/
def xi_if3 (ne lt gt : Nat) : xS → Option (List xS) := fun t => match t.2.2.1 with
  | y :: x :: r => match x_bi t.2.2.2.2.1 x, x_bi t.2.2.2.2.1 y with
    | some a, some b => some (x_way 0 a b t x y r ne ++ (x_way 2 a b t x y r lt ++ x_way 4 a b t x y r gt))
    | _, _ => none
  | _ => none
theorem xi_if3_ok {e0 e2 : Nat} (hw : ∀ {p : Program} {l : Launch} {e : Env} {R : Room} {s : State} {m : MethodId} {args : Array Value} {below : List Frame} {meth : Method} {c : Code}, CallFix p m c cc nL s args x_tbl own → ∀ {H : Heap} {locs : List Loc} {cells slots : Nat} {Q : State → Prop} {ls : Array Slot} {rest : List Value} {x y : Int32},
    (x.toInt = y.toInt → W p l e R s m args below meth c H locs cells slots Q (F0 m e0 ls rest)) → (x.toInt ≠ y.toInt → W p l e R s m args below meth c H locs cells slots Q (F0 m e2 ls rest)) → W p l e R s m args below meth c H locs cells slots Q (F0 m pc ls (.int y :: .int x :: rest))) : x_Snd cl K cc own nL nm MC MS pc (xi_if3 e0 e2 e2) := by
  intro V sc p l e R s m args below meth c D A H0 Q C hA hK t ts hpc hf hg
  unfold xi_if3 at hf
  split at hf
  · rename_i y x r hst
    split at hf
    · rename_i a b ha hb
      cases hf
      subst hpc
      intro ls stk H locs ⟨lv, ws, tys, h1, h2, h3, h4, h5, h6, h7, h8, h9⟩
      rw [hst] at h3
      match stk, h3 with
      | v1 :: v2 :: rest, h3 =>
        obtain ⟨ny, rfl, y1, y2⟩ := x_bi_ok h9 hb h3.1
        obtain ⟨nx', rfl, x1, x2⟩ := x_bi_ok h9 ha h3.2.1
        refine hw C.1 (fun hc => ?_) (fun hc => ?_)
        · have hc : x_cnd 0 nx'.toInt ny.toInt := hc
          obtain ⟨⟨g1, g2⟩, g3, g4⟩ := x_nar_ok ⟨x1, x2⟩ ⟨y1, y2⟩ hc
          exact hg _ (List.mem_append_left _ (x_way_in (x_may_ok ⟨x1, x2⟩ ⟨y1, y2⟩ hc))) ls rest H locs ⟨lv, ws, tys, h1, h2, h3.2.2, h4, h5, h6, h7, h8, x_setb_i (x_setb_i h9 h3.2.1 g1 g2) h3.1 g3 g4⟩
        · rcases Int.lt_or_gt_of_ne hc with hc | hc
          · have hc : x_cnd 2 nx'.toInt ny.toInt := hc
            obtain ⟨⟨g1, g2⟩, g3, g4⟩ := x_nar_ok ⟨x1, x2⟩ ⟨y1, y2⟩ hc
            exact hg _ (List.mem_append_right _ (List.mem_append_left _ (x_way_in (x_may_ok ⟨x1, x2⟩ ⟨y1, y2⟩ hc)))) ls rest H locs ⟨lv, ws, tys, h1, h2, h3.2.2, h4, h5, h6, h7, h8, x_setb_i (x_setb_i h9 h3.2.1 g1 g2) h3.1 g3 g4⟩
          · have hc : x_cnd 4 nx'.toInt ny.toInt := hc
            obtain ⟨⟨g1, g2⟩, g3, g4⟩ := x_nar_ok ⟨x1, x2⟩ ⟨y1, y2⟩ hc
            exact hg _ (List.mem_append_right _ (List.mem_append_right _ (x_way_in (x_may_ok ⟨x1, x2⟩ ⟨y1, y2⟩ hc)))) ls rest H locs ⟨lv, ws, tys, h1, h2, h3.2.2, h4, h5, h6, h7, h8, x_setb_i (x_setb_i h9 h3.2.1 g1 g2) h3.1 g3 g4⟩
    · cases hf
  · cases hf
theorem xr_3eq {off : Int} (d : decode cc pc = .ok (.if_icmp .eq off, 3)) (ht : (pc : Int) + off = (tg : Int)) : x_Snd cl K cc own nL nm MC MS pc (xi_if3 tg (pc + 3) (pc + 3)) := xi_if3_ok (fun S => fun kt kf => lv_icmp_eq S.1 S.2.1 d ht (fun h => kt (x_eq32.mp h)) (fun h => kf (fun q => h (x_eq32.mpr q))))
theorem xr_3ne {off : Int} (d : decode cc pc = .ok (.if_icmp .ne off, 3)) (ht : (pc : Int) + off = (tg : Int)) : x_Snd cl K cc own nL nm MC MS pc (xi_if3 (pc + 3) tg tg) := xi_if3_ok (fun S => fun kt kf => lv_icmp_ne S.1 S.2.1 d ht (fun h => kf (fun q => h (x_eq32.mpr q))) (fun h => kt (x_eq32.mp h)))
/-- a rest of 0, 1, 2 or 3 by 2 -/
def xF_rem (a b : Int × Int) : Option xV := bif decide (a.1 = a.2) && (decide (0 ≤ a.1) && (decide (a.1 ≤ 3) && (decide (b.1 = 2) && decide (b.2 = 2)))) then some (0, a.1 % 2, a.1 % 2) else none
theorem xr_irem (d : decode cc pc = .ok (.irem, 1)) : x_Snd cl K cc own nL nm MC MS pc (xi_bin xF_rem (pc + 1)) := xi_bin_ok (g := fun x y => x - x / y * y) (fun y => ¬ y = 0) (fun x y hy => (fun S => fun k => lv_irem S.1 S.2.1 d hy k)) (fun a b z x y h h1 h2 h3 h4 => by
  unfold xF_rem at h
  cases hb : (decide (a.1 = a.2) && (decide (0 ≤ a.1) && (decide (a.1 ≤ 3) && (decide (b.1 = 2) && decide (b.2 = 2))))) with
  | false => rw [hb] at h; cases h
  | true =>
    rw [hb] at h
    cases h
    simp only [Bool.and_eq_true, decide_eq_true_eq] at hb
    have e : y = 2 := x_eq32.mpr (by rw [show (2 : Int32).toInt = 2 from by decide]; omega)
    subst e
    have hx : x.toInt = a.1 := by omega
    have h4 : x = 0 ∨ x = 1 ∨ x = 2 ∨ x = 3 := by
      have : a.1 = 0 ∨ a.1 = 1 ∨ a.1 = 2 ∨ a.1 = 3 := by omega
      rcases this with q | q | q | q
      · exact Or.inl (x_eq32.mpr (by rw [hx, q]; decide))
      · exact Or.inr (Or.inl (x_eq32.mpr (by rw [hx, q]; decide)))
      · exact Or.inr (Or.inr (Or.inl (x_eq32.mpr (by rw [hx, q]; decide))))
      · exact Or.inr (Or.inr (Or.inr (x_eq32.mpr (by rw [hx, q]; decide))))
    refine ⟨by decide, fun ad V sc => ⟨_, rfl, ?_⟩⟩
    rw [← hx]
    rcases h4 with rfl | rfl | rfl | rfl <;> decide)
-- longs: shifts, masks, quotients
theorem x_shr64 (a s : Int64) (k : Nat) (hs : (s.toBitVec.smod 64).toNat = k) : (a >>> s).toInt = a.toInt >>> k := by
  show (a.toBitVec.sshiftRight (s.toBitVec.smod 64).toNat).toInt = _
  rw [hs, BitVec.toInt_sshiftRight]
  rfl
def x_shn (z : Int) : Bool := decide (z = 11) || (decide (z = 30) || decide (z = 40))
def xF_shrL (a b : Int × Int) : Option xV := bif decide (b.1 = b.2) && x_shn b.1 then some (4, a.1 / 2 ^ b.1.toNat, a.2 / 2 ^ b.1.toNat) else none
theorem x_shrI {x : Int64} {a : Int × Int} (k : Nat) (h1 : a.1 ≤ x.toInt) (h2 : x.toInt ≤ a.2) : a.1 / 2 ^ k ≤ x.toInt >>> k ∧ x.toInt >>> k ≤ a.2 / 2 ^ k := by
  rw [Int.shiftRight_eq_div_pow]
  have hp : (0 : Int) < ((2 ^ k : Nat) : Int) := by exact_mod_cast Nat.two_pow_pos k
  have e : ((2 ^ k : Nat) : Int) = 2 ^ k := by simp
  rw [e] at hp ⊢
  exact ⟨Int.ediv_le_ediv hp h1, Int.ediv_le_ediv hp h2⟩
theorem xr_lshr (d : decode cc pc = .ok (.lshr, 1)) : x_Snd cl K cc own nL nm MC MS pc (xi_shL xF_shrL (pc + 1)) := xi_shL_ok (g := fun x y => x >>> (y.toInt64 &&& 63)) (fun x y => (fun S => fun k => lv_lshr S.1 S.2.1 d rfl k)) (fun a b z x y h h1 h2 h3 h4 ad V sc => by
  unfold xF_shrL at h
  cases hb : (decide (b.1 = b.2) && x_shn b.1) with
  | false => rw [hb] at h; cases h
  | true =>
    rw [hb] at h
    cases h
    unfold x_shn at hb
    simp only [Bool.and_eq_true, Bool.or_eq_true, decide_eq_true_eq] at hb
    have key : (x >>> (y.toInt64 &&& 63)).toInt = x.toInt >>> b.1.toNat := by
      rcases hb.2 with q | q | q
      · have e : y = 11 := x_eq32.mpr (by rw [show (11 : Int32).toInt = 11 from by decide]; omega)
        subst e
        rw [q]
        exact x_shr64 x _ 11 (by decide)
      · have e : y = 30 := x_eq32.mpr (by rw [show (30 : Int32).toInt = 30 from by decide]; omega)
        subst e
        rw [q]
        exact x_shr64 x _ 30 (by decide)
      · have e : y = 40 := x_eq32.mpr (by rw [show (40 : Int32).toInt = 40 from by decide]; omega)
        subst e
        rw [q]
        exact x_shr64 x _ 40 (by decide)
    refine ⟨_, rfl, ?_⟩
    rw [key]
    exact x_shrI b.1.toNat h1 h2)
def xF_andL (a b : Int × Int) : Option xV := bif decide (b.1 = 1073741823) && decide (b.2 = 1073741823) then (bif decide (0 ≤ a.1) && decide (a.2 ≤ 1073741823) then some (4, a) else some (4, 0, 1073741823)) else none
theorem x_and64 (x : Int64) : ((x &&& 1073741823).toBitVec.toNat) = x.toBitVec.toNat % 2 ^ 30 := by
  rw [Int64.toBitVec_and, BitVec.toNat_and]
  rw [show (1073741823 : Int64).toBitVec.toNat = 2 ^ 30 - 1 from by decide, Nat.and_two_pow_sub_one_eq_mod]
theorem x_i64 (x : Int64) (h : x.toBitVec.toNat < 2 ^ 63) : x.toInt = x.toBitVec.toNat := by
  show x.toBitVec.toInt = _
  rw [BitVec.toInt_eq_toNat_cond, if_pos (by omega)]
theorem x_n64 (x : Int64) (h : 0 ≤ x.toInt) : (x.toBitVec.toNat : Int) = x.toInt := by
  have h2 : x.toInt = x.toBitVec.toInt := rfl
  rw [h2] at h ⊢
  rw [BitVec.toInt_eq_toNat_cond] at h ⊢
  split at h
  · rw [if_pos (by assumption)]
  · have := x.toBitVec.isLt
    omega
theorem xr_land (d : decode cc pc = .ok (.land, 1)) : x_Snd cl K cc own nL nm MC MS pc (xi_binL xF_andL (pc + 1)) := xi_binL_ok (g := fun x y => x &&& y) (fun _ => True) (fun x y _ => (fun S => fun k => lv_land S.1 S.2.1 d k)) (fun a b z x y h h1 h2 h3 h4 => ⟨trivial, fun ad V sc => by
  unfold xF_andL at h
  cases hb : (decide (b.1 = 1073741823) && decide (b.2 = 1073741823)) with
  | false => rw [hb] at h; cases h
  | true =>
    rw [hb] at h
    simp only [cond_true] at h
    simp only [Bool.and_eq_true, decide_eq_true_eq] at hb
    have e : y = 1073741823 := Int64.toInt_inj.mp (by rw [show (1073741823 : Int64).toInt = 1073741823 from by decide]; omega)
    subst e
    have hn := x_and64 x
    have hlt : x.toBitVec.toNat % 2 ^ 30 < 2 ^ 30 := Nat.mod_lt _ (by decide)
    have hi := x_i64 (x &&& 1073741823) (by rw [hn]; omega)
    rw [hn] at hi
    cases hb2 : (decide (0 ≤ a.1) && decide (a.2 ≤ 1073741823)) with
    | false =>
      rw [hb2] at h
      cases h
      exact ⟨_, rfl, by show (0 : Int) ≤ _; omega, by show _ ≤ (1073741823 : Int); omega⟩
    | true =>
      rw [hb2] at h
      cases h
      simp only [Bool.and_eq_true, decide_eq_true_eq] at hb2
      have h0 := x_n64 x (by omega)
      have hm : x.toBitVec.toNat % 2 ^ 30 = x.toBitVec.toNat := Nat.mod_eq_of_lt (by omega)
      rw [hm] at hi
      exact ⟨_, rfl, by show a.1 ≤ _; omega, by show _ ≤ a.2; omega⟩⟩)
def xF_divL (a b : Int × Int) : Option xV := bif decide (0 ≤ a.1) && (decide (1 ≤ b.1) && decide (b.1 = b.2)) then some (4, a.1 / b.1, a.2 / b.1) else none
theorem xr_ldiv (d : decode cc pc = .ok (.ldiv, 1)) : x_Snd cl K cc own nL nm MC MS pc (xi_binL xF_divL (pc + 1)) := xi_binL_ok (g := fun x y => x / y) (fun y => ¬ y = 0) (fun x y hy => (fun S => fun k => lv_ldiv S.1 S.2.1 d hy k)) (fun a b z x y h h1 h2 h3 h4 => by
  unfold xF_divL at h
  cases hb : (decide (0 ≤ a.1) && (decide (1 ≤ b.1) && decide (b.1 = b.2))) with
  | false => rw [hb] at h; cases h
  | true =>
    rw [hb] at h
    cases h
    simp only [Bool.and_eq_true, decide_eq_true_eq] at hb
    have hy : y.toInt = b.1 := by omega
    refine ⟨fun e => by rw [e] at hy; have : (0 : Int64).toInt = 0 := by decide
                        omega, fun ad V sc => ⟨_, rfl, ?_⟩⟩
    have hne : y ≠ -1 := fun e => by
      rw [e] at hy
      have : (-1 : Int64).toInt = -1 := by decide
      omega
    rw [Int64.toInt_div_of_ne_right x y hne, Int.tdiv_eq_ediv_of_nonneg (by omega), hy]
    exact ⟨Int.ediv_le_ediv (by omega) h1, Int.ediv_le_ediv (by omega) h2⟩)
/-- the script: its length is the token 15, the place k is the token k -/
def x_Scr (R : Room) (s : State) (A : Nat → Prop) (H : Heap) (V : List Int) (sc : Nat × Nat × List Nat) : Prop := ∃ (L : Nat) (xs : Nat → Int32), va_X sc.1 L xs s H ∧ sc.1 < H.size ∧ ¬ A sc.1 ∧ L ≤ 6 ∧ V[15]? = some (L : Int) ∧ V[16]? = some ((L : Int) - 6) ∧ ∀ j : Nat, j < L → V[j]? = some (xs j).toInt
def xi_slen (nx : Nat) : xS → Option (List xS) := fun t => match t.2.2.1 with
  | (10, _, _) :: r => some [(nx, t.2.1, (3, 15, 0) :: r, t.2.2.2)]
  | _ => none
def xi_sld (nx : Nat) : xS → Option (List xS) := fun t => match t.2.2.1 with
  | i :: (10, _, _) :: r => match x_bi t.2.2.2.2.1 i, t.2.2.2.2.1[16]? with
    | some b, some q => bif decide (b.1 = b.2) && (decide (0 ≤ b.1) && (decide (b.1 ≤ 5) && decide (0 ≤ q.1))) then some [(nx, t.2.1, (3, b.1, 0) :: r, t.2.2.2)] else none
    | _, _ => none
  | _ => none
theorem xr_slen (hS : ∀ R s A H V sc, K R s A H V sc → x_Scr R s A H V sc) (d : decode cc pc = .ok (.arraylength, 1)) : x_Snd cl K cc own nL nm MC MS pc (xi_slen (pc + 1)) := by
  intro V sc p l e R s m args below meth c D A H0 Q C hA hK t ts hpc hf hg
  unfold xi_slen at hf
  split at hf
  · rename_i a b r hst
    cases hf
    subst hpc
    intro ls stk H locs ⟨lv, ws, tys, h1, h2, h3, h4, h5, h6, h7, h8, h9⟩
    rw [hst] at h3
    match stk, h3 with
    | v :: rest, h3 =>
      obtain ⟨rfl, -⟩ := h3.1
      obtain ⟨L, xs, g1, g2, g3, g4, g5, g6, g7⟩ := hS _ _ _ _ _ _ hK
      refine va_slen C.1.1 C.1.2.1 g1 g2 g3 h8 d (hg _ List.mem_cons_self ls (.int (Int32.ofNat L) :: rest) H locs ⟨lv, ws, tys, h1, h2, ⟨⟨_, rfl, ?_⟩, h3.2⟩, h4, h5, h6, h7, h8, h9⟩)
      show V[15]? = _
      rw [g5]
      have : (Int32.ofNat L).toInt = (L : Int) := nI_toInt (by omega)
      rw [this]
  · cases hf
theorem xr_sld (hS : ∀ R s A H V sc, K R s A H V sc → x_Scr R s A H V sc) (d : decode cc pc = .ok (.iaload, 1)) : x_Snd cl K cc own nL nm MC MS pc (xi_sld (pc + 1)) := by
  intro V sc p l e R s m args below meth c D A H0 Q C hA hK t ts hpc hf hg
  unfold xi_sld at hf
  split at hf
  · rename_i i a b r hst
    split at hf
    · rename_i ib q hib hq
      cases hb : (decide (ib.1 = ib.2) && (decide (0 ≤ ib.1) && (decide (ib.1 ≤ 5) && decide (0 ≤ q.1)))) with
      | false => rw [hb] at hf; cases hf
      | true =>
        rw [hb] at hf
        cases hf
        subst hpc
        simp only [Bool.and_eq_true, decide_eq_true_eq] at hb
        intro ls stk H locs ⟨lv, ws, tys, h1, h2, h3, h4, h5, h6, h7, h8, h9⟩
        rw [hst] at h3
        match stk, h3 with
        | v :: v' :: rest, h3 =>
          obtain ⟨ni, rfl, i1, i2⟩ := x_bi_ok h9 hib h3.1
          obtain ⟨rfl, -⟩ := h3.2.1
          obtain ⟨L, xs, g1, g2, g3, g4, g5, g6, g7⟩ := hS _ _ _ _ _ _ hK
          obtain ⟨z, z1, z2, z3⟩ := h9 16 q hq
          rw [g6] at z1
          cases z1
          have e : ni.toNatClampNeg = ib.1.toNat := by
            show ni.toInt.toNat = _
            omega
          refine va_sld C.1.1 C.1.2.1 g1 g2 g3 h8 (i := ni) (vp_in_iff.mpr ⟨by omega, by omega⟩) d (hg _ List.mem_cons_self ls (.int (xs ni.toNatClampNeg) :: rest) H locs ⟨lv, ws, tys, h1, h2, ⟨⟨_, rfl, ?_⟩, h3.2.2⟩, h4, h5, h6, h7, h8, h9⟩)
          rw [e]
          have h5' : ib.1.toNat < L := by
            have := hb.2.2.2
            omega
          exact g7 _ h5'
    · cases hf
  · cases hf
/-- two ints of which the tables of tokens know the result -/
def x_mt (tk : xT) (c : Nat) (q : Int × Int) : xT := match tk[c]? with
  | some z => tk.set c (x_max z.1 q.1, x_min z.2 q.2)
  | none => tk
theorem x_mt_ok {tk : xT} {V : List Int} {c : Nat} {q : Int × Int} {z : Int} (h : x_tk tk V) (hv : V[c]? = some z) (h1 : q.1 ≤ z) (h2 : z ≤ q.2) : x_tk (x_mt tk c q) V := by
  unfold x_mt
  split
  · rename_i w hw
    obtain ⟨n, n1, n2, n3⟩ := h c w hw
    rw [hv] at n1
    cases n1
    exact x_tk_set h hv (x_max_le n2 h1) (x_le_min n3 h2)
  · exact h
def x_r32 (q : Int × Int) : Bool := decide (-2147483648 ≤ q.1) && decide (q.2 ≤ 2147483647)
def xi_bT (px py : xV) (c : Nat) (F : Int × Int → Int × Int → Int × Int) (nx : Nat) : xS → Option (List xS) := fun t => match t.2.2.1 with
  | y :: x :: r => match x_bi t.2.2.2.2.1 x, x_bi t.2.2.2.2.1 y with
    | some a, some b => bif x_eqv x px && (x_eqv y py && x_r32 (F a b)) then some [(nx, t.2.1, (3, (c : Int), 0) :: r, t.2.2.2.1, x_mt t.2.2.2.2.1 c (F a b), t.2.2.2.2.2)] else none
    | _, _ => none
  | _ => none
theorem xi_bT_ok {px py : xV} {c : Nat} {F : Int × Int → Int × Int → Int × Int} {g : Int32 → Int32 → Int32} {G : Int → Int → Int} (hw : ∀ x y, x_Stk cc own nL pc nx [.int y, .int x] [.int (g x y)]) (hgG : ∀ x y : Int32, (g x y).toInt = (G x.toInt y.toInt).bmod 4294967296)
    (hF : ∀ (a b : Int × Int) (x y : Int), a.1 ≤ x → x ≤ a.2 → b.1 ≤ y → y ≤ b.2 → (F a b).1 ≤ G x y ∧ G x y ≤ (F a b).2) (hV : ∀ R s A H V sc, K R s A H V sc → ∀ ad (x y : Int32), x_rel ad V sc px (.int x) → x_rel ad V sc py (.int y) → V[c]? = some (G x.toInt y.toInt)) : x_Snd cl K cc own nL nm MC MS pc (xi_bT px py c F nx) := by
  intro V sc p l e R s m args below meth c D A H0 Q C hA hK t ts hpc hf hg
  unfold xi_bT at hf
  split at hf
  · rename_i y x r hst
    split at hf
    · rename_i a b ha hb
      cases hbb : (x_eqv x px && (x_eqv y py && x_r32 (F a b))) with
      | false => rw [hbb] at hf; cases hf
      | true =>
        rw [hbb] at hf
        cases hf
        simp only [Bool.and_eq_true] at hbb
        obtain ⟨q1, q2, q3⟩ := hbb
        have e1 := x_eqv_ok q1
        have e2 := x_eqv_ok q2
        subst e1
        subst e2
        unfold x_r32 at q3
        simp only [Bool.and_eq_true, decide_eq_true_eq] at q3
        subst hpc
        intro ls stk H locs ⟨lv, ws, tys, h1, h2, h3, h4, h5, h6, h7, h8, h9⟩
        rw [hst] at h3
        match stk, h3 with
        | v1 :: v2 :: rest, h3 =>
          obtain ⟨ny, rfl, y1, y2⟩ := x_bi_ok h9 hb h3.1
          obtain ⟨nx', rfl, x1, x2⟩ := x_bi_ok h9 ha h3.2.1
          obtain ⟨f1, f2⟩ := hF a b nx'.toInt ny.toInt x1 x2 y1 y2
          have hv := hV _ _ _ _ _ _ hK _ nx' ny h3.2.1 h3.1
          have eg : (g nx' ny).toInt = G nx'.toInt ny.toInt := by rw [hgG, x_bmod (by omega) (by omega)]
          exact hw nx' ny C.1 (hg _ List.mem_cons_self ls (.int (g nx' ny) :: rest) H locs ⟨lv, ws, tys, h1, h2, ⟨⟨_, rfl, by simp only [Int.toNat_natCast]; rw [eg]; exact hv⟩, h3.2.2⟩, h4, h5, h6, h7, h8, x_mt_ok h9 hv f1 f2⟩)
    · cases hf
  · cases hf
def xG_add (a b : Int × Int) : Int × Int := (a.1 + b.1, a.2 + b.2)
def xG_sub (a b : Int × Int) : Int × Int := (a.1 - b.2, a.2 - b.1)
def xG_mul (a b : Int × Int) : Int × Int := (x_min (x_min (a.1 * b.1) (a.2 * b.1)) (x_min (a.1 * b.2) (a.2 * b.2)), x_max (x_max (a.1 * b.1) (a.2 * b.1)) (x_max (a.1 * b.2) (a.2 * b.2)))
theorem xr_taddI {px py : xV} {c : Nat} (d : decode cc pc = .ok (.iadd, 1)) (hV : ∀ R s A H V sc, K R s A H V sc → ∀ ad (x y : Int32), x_rel ad V sc px (.int x) → x_rel ad V sc py (.int y) → V[c]? = some (x.toInt + y.toInt)) : x_Snd cl K cc own nL nm MC MS pc (xi_bT px py c xG_add (pc + 1)) := xi_bT_ok (g := fun x y => x + y) (G := fun x y => x + y) (fun x y => (fun S => fun k => lv_iadd S.1 S.2.1 d k)) (fun x y => Int32.toInt_add x y) (fun a b x y h1 h2 h3 h4 => ⟨by show a.1 + b.1 ≤ _; omega, by show _ ≤ a.2 + b.2; omega⟩) hV
theorem xr_tsubI {px py : xV} {c : Nat} (d : decode cc pc = .ok (.isub, 1)) (hV : ∀ R s A H V sc, K R s A H V sc → ∀ ad (x y : Int32), x_rel ad V sc px (.int x) → x_rel ad V sc py (.int y) → V[c]? = some (x.toInt - y.toInt)) : x_Snd cl K cc own nL nm MC MS pc (xi_bT px py c xG_sub (pc + 1)) := xi_bT_ok (g := fun x y => x - y) (G := fun x y => x - y) (fun x y => (fun S => fun k => lv_isub S.1 S.2.1 d k)) (fun x y => Int32.toInt_sub x y) (fun a b x y h1 h2 h3 h4 => ⟨by show a.1 - b.2 ≤ _; omega, by show _ ≤ a.2 - b.1; omega⟩) hV
theorem xr_tmulI {px py : xV} {c : Nat} (d : decode cc pc = .ok (.imul, 1)) (hV : ∀ R s A H V sc, K R s A H V sc → ∀ ad (x y : Int32), x_rel ad V sc px (.int x) → x_rel ad V sc py (.int y) → V[c]? = some (x.toInt * y.toInt)) : x_Snd cl K cc own nL nm MC MS pc (xi_bT px py c xG_mul (pc + 1)) := xi_bT_ok (g := fun x y => x * y) (G := fun x y => x * y) (fun x y => (fun S => fun k => lv_imul S.1 S.2.1 d k)) (fun x y => Int32.toInt_mul x y) (fun a b x y h1 h2 h3 h4 => x_corner h1 h2 h3 h4) hV
def xi_nT (px : xV) (c : Nat) (nx : Nat) : xS → Option (List xS) := fun t => match t.2.2.1 with
  | x :: r => match x_bi t.2.2.2.2.1 x with
    | some a => bif x_eqv x px && x_r32 (-a.2, -a.1) then some [(nx, t.2.1, (3, (c : Int), 0) :: r, t.2.2.2.1, x_mt t.2.2.2.2.1 c (-a.2, -a.1), t.2.2.2.2.2)] else none
    | _ => none
  | _ => none
theorem xr_tnegI {px : xV} {c : Nat} (d : decode cc pc = .ok (.ineg, 1)) (hV : ∀ R s A H V sc, K R s A H V sc → ∀ ad (x : Int32), x_rel ad V sc px (.int x) → V[c]? = some (-x.toInt)) : x_Snd cl K cc own nL nm MC MS pc (xi_nT px c (pc + 1)) := by
  have hw : ∀ x, x_Stk cc own nL pc (pc + 1) [.int x] [.int (-x)] := fun x => (fun S => fun k => lv_ineg S.1 S.2.1 d k)
  intro V sc p l e R s m args below meth c D A H0 Q C hA hK t ts hpc hf hg
  unfold xi_nT at hf
  split at hf
  · rename_i x r hst
    split at hf
    · rename_i a ha
      cases hbb : (x_eqv x px && x_r32 (-a.2, -a.1)) with
      | false => rw [hbb] at hf; cases hf
      | true =>
        rw [hbb] at hf
        cases hf
        simp only [Bool.and_eq_true] at hbb
        obtain ⟨q1, q3⟩ := hbb
        have e1 := x_eqv_ok q1
        subst e1
        unfold x_r32 at q3
        simp only [Bool.and_eq_true, decide_eq_true_eq] at q3
        subst hpc
        intro ls stk H locs ⟨lv, ws, tys, h1, h2, h3, h4, h5, h6, h7, h8, h9⟩
        rw [hst] at h3
        match stk, h3 with
        | v2 :: rest, h3 =>
          obtain ⟨nx', rfl, x1, x2⟩ := x_bi_ok h9 ha h3.1
          have hv := hV _ _ _ _ _ _ hK _ nx' h3.1
          have eg : (-nx').toInt = -nx'.toInt := by rw [Int32.toInt_neg, x_bmod (by omega) (by omega)]
          exact hw nx' C.1 (hg _ List.mem_cons_self ls (.int (-nx') :: rest) H locs ⟨lv, ws, tys, h1, h2, ⟨⟨_, rfl, by simp only [Int.toNat_natCast]; rw [eg]; exact hv⟩, h3.2⟩, h4, h5, h6, h7, h8, x_mt_ok h9 hv (by show -a.2 ≤ _; omega) (by show _ ≤ -a.1; omega)⟩)
    · cases hf
  · cases hf
def xi_aTL (px py : xV) (c : Nat) (nx : Nat) : xS → Option (List xS) := fun t => match t.2.2.1 with
  | y :: x :: r => match x_bl t.2.2.2.2.1 x, x_bl t.2.2.2.2.1 y with
    | some a, some b => bif x_eqv x px && (x_eqv y py && x_r32 (-2147483648 + (a.1 + b.1) / 2147483648, (a.2 + b.2) / 2147483648)) then some [(nx, t.2.1, (6, (c : Int), 0) :: r, t.2.2.2.1, x_mt t.2.2.2.2.1 c (xG_add a b), t.2.2.2.2.2)] else none
    | _, _ => none
  | _ => none
theorem xr_taddL {px py : xV} {c : Nat} (d : decode cc pc = .ok (.ladd, 1)) (hV : ∀ R s A H V sc, K R s A H V sc → ∀ ad (x y : Int64), x_rel ad V sc px (.long x) → x_rel ad V sc py (.long y) → V[c]? = some (x.toInt + y.toInt)) : x_Snd cl K cc own nL nm MC MS pc (xi_aTL px py c (pc + 1)) := by
  have hw : ∀ x y, x_Stk cc own nL pc (pc + 1) [.long y, .long x] [.long (x + y)] := fun x y => (fun S => fun k => lv_ladd S.1 S.2.1 d k)
  intro V sc p l e R s m args below meth c D A H0 Q C hA hK t ts hpc hf hg
  unfold xi_aTL at hf
  split at hf
  · rename_i y x r hst
    split at hf
    · rename_i a b ha hb
      cases hbb : (x_eqv x px && (x_eqv y py && x_r32 (-2147483648 + (a.1 + b.1) / 2147483648, (a.2 + b.2) / 2147483648))) with
      | false => rw [hbb] at hf; cases hf
      | true =>
        rw [hbb] at hf
        cases hf
        simp only [Bool.and_eq_true] at hbb
        obtain ⟨q1, q2, q3⟩ := hbb
        have e1 := x_eqv_ok q1
        have e2 := x_eqv_ok q2
        subst e1
        subst e2
        unfold x_r32 at q3
        simp only [Bool.and_eq_true, decide_eq_true_eq] at q3
        subst hpc
        intro ls stk H locs ⟨lv, ws, tys, h1, h2, h3, h4, h5, h6, h7, h8, h9⟩
        rw [hst] at h3
        match stk, h3 with
        | v1 :: v2 :: rest, h3 =>
          obtain ⟨ny, rfl, y1, y2⟩ := x_bl_ok h9 hb h3.1
          obtain ⟨nx', rfl, x1, x2⟩ := x_bl_ok h9 ha h3.2.1
          have hv := hV _ _ _ _ _ _ hK _ nx' ny h3.2.1 h3.1
          have eg : (nx' + ny).toInt = nx'.toInt + ny.toInt := by rw [Int64.toInt_add]; exact x_bmodL (by omega) (by omega)
          exact hw nx' ny C.1 (hg _ List.mem_cons_self ls (.long (nx' + ny) :: rest) H locs ⟨lv, ws, tys, h1, h2, ⟨⟨_, rfl, by simp only [Int.toNat_natCast]; rw [eg]; exact hv⟩, h3.2.2⟩, h4, h5, h6, h7, h8, x_mt_ok h9 hv (by show a.1 + b.1 ≤ _; omega) (by show _ ≤ a.2 + b.2; omega)⟩)
    · cases hf
  · cases hf
/-- a comparison of two, as one of a third and a number -/
def xi_if2R (k : Nat) (px py : xV) (c : Nat) (z : Int) (tg nx : Nat) : xS → Option (List xS) := fun t => match t.2.2.1 with
  | y :: x :: r => bif x_eqv x px && x_eqv y py then match t.2.2.2.2.1[c]? with
      | some a => some (x_way k a (z, z) t (3, (c : Int), 0) (0, z, z) r tg ++ x_way (x_neg k) a (z, z) t (3, (c : Int), 0) (0, z, z) r nx)
      | none => none
    else xi_if2 k tg nx t
  | _ => none
theorem xi_if2R_ok {k : Nat} {px py : xV} {c : Nat} {z : Int} (hw : x_If2 cc own nL pc tg nx k) (hV : ∀ R s A H V sc, K R s A H V sc → ∀ ad (x y : Int32), x_rel ad V sc px (.int x) → x_rel ad V sc py (.int y) → ∃ n, V[c]? = some n ∧ n - z = x.toInt - y.toInt) (hpx : px.1 = 0 ∨ px.1 = 3) (hpy : py.1 = 0 ∨ py.1 = 3) : x_Snd cl K cc own nL nm MC MS pc (xi_if2R k px py c z tg nx) := by
  intro V sc p l e R s m args below meth c D A H0 Q C hA hK t ts hpc hf hg
  unfold xi_if2R at hf
  split at hf
  · rename_i y x r hst
    cases hbb : (x_eqv x px && x_eqv y py) with
    | false => rw [hbb] at hf; exact xi_if2_ok hw C hA hK t ts hpc hf hg
    | true =>
      rw [hbb] at hf
      simp only [cond_true] at hf
      simp only [Bool.and_eq_true] at hbb
      have e1 := x_eqv_ok hbb.1
      have e2 := x_eqv_ok hbb.2
      subst e1
      subst e2
      split at hf
      · rename_i a ha
        cases hf
        subst hpc
        intro ls stk H locs ⟨lv, ws, tys, h1, h2, h3, h4, h5, h6, h7, h8, h9⟩
        rw [hst] at h3
        match stk, h3 with
        | v1 :: v2 :: rest, h3 =>
          have hi : ∀ {q : xV} {v : Value} {ad : List Nat}, (q.1 = 0 ∨ q.1 = 3) → x_rel ad V sc q v → ∃ n, v = .int n := fun {q v ad} hq hr => by
            obtain ⟨q1, q2, q3⟩ := q
            rcases hq with h0 | h0
            · simp only at h0; subst h0; exact ⟨_, hr.choose_spec.1⟩
            · simp only at h0; subst h0; exact ⟨_, hr.choose_spec.1⟩
          obtain ⟨ny, rfl⟩ := hi hpy h3.1
          obtain ⟨nx', rfl⟩ := hi hpx h3.2.1
          obtain ⟨n, n1, n2⟩ := hV _ _ _ _ _ _ hK _ nx' ny h3.2.1 h3.1
          obtain ⟨n', m1, m2, m3⟩ := h9 _ _ ha
          rw [n1] at m1
          cases m1
          have hzz : (z, z).1 ≤ z ∧ z ≤ (z, z).2 := ⟨Int.le_refl z, Int.le_refl z⟩
          have hcc : ∀ k, x_cnd k nx'.toInt ny.toInt → x_cnd k n z := fun k h => by
            unfold x_cnd at h ⊢
            split <;> simp only at h <;> omega
          refine hw C.1 (fun hc => ?_) (fun hc => ?_)
          · have hc := hcc _ hc
            obtain ⟨⟨g1, g2⟩, g3, g4⟩ := x_nar_ok ⟨m2, m3⟩ hzz hc
            exact hg _ (List.mem_append_left _ (x_way_in (x_may_ok ⟨m2, m3⟩ hzz hc))) ls rest H locs ⟨lv, ws, tys, h1, h2, h3.2.2, h4, h5, h6, h7, h8, x_tk_set h9 (by simp only [Int.toNat_natCast]; exact n1) g1 g2⟩
          · have hc := hcc _ (x_neg_ok hc)
            obtain ⟨⟨g1, g2⟩, g3, g4⟩ := x_nar_ok ⟨m2, m3⟩ hzz hc
            exact hg _ (List.mem_append_right _ (x_way_in (x_may_ok ⟨m2, m3⟩ hzz hc))) ls rest H locs ⟨lv, ws, tys, h1, h2, h3.2.2, h4, h5, h6, h7, h8, x_tk_set h9 (by simp only [Int.toNat_natCast]; exact n1) g1 g2⟩
      · cases hf
  · cases hf
/-- a comparison of two tokens that is known -/
def xi_if2K (k : Nat) (px py : xV) (b : Bool) (tg nx : Nat) : xS → Option (List xS) := fun t => match t.2.2.1 with
  | y :: x :: r => bif x_eqv x px && x_eqv y py then some [(bif b then tg else nx, t.2.1, r, t.2.2.2)] else xi_if2 k tg nx t
  | _ => none
theorem xi_if2K_ok {k : Nat} {px py : xV} {b : Bool} (hw : x_If2 cc own nL pc tg nx k) (hV : ∀ R s A H V sc, K R s A H V sc → ∀ ad (x y : Int32), x_rel ad V sc px (.int x) → x_rel ad V sc py (.int y) → (b = true ↔ x_cnd k x.toInt y.toInt)) (hpx : px.1 = 0 ∨ px.1 = 3) (hpy : py.1 = 0 ∨ py.1 = 3) : x_Snd cl K cc own nL nm MC MS pc (xi_if2K k px py b tg nx) := by
  intro V sc p l e R s m args below meth c D A H0 Q C hA hK t ts hpc hf hg
  unfold xi_if2K at hf
  split at hf
  · rename_i y x r hst
    cases hbb : (x_eqv x px && x_eqv y py) with
    | false => rw [hbb] at hf; exact xi_if2_ok hw C hA hK t ts hpc hf hg
    | true =>
      rw [hbb] at hf
      simp only [cond_true] at hf
      simp only [Bool.and_eq_true] at hbb
      have e1 := x_eqv_ok hbb.1
      have e2 := x_eqv_ok hbb.2
      subst e1
      subst e2
      cases hf
      subst hpc
      intro ls stk H locs ⟨lv, ws, tys, h1, h2, h3, h4⟩
      rw [hst] at h3
      match stk, h3 with
      | v1 :: v2 :: rest, h3 =>
        have hi : ∀ {q : xV} {v : Value} {ad : List Nat}, (q.1 = 0 ∨ q.1 = 3) → x_rel ad V sc q v → ∃ n, v = .int n := fun {q v ad} hq hr => by
          obtain ⟨q1, q2, q3⟩ := q
          rcases hq with h0 | h0
          · simp only at h0; subst h0; exact ⟨_, hr.choose_spec.1⟩
          · simp only at h0; subst h0; exact ⟨_, hr.choose_spec.1⟩
        obtain ⟨ny, rfl⟩ := hi hpy h3.1
        obtain ⟨nx', rfl⟩ := hi hpx h3.2.1
        have hv := hV _ _ _ _ _ _ hK _ nx' ny h3.2.1 h3.1
        have hgo := hg _ List.mem_cons_self ls rest H locs ⟨lv, ws, tys, h1, h2, h3.2.2, h4⟩
        refine hw C.1 (fun hc => ?_) (fun hc => ?_)
        · rw [hv.mpr hc] at hgo
          exact hgo
        · have hb : b = false := by
            cases b with
            | false => rfl
            | true => exact absurd (hv.mp rfl) hc
          rw [hb] at hgo
          exact hgo
  · cases hf
/-- one of an array's elements, by the bounds of all -/
def xi_aldH (b : Bool) (nx : Nat) : xS → Option (List xS) := fun t => match t.2.2.1 with
  | i :: (1, j, _) :: r => match x_bi t.2.2.2.2.1 i, x_at t.2.2.2.1 j.toNat with
    | some ib, some (kd, _, n, d, o) => bif x_akd b kd && (decide (0 ≤ ib.1) && decide (ib.2 < n)) then match x_hul d o with
      | some x => some [(nx, t.2.1, x :: r, t.2.2.2)]
      | none => none
      else none
    | _, _ => none
  | _ => none
theorem xi_aldH_ok {b : Bool} (hw : ∀ kd, x_akd b kd = true → x_Al cl cc own nL nm MC MS pc nx (x_aty kd)) : x_Snd cl K cc own nL nm MC MS pc (xi_aldH b nx) := by
  intro V sc p l e R s m args below meth c D A H0 Q C hA hK t ts hpc hf hg
  unfold xi_aldH at hf
  split at hf
  · rename_i i j jb r hst
    split at hf
    · rename_i ib kd cN n d o hib hcell
      cases hb : (x_akd b kd && (decide (0 ≤ ib.1) && decide (ib.2 < n))) with
      | false => rw [hb] at hf; cases hf
      | true =>
        rw [hb] at hf
        simp only [cond_true] at hf
        split at hf
        · rename_i x hx
          cases hf
          subst hpc
          simp only [Bool.and_eq_true, decide_eq_true_eq] at hb
          intro ls stk H locs ⟨lv, ws, tys, h1, h2, h3, h4, h5, h6, h7, h8, h9⟩
          rw [hst] at h3
          match stk, h3 with
          | v1 :: v2 :: rest, h3 =>
            obtain ⟨ni, rfl, i1, i2⟩ := x_bi_ok h9 hib h3.1
            obtain ⟨a, ee, hq, rfl, hc⟩ := x_ref h4 h3.2.1 hcell
            obtain ⟨t0, cA, f, g1, rfl, g2, g3⟩ := x_arr hb.1 hc
            obtain ⟨k1, k2, k3, k4⟩ := x_ix hb.2.1 hb.2.2 i1 i2
            exact hw kd hb.1 C h5 h6 hq g1 k1 (hg _ List.mem_cons_self ls (.int (f ni.toNatClampNeg) :: rest) H locs ⟨lv, ws, tys, h1, h2, ⟨x_hul_ok hx (fun _ h => h) _ (g3 _ k2), h3.2.2⟩, h4, h5, h6, h7, h8, h9⟩)
        · cases hf
    · cases hf
  · cases hf
theorem xr_ialdH (d : decode cc pc = .ok (.iaload, 1)) : x_Snd cl K cc own nL nm MC MS pc (xi_aldH false (pc + 1)) := xi_aldH_ok (fun kd hk => by
  have e := Nat.eq_of_beq_eq_true hk
  subst e
  intro p l e R s m args below meth c C H locs cells slots Q ls rest D tys ws a q0 t0 n cA f i h1 h2 h3 h4 h5 k
  exact va_iald C.1.1 C.1.2.1 h1 h2 _ _ h3 h4 h5 d k)
/-- counting up by one: a token's next -/
def x_even (j : Int) : Bool := decide (j = 20) || (decide (j = 22) || (decide (j = 24) || (decide (j = 26) || (decide (j = 28) || decide (j = 30)))))
def xi_incT (i nx : Nat) : xS → Option (List xS) := fun t => match x_find t.2.1 i with
  | some (3, j, z) => match t.2.2.2.2.1[j.toNat]? with
    | some a => bif x_even j && decide (a.2 < 2147483647) then some [(nx, (i, (3, j + 1, 0)) :: t.2.1.filter (x_flt 0 i), t.2.2.1, t.2.2.2.1, t.2.2.2.2.1.set (j.toNat + 1) (a.1 + 1, a.2 + 1), t.2.2.2.2.2)] else xi_inc i 1 nx t
    | none => none
  | _ => xi_inc i 1 nx t
theorem xr_iincT {i : Nat} (hV : ∀ R s A H V sc, K R s A H V sc → ∀ j : Int, x_even j = true → V[j.toNat + 1]? = V[j.toNat]?.map (· + 1)) (d : decode cc pc = .ok (.iinc i 1, 3)) (hn : i < nL) : x_Snd cl K cc own nL nm MC MS pc (xi_incT i (pc + 3)) := by
  have hw : x_Inc cc own nL pc (pc + 3) i 1 := (fun S => fun hl hk k => lv_iinc S.1 S.2.1 d hl hk rfl hn rfl k)
  intro V sc p l e R s m args below meth c D A H0 Q C hA hK t ts hpc hf hg
  unfold xi_incT at hf
  split at hf
  · rename_i j z hx
    split at hf
    · rename_i a ha
      cases hbb : (x_even j && decide (a.2 < 2147483647)) with
      | false => rw [hbb] at hf; exact xi_inc_ok (by decide) hw C hA hK t ts hpc hf hg
      | true =>
        rw [hbb] at hf
        cases hf
        simp only [Bool.and_eq_true, decide_eq_true_eq] at hbb
        subst hpc
        intro ls stk H locs ⟨lv, ws, tys, h1, h2, h3, h4, h5, h6, h7, h8, h9⟩
        obtain ⟨k, v, hk, hr⟩ := x_find_ok h2 hx
        obtain ⟨n, rfl, hn2⟩ := hr
        simp only at hn2
        obtain ⟨n', m1, m2, m3⟩ := h9 _ _ ha
        rw [hn2] at m1
        cases m1
        have hv := hV _ _ _ _ _ _ hK j hbb.1
        rw [hn2] at hv
        have hv : V[j.toNat + 1]? = some (n.toInt + 1) := hv
        have hr := x_rng n
        have en : (n + Int32.ofInt 1).toInt = n.toInt + 1 := by
          rw [Int32.toInt_add, show (Int32.ofInt 1).toInt = 1 from by decide]
          exact x_bmod (by omega) (by omega)
        have hj : 0 ≤ j := by
          have := hbb.1
          unfold x_even at this
          simp only [Bool.or_eq_true, decide_eq_true_eq] at this
          omega
        have ej : (j + 1).toNat = j.toNat + 1 := by omega
        refine hw C.1 h1 hk (fun ls' hl' => hg _ List.mem_cons_self ls' stk H locs ⟨_, ws, tys, hl', ⟨⟨rfl, ⟨_, rfl, ?_⟩⟩, x_all2_filter h2 x_flt_eq⟩, h3, h4, h5, h6, h7, h8, x_tk_set h9 hv (by show a.1 + 1 ≤ _; omega) (by show _ ≤ a.2 + 1; omega)⟩)
        simp only [ej]
        rw [hv, en]
    · cases hf
  · exact xi_inc_ok (by decide) hw C hA hK t ts hpc hf hg
/-- the token 22 is not above the token 20 -/
def xi_rel (f : xS → Option (List xS)) : xS → Option (List xS) := fun t => match t.2.2.2.2.1[20]?, t.2.2.2.2.1[22]? with
  | some a, some b => f (x_tks t 22 (b.1, x_min b.2 a.2))
  | _, _ => f t
theorem xi_rel_ok {f : xS → Option (List xS)} (hV : ∀ R s A H V sc, K R s A H V sc → ∀ x y, V[20]? = some x → V[22]? = some y → y ≤ x) (hw : x_Snd cl K cc own nL nm MC MS pc f) : x_Snd cl K cc own nL nm MC MS pc (xi_rel f) := by
  intro V sc p l e R s m args below meth c D A H0 Q C hA hK t ts hpc hf hg
  unfold xi_rel at hf
  split at hf
  · rename_i a b ha hb
    intro ls stk H locs hI
    obtain ⟨x, x1, x2, x3⟩ := x_In_tk hI 20 a ha
    obtain ⟨y, y1, y2, y3⟩ := x_In_tk hI 22 b hb
    have := hV _ _ _ _ _ _ hK x y x1 y1
    exact hw C hA hK (x_tks t 22 (b.1, x_min b.2 a.2)) ts hpc hf hg ls stk H locs (x_tks_in hI y1 y2 (x_le_min y3 (by omega)))
  · exact hw C hA hK t ts hpc hf hg
theorem xw_getf {ci k ix N : Nat} {C : String} {T : u_T} (hc : cl[ci]? = some (C, T, N)) (hin : ∀ w ∈ u_ws C T N, w ∈ x_tbl) (hk : k < N) (hw : Cond.fieldLink own ix (T k).1 (T k).2.1 (T k).2.2.1 ∈ x_tbl) (d : decode cc pc = .ok (.getfield ix, 3)) : x_Gf cl cc own nL nm MC MS pc (pc + 3) ci k := by
  intro p l e R s m args below meth c C1 H locs cells slots Q ls rest D tys ws a q0 fs v h1 h2 h3 h4 kk
  exact va_get C1.1.1 C1.1.2.1 C1.1.2.2.2.2 hin C1.1.2.2.2.1 h1 h2 q0 h3 hc k hk (C1.1.2.2.2.2 _ hw) (fun _ h => h) h4 d kk
theorem xw_iald (d : decode cc pc = .ok (.iaload, 1)) : x_Al cl cc own nL nm MC MS pc (pc + 1) .int := by
  intro p l e R s m args below meth c C H locs cells slots Q ls rest D tys ws a q0 t0 n cA f i h1 h2 h3 h4 h5 k
  exact va_iald C.1.1 C.1.2.1 h1 h2 _ _ h3 h4 h5 d k
/-- a point's own wire, looked at twice (16 .. 42): none, or what the point there has -/
def xi_reck (ci ks kv p1 p2 : Nat) : xS → Option (List xS) := fun t => match x_find t.2.1 0, x_find t.2.1 1 with
  | some (1, j, _), some x => match x_bi t.2.2.2.2.1 x, x_at t.2.2.2.1 j.toNat with
    | some b, some (0, c, n, d, o) => bif Nat.beq c ci && (Nat.ble (ks + 1) n && Nat.ble (kv + 1) n) then match x_get d o ks, x_get d o kv with
      | (1, js, _), (1, jv, _) => match x_at t.2.2.2.1 js.toNat, x_at t.2.2.2.1 jv.toNat with
        | some (1, _, n1, d1, o1), some (1, _, n2, d2, o2) => match x_hul d1 o1, x_hul d2 o2 with
          | some (0, _, hi), some z => bif decide (0 ≤ b.1) && (decide (b.2 < n1) && decide (hi < n2)) then some [(p1, t.2.1, t.2.2.1, t.2.2.2), (p2, t.2.1, z :: t.2.2.1, t.2.2.2)] else none
          | _, _ => none
        | _, _ => none
      | _, _ => none
      else none
    | _, _ => none
  | _, _ => none
theorem xi_reck_ok {ci ks kv p1 p2 c16 c17 c20 c21 c22 c32 c33 c36 c37 c40 c41 c42 : Nat} (w16 : x_Ld cc own nL c16 c17 0 2) (w17 : x_Gf cl cc own nL nm MC MS c17 c20 ci ks) (w20 : x_Ld cc own nL c20 c21 1 0) (w21 : x_Al cl cc own nL nm MC MS c21 c22 .int) (w22 : x_If1 cc own nL c22 c32 p1 3)
    (w32 : x_Ld cc own nL c32 c33 0 2) (w33 : x_Gf cl cc own nL nm MC MS c33 c36 ci kv) (w36 : x_Ld cc own nL c36 c37 0 2) (w37 : x_Gf cl cc own nL nm MC MS c37 c40 ci ks) (w40 : x_Ld cc own nL c40 c41 1 0) (w41 : x_Al cl cc own nL nm MC MS c41 c42 .int) (w42 : x_Al cl cc own nL nm MC MS c42 p2 .int) : x_Snd cl K cc own nL nm MC MS c16 (xi_reck ci ks kv p1 p2) := by
  intro V sc p l e R s m args below meth c D A H0 Q C hA hK t ts hpc hf hg
  unfold xi_reck at hf
  split at hf
  · rename_i j jb x hx0 hx1
    split at hf
    · rename_i b c9 n d o hb hcell
      cases hbb : (Nat.beq c9 ci && (Nat.ble (ks + 1) n && Nat.ble (kv + 1) n)) with
      | false => rw [hbb] at hf; cases hf
      | true =>
        rw [hbb] at hf
        simp only [cond_true] at hf
        split at hf
        · rename_i js jsb jv jvb hs hv
          split at hf
          · rename_i cs n1 d1 o1 cv n2 d2 o2 hcs hcv
            split at hf
            · rename_i lo hi z hh1 hh2
              cases hb2 : (decide (0 ≤ b.1) && (decide (b.2 < n1) && decide (hi < n2))) with
              | false => rw [hb2] at hf; cases hf
              | true =>
                rw [hb2] at hf
                cases hf
                simp only [Bool.and_eq_true, decide_eq_true_eq] at hb2
                simp only [Bool.and_eq_true] at hbb
                obtain ⟨e1, e2, e3⟩ := hbb
                have e1 := Nat.eq_of_beq_eq_true e1
                have e2 := Nat.le_of_ble_eq_true e2
                have e3 := Nat.le_of_ble_eq_true e3
                subst e1
                subst hpc
                intro ls stk H locs ⟨lv, ws, tys, h1, h2, h3, h4, h5, h6, h7, h8, h9⟩
                obtain ⟨k0, v0, hk0, hr0⟩ := x_find_ok h2 hx0
                obtain ⟨k1, v1, hk1, hr1⟩ := x_find_ok h2 hx1
                have hl0 := lv_at h1 k0 hk0
                have hl1 := lv_at h1 k1 hk1
                obtain ⟨a, ee, hq, rfl, hc⟩ := x_ref h4 hr0 hcell
                obtain ⟨fs, rfl, hfl, hff⟩ := hc
                obtain ⟨vs, hvs, hrs⟩ := hff ks (by show ks < n; omega)
                obtain ⟨vv, hvv, hrv⟩ := hff kv (by show kv < n; omega)
                have hrs : x_rel (ws.map Prod.fst) V sc (x_get d o ks) vs := hrs
                have hrv : x_rel (ws.map Prod.fst) V sc (x_get d o kv) vv := hrv
                rw [hs] at hrs
                rw [hv] at hrv
                obtain ⟨as, es, hqs, rfl, hcS⟩ := x_ref h4 hrs hcs
                obtain ⟨av, ev, hqv, rfl, hcV⟩ := x_ref h4 hrv hcv
                obtain ⟨ts0, cAs, fS, gs1, rfl, gs2, gs3⟩ := hcS
                obtain ⟨tv0, cAv, fV, gv1, rfl, gv2, gv3⟩ := hcV
                obtain ⟨np, rfl, p1', p2'⟩ := x_bi_ok h9 hb hr1
                obtain ⟨i1, i2, i3, i4⟩ := x_ix hb2.1 hb2.2.1 p1' p2'
                have hkd : x_kd 2 (.ref a) := Or.inr ⟨a, rfl⟩
                have hki : x_kd 0 (.int np) := ⟨np, rfl⟩
                refine w16 C.1 hl0 hkd (w17 C h5 h6 hq hvs (w20 C.1 hl1 hki (w21 C h5 h6 hqs gs1 i1 (w22 C.1 (fun hge => ?_) (fun hlt => ?_)))))
                · have hh : x_rel (ws.map Prod.fst) V sc (0, lo, hi) (.int (fS np.toNatClampNeg)) := x_hul_ok hh1 (fun _ h => h) _ (gs3 _ i2)
                  obtain ⟨m0, me, m1, m2⟩ := hh
                  cases me
                  have hge : (0 : Int) ≤ (fS np.toNatClampNeg).toInt := hge
                  simp only at m2
                  obtain ⟨j1, j2, j3, j4⟩ := x_ix (lo := 0) (hi := hi) (n := n2) (Int.le_refl 0) hb2.2.2 hge m2
                  refine w32 C.1 hl0 hkd (w33 C h5 h6 hq hvv (w36 C.1 hl0 hkd (w37 C h5 h6 hq hvs (w40 C.1 hl1 hki (w41 C h5 h6 hqs gs1 i1 (w42 C h5 h6 hqv gv1 j1 ?_))))))
                  exact hg _ (List.mem_cons_of_mem _ List.mem_cons_self) ls (.int (fV (fS np.toNatClampNeg).toNatClampNeg) :: stk) H locs ⟨lv, ws, tys, h1, h2, ⟨x_hul_ok hh2 (fun _ h => h) _ (gv3 _ j2), h3⟩, h4, h5, h6, h7, h8, h9⟩
                · exact hg _ List.mem_cons_self ls stk H locs ⟨lv, ws, tys, h1, h2, h3, h4, h5, h6, h7, h8, h9⟩
            · cases hf
          · cases hf
        · cases hf
    · cases hf
  · cases hf
theorem xw_aload0 (d : decode cc pc = .ok (.aload_n 0, 1)) : x_Ld cc own nL pc (pc + 1) 0 2 := (fun S => fun hl hk k => by rcases hk with rfl | ⟨a, rfl⟩; exact lv_aload_nN S.1 S.2.1 d rfl hl k; exact lv_aload_n S.1 S.2.1 d rfl hl k)
theorem xw_iload1 (d : decode cc pc = .ok (.iload_n 1, 1)) : x_Ld cc own nL pc (pc + 1) 1 0 := (fun S => fun hl hk k => by obtain ⟨n, rfl⟩ := hk; exact lv_iload_n S.1 S.2.1 d rfl hl k)
theorem xw_ifge {off : Int} (d : decode cc pc = .ok (.ifCond .ge off, 3)) (ht : (pc : Int) + off = (tg : Int)) : x_If1 cc own nL pc tg (pc + 3) 3 := (fun S => fun kt kf => lv_if_ge S.1 S.2.1 d ht (fun h => kt (x_ge0.mp h)) (fun h => kf (fun q => h (x_ge0.mpr q))))
end X12c
end
end
section
noncomputable section
/-! two longs compared and the branch behind it in one; pictures at the heads of loops; what the tokens say of each other -/
section X12d
variable {cl : List vw_C} {K : xKx} {cc : ByteArray} {own : String} {nL : Nat} {nm : String} {MC MS pc nx tg : Nat}
def xi_lif (k tg nx : Nat) : xS → Option (List xS) := fun t => match t.2.2.1 with
  | y :: x :: r => match x_bl t.2.2.2.2.1 x, x_bl t.2.2.2.2.1 y with
    | some a, some b => some (x_way k a b t x y r tg ++ x_way (x_neg k) a b t x y r nx)
    | _, _ => none
  | _ => none
theorem x_lgc (k : Nat) (x y : Int64) : x_cnd k (lg_cmp x y).toInt 0 ↔ x_cnd k x.toInt y.toInt := by
  obtain ⟨h1, h2, h3⟩ := x_lg_cmp x y
  have z0 : (0 : Int32).toInt = 0 := by decide
  have z1 : (1 : Int32).toInt = 1 := by decide
  have z2 : (-1 : Int32).toInt = -1 := by decide
  rcases Int.lt_trichotomy x.toInt y.toInt with h | h | h
  · rw [h1 h, z2]
    unfold x_cnd
    split <;> omega
  · rw [h2 h, z0]
    unfold x_cnd
    split <;> omega
  · rw [h3 h, z1]
    unfold x_cnd
    split <;> omega
theorem xi_lif_ok {k p1 : Nat} (hw1 : ∀ x y : Int64, x_Stk cc own nL pc p1 [.long y, .long x] [.int (lg_cmp x y)]) (hw2 : x_If1 cc own nL p1 tg nx k) : x_Snd cl K cc own nL nm MC MS pc (xi_lif k tg nx) := by
  intro V sc p l e R s m args below meth c D A H0 Q C hA hK t ts hpc hf hg
  unfold xi_lif at hf
  split at hf
  · rename_i y x r hst
    split at hf
    · rename_i a b ha hb
      cases hf
      subst hpc
      intro ls stk H locs ⟨lv, ws, tys, h1, h2, h3, h4, h5, h6, h7, h8, h9⟩
      rw [hst] at h3
      match stk, h3 with
      | v1 :: v2 :: rest, h3 =>
        obtain ⟨ny, rfl, y1, y2⟩ := x_bl_ok h9 hb h3.1
        obtain ⟨nx', rfl, x1, x2⟩ := x_bl_ok h9 ha h3.2.1
        refine hw1 nx' ny C.1 (hw2 C.1 (fun hc => ?_) (fun hc => ?_))
        · have hc := (x_lgc k nx' ny).mp hc
          obtain ⟨⟨g1, g2⟩, g3, g4⟩ := x_nar_ok ⟨x1, x2⟩ ⟨y1, y2⟩ hc
          exact hg _ (List.mem_append_left _ (x_way_in (x_may_ok ⟨x1, x2⟩ ⟨y1, y2⟩ hc))) ls rest H locs ⟨lv, ws, tys, h1, h2, h3.2.2, h4, h5, h6, h7, h8, x_setb_l (x_setb_l h9 h3.2.1 g1 g2) h3.1 g3 g4⟩
        · have hc := x_neg_ok (fun q => hc ((x_lgc k nx' ny).mpr q))
          obtain ⟨⟨g1, g2⟩, g3, g4⟩ := x_nar_ok ⟨x1, x2⟩ ⟨y1, y2⟩ hc
          exact hg _ (List.mem_append_right _ (x_way_in (x_may_ok ⟨x1, x2⟩ ⟨y1, y2⟩ hc))) ls rest H locs ⟨lv, ws, tys, h1, h2, h3.2.2, h4, h5, h6, h7, h8, x_setb_l (x_setb_l h9 h3.2.1 g1 g2) h3.1 g3 g4⟩
    · cases hf
  · cases hf
theorem xr_liflt {off : Int} (d : decode cc pc = .ok (.lcmp, 1)) (d2 : decode cc (pc + 1) = .ok (.ifCond .lt off, 3)) (ht : ((pc + 1 : Nat) : Int) + off = (tg : Int)) : x_Snd cl K cc own nL nm MC MS pc (xi_lif 2 tg (pc + 1 + 3)) := xi_lif_ok (k := 2) (fun x y => (fun S => fun k => W.lcmp S.1 S.2.1 d k)) (fun S => fun kt kf => lv_if_lt S.1 S.2.1 d2 ht (fun h => kt (x_lt0.mp h)) (fun h => kf (fun q => h (x_lt0.mpr q))))
theorem xr_lifgt {off : Int} (d : decode cc pc = .ok (.lcmp, 1)) (d2 : decode cc (pc + 1) = .ok (.ifCond .gt off, 3)) (ht : ((pc + 1 : Nat) : Int) + off = (tg : Int)) : x_Snd cl K cc own nL nm MC MS pc (xi_lif 4 tg (pc + 1 + 3)) := xi_lif_ok (k := 4) (fun x y => (fun S => fun k => W.lcmp S.1 S.2.1 d k)) (fun S => fun kt kf => lv_if_gt S.1 S.2.1 d2 ht (fun h => kt (x_gt0.mp h)) (fun h => kf (fun q => h (x_gt0.mpr q))))
theorem xr_lifle {off : Int} (d : decode cc pc = .ok (.lcmp, 1)) (d2 : decode cc (pc + 1) = .ok (.ifCond .le off, 3)) (ht : ((pc + 1 : Nat) : Int) + off = (tg : Int)) : x_Snd cl K cc own nL nm MC MS pc (xi_lif 5 tg (pc + 1 + 3)) := xi_lif_ok (k := 5) (fun x y => (fun S => fun k => W.lcmp S.1 S.2.1 d k)) (fun S => fun kt kf => lv_if_le S.1 S.2.1 d2 ht (fun h => kt (x_le0.mp h)) (fun h => kf (fun q => h (x_le0.mpr q))))
end X12d
/-! pictures at the heads of loops (they are checked, so nothing is to be proved of them) -/
def x_wkL (l : xL) : List (Nat × xV) → Option xL
  | [] => some []
  | q :: r => match x_wkL l r with
    | some b => bif Nat.beq q.2.1 99 then match x_find l q.1 with
        | some x => some ((q.1, x) :: b)
        | none => none
      else some (q :: b)
    | none => none
def x_wkc (w : List xC) (j : Nat) (v : xV) : Option (List xC) := match x_at w j with
  | some (kd, c, n, d, o) => match x_join d v with
    | some z => match x_hul z o with
      | some y => some (x_up w j (kd, c, n, y, []))
      | none => none
    | none => none
  | none => none
def x_wkC (l : xL) : List (Nat × xV) → List xC → Option (List xC)
  | [], w => some w
  | (k, v) :: r, w => match x_find l 0 with
    | some (1, j, _) => match x_at w j.toNat with
      | some (0, _, _, d, o) => match x_get d o k with
        | (1, jj, _) => match x_wkc w jj.toNat v with
          | some w' => x_wkC l r w'
          | none => none
        | _ => none
      | _ => none
    | _ => none
def x_wkT (tk : xT) (a : Nat) (b b2 : Int × Int) : xT := (((tk.set a b).set (a + 1) (b.1, b.2 + 1)).set (a + 2) b2).set (a + 3) (b2.1, b2.2 + 1)
def x_wk (a : Nat) (b b2 : Int × Int) (keep cells : List (Nat × xV)) : xS → Option xS := fun t => match x_wkL t.2.1 keep, x_wkC t.2.1 cells t.2.2.2.1 with
  | some l, some w => some (t.1, l, t.2.2.1, w, x_wkT t.2.2.2.2.1 a b b2, t.2.2.2.2.2)
  | _, _ => none
/-- filling an array with what it holds already -/
def x_wkF (a : Nat) : xS → Option xS := fun t => match x_find t.2.1 0, x_find t.2.1 1 with
  | some (1, j, _), some (0, z, z') => match x_at t.2.2.2.1 j.toNat with
    | some (kd, c, n, d, o) => match x_join d (0, z, z') with
      | some y0 => match x_hul y0 o with
        | some y => bif decide (y.2.1 = y.2.2) then match x_wkL t.2.1 [(2, (3, (a : Int), 0)), (0, (99, 0, 0)), (1, (99, 0, 0)), (3, (99, 0, 0))] with
            | some l => some (t.1, l, t.2.2.1, x_up t.2.2.2.1 j.toNat (kd, c, n, y, []), x_wkT t.2.2.2.2.1 a (0, (n : Int)) (0, (n : Int)), t.2.2.2.2.2)
            | none => none
          else none
        | none => none
      | none => none
    | none => none
  | _, _ => none
/-! what the tokens say of each other -/
def x_fR (f : Nat → Int) : Prop := ((f 6 = f 1 + f 3 ∧ f 7 = f 2 + f 4 ∧ f 8 = -f 4 ∧ f 9 = 16000 - f 1) ∧ (f 10 = f 1 + f 4 ∧ f 11 = f 1 - f 4 ∧ f 12 = f 2 + f 4 ∧ f 13 = f 2 - f 4) ∧ f 14 = 16000 - f 2 ∧ f 16 = f 15 - 6) ∧
  (f 21 = f 20 + 1 ∧ f 23 = f 22 + 1 ∧ f 25 = f 24 + 1 ∧ f 27 = f 26 + 1 ∧ f 29 = f 28 + 1 ∧ f 31 = f 30 + 1) ∧ f 22 ≤ f 20
def x_PV (P : (Nat → Int) → Prop) (V : List Int) : Prop := ∃ f : Nat → Int, V.length = 32 ∧ (∀ j, j < 32 → V[j]? = some (f j)) ∧ x_fR f ∧ P f
theorem x_PV_all {V : List Int} {P : (Nat → Int) → Prop} (h : x_PV P V) : x_PV (fun _ => True) V := by
  obtain ⟨f, h1, h2, h3, -⟩ := h
  exact ⟨f, h1, h2, h3, trivial⟩
def x_upf (f : Nat → Int) (a : Nat) (k i : Int) : Nat → Int := fun j => if j = a then k else if j = a + 1 then k + 1 else if j = a + 2 then i else if j = a + 3 then i + 1 else f j
theorem x_PV_up {P : (Nat → Int) → Prop} (hP : ∀ f a k i, 20 ≤ a → P f → P (x_upf f a k i)) : ∀ V a k i, x_tok a = true → x_PV P V → a + 3 < V.length ∧ V[a + 1]? = V[a]?.map (· + 1) ∧ V[a + 3]? = V[a + 2]?.map (· + 1) ∧ (a = 20 → ∀ x y, V[20]? = some x → V[22]? = some y → y ≤ x) ∧ ((a = 20 → i ≤ k) → x_PV P (x_vup V a k i)) := by
  intro V a k i ht ⟨f, h1, h2, h3, h4⟩
  have ha : a = 20 ∨ a = 24 ∨ a = 28 := by
    unfold x_tok at ht
    simp only [Bool.or_eq_true] at ht
    rcases ht with h | h | h
    · exact Or.inl (Nat.eq_of_beq_eq_true h)
    · exact Or.inr (Or.inl (Nat.eq_of_beq_eq_true h))
    · exact Or.inr (Or.inr (Nat.eq_of_beq_eq_true h))
  have hlen : a + 3 < V.length := by omega
  obtain ⟨q1, ⟨r1, r2, r3, r4, r5, r6⟩, q3⟩ := h3
  refine ⟨hlen, ?_, ?_, fun ea x y hx hy => ?_, fun hik => ⟨x_upf f a k i, ?_, fun j hj => ?_, ⟨?_, ?_, ?_⟩, hP f a k i (by omega) h4⟩⟩
  · rw [h2 _ (by omega), h2 _ (by omega)]
    show some _ = some _
    congr 1
    rcases ha with rfl | rfl | rfl
    · exact r1
    · exact r3
    · exact r5
  · rw [h2 _ (by omega), h2 _ (by omega)]
    show some _ = some _
    congr 1
    rcases ha with rfl | rfl | rfl
    · exact r2
    · exact r4
    · exact r6
  · rw [h2 _ (by omega)] at hx hy
    cases hx
    cases hy
    exact q3
  · rw [← (x_vup_off V a k i).1]; exact h1
  · unfold x_upf
    by_cases e1 : j = a
    · subst e1; rw [if_pos rfl]; exact x_vup_a hlen
    · rw [if_neg e1]
      by_cases e2 : j = a + 1
      · subst e2; rw [if_pos rfl]; exact x_vup_s hlen
      · rw [if_neg e2]
        by_cases e3 : j = a + 2
        · subst e3; rw [if_pos rfl]; exact x_vup_b hlen
        · rw [if_neg e3]
          by_cases e4 : j = a + 3
          · subst e4; rw [if_pos rfl]; exact x_vup_t hlen
          · rw [if_neg e4, ← (x_vup_off V a k i).2 j (by omega)]
            exact h2 j hj
  · have e : ∀ j, j < 20 → x_upf f a k i j = f j := fun j hj => by
      unfold x_upf
      rw [if_neg (by omega), if_neg (by omega), if_neg (by omega), if_neg (by omega)]
    rw [e 1 (by omega), e 2 (by omega), e 3 (by omega), e 4 (by omega), e 6 (by omega), e 7 (by omega), e 8 (by omega), e 9 (by omega), e 10 (by omega), e 11 (by omega), e 12 (by omega), e 13 (by omega), e 14 (by omega), e 15 (by omega), e 16 (by omega)]
    exact q1
  · rcases ha with rfl | rfl | rfl <;> simp [x_upf] <;> omega
  · rcases ha with rfl | rfl | rfl
    · simpa [x_upf] using hik rfl
    · simpa [x_upf] using q3
    · simpa [x_upf] using q3
/-- a token's number -/
theorem x_tI {V : List Int} {sc : Nat × Nat × List Nat} {ad : List Nat} {f : Nat → Int} (h2 : ∀ j, j < 32 → V[j]? = some (f j)) {j : Nat} {b : Int} {n : Int32} (hj : j < 32) (h : x_rel ad V sc (3, (j : Int), b) (.int n)) : n.toInt = f j := by
  obtain ⟨z, e, hz⟩ := h
  cases e
  simp only [Int.toNat_natCast] at hz
  rw [h2 j hj] at hz
  exact (Option.some.inj hz).symm
theorem x_tL {V : List Int} {sc : Nat × Nat × List Nat} {ad : List Nat} {f : Nat → Int} (h2 : ∀ j, j < 32 → V[j]? = some (f j)) {j : Nat} {b : Int} {n : Int64} (hj : j < 32) (h : x_rel ad V sc (6, (j : Int), b) (.long n)) : n.toInt = f j := by
  obtain ⟨z, e, hz⟩ := h
  cases e
  simp only [Int.toNat_natCast] at hz
  rw [h2 j hj] at hz
  exact (Option.some.inj hz).symm
theorem x_tC {V : List Int} {sc : Nat × Nat × List Nat} {ad : List Nat} {z : Int} {n : Int32} (h : x_rel ad V sc (0, z, z) (.int n)) : n.toInt = z := by
  obtain ⟨m, e, h1, h2⟩ := h
  cases e
  simp only at h1 h2
  omega
abbrev x_KP (K : xKx) : Prop := ∀ R s A H V sc, K R s A H V sc → x_PV (fun _ => True) V
theorem x_hev {K : xKx} (hK : x_KP K) : ∀ R s A H V sc, K R s A H V sc → ∀ j : Int, x_even j = true → V[j.toNat + 1]? = V[j.toNat]?.map (· + 1) := by
  intro R s A H V sc h j hj
  obtain ⟨f, h1, h2, h3, -⟩ := hK R s A H V sc h
  unfold x_even at hj
  simp only [Bool.or_eq_true, decide_eq_true_eq] at hj
  obtain ⟨q1, ⟨r1, r2, r3, r4, r5, r6⟩, q3⟩ := h3
  rcases hj with rfl | rfl | rfl | rfl | rfl | rfl
  · show V[21]? = V[20]?.map _; rw [h2 _ (by omega), h2 _ (by omega), r1]; rfl
  · show V[23]? = V[22]?.map _; rw [h2 _ (by omega), h2 _ (by omega), r2]; rfl
  · show V[25]? = V[24]?.map _; rw [h2 _ (by omega), h2 _ (by omega), r3]; rfl
  · show V[27]? = V[26]?.map _; rw [h2 _ (by omega), h2 _ (by omega), r4]; rfl
  · show V[29]? = V[28]?.map _; rw [h2 _ (by omega), h2 _ (by omega), r5]; rfl
  · show V[31]? = V[30]?.map _; rw [h2 _ (by omega), h2 _ (by omega), r6]; rfl
theorem x_hrel {K : xKx} (hK : x_KP K) : ∀ R s A H V sc, K R s A H V sc → ∀ x y, V[20]? = some x → V[22]? = some y → y ≤ x := by
  intro R s A H V sc h x y hx hy
  obtain ⟨f, h1, h2, h3, -⟩ := hK R s A H V sc h
  rw [h2 _ (by omega)] at hx hy
  cases hx
  cases hy
  exact h3.2.2
end
end
section
noncomputable section
/-! tables as trees -/
def x_nof : xS → Option (List xS) := fun _ => none
def x_e7 : xE := (7, x_nof, 0, 0)
def x_T (k : Nat) (a b : Nat → xE) : Nat → xE := fun pc => bif Nat.ble pc k then a pc else b pc
def x_L (k : Nat) (e : xE) : Nat → xE := fun pc => bif Nat.beq pc k then e else x_e7
theorem x_Tok {P : Nat → xE → Prop} {k : Nat} {a b : Nat → xE} (ha : ∀ pc, P pc (a pc)) (hb : ∀ pc, P pc (b pc)) : ∀ pc, P pc (x_T k a b pc) := fun pc => by
  unfold x_T
  cases Nat.ble pc k with
  | true => exact ha pc
  | false => exact hb pc
theorem x_Lok {cl : List vw_C} {K : xKx} {I : Nat → xM} {q : xM} {k : Nat} {e : xE} (h : x_EOq cl K I q k e) : ∀ pc, x_EOq cl K I q pc (x_L k e pc) := fun pc => by
  unfold x_L
  cases hb : Nat.beq pc k with
  | true =>
    have := Nat.eq_of_beq_eq_true hb
    subst this
    exact h
  | false => exact trivial
theorem x_Tok2 {cl : List vw_C} {K : xKx} {I : Nat → xM} {q : xM} {k : Nat} {a b : Nat → xE} (ha : ∀ pc, x_EOq cl K I q pc (a pc)) (hb : ∀ pc, x_EOq cl K I q pc (b pc)) : ∀ pc, x_EOq cl K I q pc (x_T k a b pc) := x_Tok (P := fun pc e => x_EOq cl K I q pc e) ha hb
/-- words by their places, in one walk -/
def x_walk : List Nat → List Cond → List Cond
  | [], _ => []
  | g :: gs, l => match l.drop g with
    | w :: r => w :: x_walk gs r
    | [] => []
theorem x_walk_in : ∀ (gs : List Nat) (l : List Cond), ∀ w ∈ x_walk gs l, w ∈ l
  | [], _, w, h => absurd h List.not_mem_nil
  | g :: gs, l, w, h => by
    unfold x_walk at h
    split at h
    · rename_i w0 r hd
      have hr : ∀ x, x ∈ w0 :: r → x ∈ l := fun x hx => List.mem_of_mem_drop (hd ▸ hx)
      rcases List.mem_cons.mp h with rfl | h
      · exact hr _ List.mem_cons_self
      · exact hr _ (List.mem_cons_of_mem _ (x_walk_in gs r w h))
    · exact absurd h List.not_mem_nil
theorem x_words {gs : List Nat} {ws big : List Cond} (h : x_walk gs big = ws) : ∀ w ∈ ws, w ∈ big := fun w hw => x_walk_in gs big w (h ▸ hw)
theorem x_pick {ws big : List Cond} {w : Cond} (hin : ∀ w ∈ ws, w ∈ big) (i : Nat) (h : ws[i]? = some w) : w ∈ big := hin w (List.mem_of_getElem? h)
theorem x_all_pieces {f : Cond → Bool} {a b : List Cond} (ha : a.all f = true) (hb : b.all f = true) : (a ++ b).all f = true := by rw [List.all_append, ha, hb]; rfl
theorem x_places {big ws : List Cond} (ps : List Nat) (hp : ws = ps.filterMap (fun i => big[i]?)) : ∀ w ∈ ws, w ∈ big := fun w hw => by
  rw [hp] at hw
  obtain ⟨i, -, hi⟩ := List.mem_filterMap.mp hw
  exact List.mem_of_getElem? hi
/-- many decodings in one check -/
theorem x_dk {c : ByteArray} {L : List (Nat × Instr × Nat)} (h : L.all (fun q => decide (decode c q.1 = .ok (q.2.1, q.2.2))) = true) (i : Nat) {pc len : Nat} {ins : Instr} (hi : L[i]? = some (pc, ins, len)) : decode c pc = .ok (ins, len) := by
  have := List.all_eq_true.mp h _ (List.mem_of_getElem? hi)
  simpa using this
def x_TI (k : Nat) (a b : Nat → xM) : Nat → xM := fun M => bif Nat.ble M k then a M else b M
def x_TC (k : Nat) (a b : Nat → Nat → xE) : Nat → Nat → xE := fun M => bif Nat.ble M k then a M else b M
theorem x_st {cl : List vw_C} {K : xKx} {I : Nat → xM} {q : xM} {pc : Nat} {f : xS → Option (List xS)} (h : x_Snd cl K (xm_b q) (xm_y q).cls (xm_l q) (xm_y q).name (xm_c q) (xm_s q) pc f) : x_EOq cl K I q pc (0, f, 0, 0) := h
theorem x_rt {cl : List vw_C} {K : xKx} {I : Nat → xM} {q : xM} {pc k : Nat} (h : x_Rt (xm_b q) (xm_r q) pc k) : x_EOq cl K I q pc (1, x_nof, k, 0) := h
theorem x_ca {cl : List vw_C} {K : xKx} {I : Nat → xM} {q q' : xM} {pc M' na : Nat} (e : I M' = q') (h : x_Cl (xm_b q) (xm_y q).cls (xm_l q) (xm_y q).name (xm_c q) (xm_s q) pc q' na) : x_EOq cl K I q pc (2, x_nof, M', na) := by
  show x_Cl _ _ _ _ _ _ _ (I M') na
  rw [e]
  exact h
/-- a tableswitch's ranges, checked -/
def x_tswB (pc : Nat) (dflt lo : Int) (n : Nat) (offs : Array Int) (l : List (Int × Int × Nat)) : Bool :=
  l.any (fun q => decide (q.1 = -2147483648) && (decide (q.2.1 = lo - 1) && decide ((pc : Int) + dflt = (q.2.2 : Int)))) &&
  (l.any (fun q => decide (q.1 = lo + n) && (decide (q.2.1 = 2147483647) && decide ((pc : Int) + dflt = (q.2.2 : Int)))) &&
  (List.range n).all (fun j => l.any (fun q => decide (q.1 = lo + j) && (decide (q.2.1 = lo + j) && decide (offs[j]?.map (fun o => (pc : Int) + o) = some (q.2.2 : Int))))))
theorem xr_tswB {cl : List vw_C} {K : xKx} {cc : ByteArray} {own : String} {nL : Nat} {nm : String} {MC MS pc : Nat} {dflt lo hi : Int} {offs : Array Int} {len n : Nat} {l : List (Int × Int × Nat)} (d : decode cc pc = .ok (.tableswitch dflt lo hi offs, len)) (hn : hi + 1 = lo + n) (h : x_tswB pc dflt lo n offs l = true) : x_Snd cl K cc own nL nm MC MS pc (xi_sw l) := by
  unfold x_tswB at h
  simp only [Bool.and_eq_true, List.any_eq_true, List.all_eq_true, decide_eq_true_eq] at h
  obtain ⟨⟨q1, h1, a1, a2, a3⟩, ⟨q2, h2, b1, b2, b3⟩, h3⟩ := h
  refine xr_tsw d ⟨q1, h1, a1, a2, a3⟩ ⟨q2, h2, by omega, b2, b3⟩ (fun j hj => ?_)
  obtain ⟨q, hq, c1, c2, c3⟩ := h3 j (List.mem_range.mpr (by omega))
  cases ho : offs[j]? with
  | none => rw [ho] at c3; cases c3
  | some off =>
    rw [ho] at c3
    exact ⟨q, hq, c1, c2, off, rfl, Option.some.inj c3⟩
end
end
section
noncomputable section
/-! entries for loops and for calls on numbers alone; what the tokens' relations give -/
theorem x_lo {cl : List vw_C} {K : xKx} {I : Nat → xM} {q : xM} {pc L : Nat} {f : xS → Option (List xS)} (h : x_Snd cl K (xm_b q) (xm_y q).cls (xm_l q) (xm_y q).name (xm_c q) (xm_s q) pc f) : x_EOq cl K I q pc (3, f, L, 0) := h
theorem x_cp {cl : List vw_C} {K : xKx} {I : Nat → xM} {q q' : xM} {pc M' na : Nat} (e : I M' = q') (h : x_Cl (xm_b q) (xm_y q).cls (xm_l q) (xm_y q).name (xm_c q) (xm_s q) pc q' na) : x_EOq cl K I q pc (4, x_nof, M', na) := by
  show x_Cl _ _ _ _ _ _ _ (I M') na
  rw [e]
  exact h
def x_top2 (px py : xV) : xS → Bool := fun t => match t.2.2.1 with
  | y :: x :: _ => x_eqv x px && x_eqv y py
  | _ => false
/-- what a token or a number is worth -/
def x_pv (f : Nat → Int) (q : xV) : Int := match q.1 with
  | 0 => q.2.1
  | _ => f q.2.1.toNat
def x_okv (q : xV) : Bool := match q.1 with
  | 0 => decide (q.2.1 = q.2.2)
  | 3 => decide (0 ≤ q.2.1) && decide (q.2.1 < 32)
  | _ => false
def x_okL (q : xV) : Bool := match q.1 with
  | 6 => decide (0 ≤ q.2.1) && decide (q.2.1 < 32)
  | _ => false
theorem x_pv_ok {V : List Int} {sc : Nat × Nat × List Nat} {ad : List Nat} {f : Nat → Int} (h2 : ∀ j, j < 32 → V[j]? = some (f j)) {q : xV} {n : Int32} (hq : x_okv q = true) (h : x_rel ad V sc q (.int n)) : n.toInt = x_pv f q := by
  obtain ⟨t, a, b⟩ := q
  unfold x_okv at hq
  split at hq
  · rename_i h0
    simp only at h0
    subst h0
    simp only [decide_eq_true_eq] at hq
    subst hq
    exact x_tC h
  · rename_i h0
    simp only at h0
    subst h0
    simp only [Bool.and_eq_true, decide_eq_true_eq] at hq
    have e : a = (a.toNat : Int) := by omega
    rw [e] at h
    have := x_tI h2 (j := a.toNat) (by omega) h
    rw [this]
    rfl
  · cases hq
theorem x_pvL_ok {V : List Int} {sc : Nat × Nat × List Nat} {ad : List Nat} {f : Nat → Int} (h2 : ∀ j, j < 32 → V[j]? = some (f j)) {q : xV} {n : Int64} (hq : x_okL q = true) (h : x_rel ad V sc q (.long n)) : n.toInt = x_pv f q := by
  obtain ⟨t, a, b⟩ := q
  unfold x_okL at hq
  split at hq
  · rename_i h0
    simp only at h0
    subst h0
    simp only [Bool.and_eq_true, decide_eq_true_eq] at hq
    have e : a = (a.toNat : Int) := by omega
    rw [e] at h
    have := x_tL h2 (j := a.toNat) (by omega) h
    rw [this]
    rfl
  · cases hq
section X13b
variable {K : xKx} {px py : xV} {c : Nat}
theorem x_hV2 (G : Int → Int → Int) (hK : x_KP K) (hx : x_okv px = true) (hy : x_okv py = true) (hc : c < 32) (hG : ∀ f, x_fR f → f c = G (x_pv f px) (x_pv f py)) : ∀ R s A H V sc, K R s A H V sc → ∀ ad (x y : Int32), x_rel ad V sc px (.int x) → x_rel ad V sc py (.int y) → V[c]? = some (G x.toInt y.toInt) := by
  intro R s A H V sc h ad x y h1 h2
  obtain ⟨f, -, g2, g3, -⟩ := hK R s A H V sc h
  rw [x_pv_ok g2 hx h1, x_pv_ok g2 hy h2, ← hG f g3]
  exact g2 c hc
theorem x_hV2L (hK : x_KP K) (hx : x_okL px = true) (hy : x_okL py = true) (hc : c < 32) (hG : ∀ f, x_fR f → f c = x_pv f px + x_pv f py) : ∀ R s A H V sc, K R s A H V sc → ∀ ad (x y : Int64), x_rel ad V sc px (.long x) → x_rel ad V sc py (.long y) → V[c]? = some (x.toInt + y.toInt) := by
  intro R s A H V sc h ad x y h1 h2
  obtain ⟨f, -, g2, g3, -⟩ := hK R s A H V sc h
  rw [x_pvL_ok g2 hx h1, x_pvL_ok g2 hy h2, ← hG f g3]
  exact g2 c hc
theorem x_hV1 (hK : x_KP K) (hx : x_okv px = true) (hc : c < 32) (hG : ∀ f, x_fR f → f c = -x_pv f px) : ∀ R s A H V sc, K R s A H V sc → ∀ ad (x : Int32), x_rel ad V sc px (.int x) → V[c]? = some (-x.toInt) := by
  intro R s A H V sc h ad x h1
  obtain ⟨f, -, g2, g3, -⟩ := hK R s A H V sc h
  rw [x_pv_ok g2 hx h1, ← hG f g3]
  exact g2 c hc
theorem x_hVR {z : Int} (hK : x_KP K) (hx : x_okv px = true) (hy : x_okv py = true) (hc : c < 32) (hG : ∀ f, x_fR f → f c - z = x_pv f px - x_pv f py) : ∀ R s A H V sc, K R s A H V sc → ∀ ad (x y : Int32), x_rel ad V sc px (.int x) → x_rel ad V sc py (.int y) → ∃ n, V[c]? = some n ∧ n - z = x.toInt - y.toInt := by
  intro R s A H V sc h ad x y h1 h2
  obtain ⟨f, -, g2, g3, -⟩ := hK R s A H V sc h
  rw [x_pv_ok g2 hx h1, x_pv_ok g2 hy h2]
  exact ⟨f c, g2 c hc, hG f g3⟩
end X13b
section X13c
variable {cc : ByteArray} {own : String} {nL pc tg : Nat}
theorem xw_icmpgt {off : Int} (d : decode cc pc = .ok (.if_icmp .gt off, 3)) (ht : (pc : Int) + off = (tg : Int)) : x_If2 cc own nL pc tg (pc + 3) 4 := (fun S => fun kt kf => lv_icmp_gt S.1 S.2.1 d ht (fun h => kt (x_lt32.mp h)) (fun h => kf (fun q => h (x_lt32.mpr q))))
theorem xw_icmpne {off : Int} (d : decode cc pc = .ok (.if_icmp .ne off, 3)) (ht : (pc : Int) + off = (tg : Int)) : x_If2 cc own nL pc tg (pc + 3) 1 := (fun S => fun kt kf => lv_icmp_ne S.1 S.2.1 d ht (fun h => kt (fun q => h (x_eq32.mpr q))) (fun h => kf (fun q => q (x_eq32.mp h))))
end X13c
/-- the tokens 1 and 2 are equal, or not: what a comparison 'not equal' of them says -/
def x_KE (b : Bool) (K : xKx) : Prop := ∀ R s A H V sc, K R s A H V sc → ∀ ad (x y : Int32), x_rel ad V sc (3, 1, 0) (.int x) → x_rel ad V sc (3, 2, 0) (.int y) → (b = true ↔ x_cnd 1 x.toInt y.toInt)
/-- all ways end with 1 -/
def x_one1 (rs : Option (List xS)) : Bool := match rs with
  | some l => l.all (fun t => Nat.beq t.1 2149 && match t.2.2.1 with
    | [v] => x_eqv v (0, 1, 1)
    | _ => false)
  | none => false
/-- one way, and there the picture u -/
def x_goes (rs : Option (List xS)) (u : xS) : Bool := match rs with
  | some [t] => x_le 100 (99999, 99999) t u
  | _ => false
end
end
section
noncomputable section
/-! the lesser of two: a call that the machine knows -/
def xi_min (MC MS nx : Nat) : xS → Option (List xS) := fun t => match t.2.2.1 with
  | y :: x :: r => match x_bi t.2.2.2.2.1 x, x_bi t.2.2.2.2.1 y with
    | some a, some b => bif Nat.ble (x_cats r) 8 && (Nat.ble t.2.2.2.2.2.1 MC && Nat.ble t.2.2.2.2.2.2 MS) then some [(nx, t.2.1, (0, x_min a.1 b.1, x_min a.2 b.2) :: r, t.2.2.2)] else none
    | _, _ => none
  | _ => none
theorem xr_min {cl : List vw_C} {K : xKx} {cc : ByteArray} {own : String} {nL : Nat} {nm : String} {MC MS pc ix : Nat} (hl : Cond.methodLink own ix Lib.Math.min.name ∈ x_tbl) (hst : Cond.static Lib.Math.min.name ∈ x_tbl) (hi : Cond.initialized "java/lang/Math" ∈ x_tbl) (hc : Cond.code Lib.Math.min.name Lib.Math.min.code 2 (some .int) ∈ x_tbl) (d : decode cc pc = .ok (.invokestatic ix, 3)) : x_Snd cl K cc own nL nm MC MS pc (xi_min MC MS (pc + 3)) := by
  intro V sc p l e R s m args below meth c D A H0 Q C hA hK t ts hpc hf hg
  unfold xi_min at hf
  split at hf
  · rename_i y x r hst'
    split at hf
    · rename_i a b ha hb
      cases hbb : (Nat.ble (x_cats r) 8 && (Nat.ble t.2.2.2.2.2.1 MC && Nat.ble t.2.2.2.2.2.2 MS)) with
      | false => rw [hbb] at hf; cases hf
      | true =>
        rw [hbb] at hf
        cases hf
        simp only [Bool.and_eq_true] at hbb
        obtain ⟨b1, b2, b3⟩ := hbb
        have b1 := Nat.le_of_ble_eq_true b1
        have b2 := Nat.le_of_ble_eq_true b2
        have b3 := Nat.le_of_ble_eq_true b3
        subst hpc
        intro ls stk H locs ⟨lv, ws, tys, h1, h2, h3, h4, h5, h6, h7, h8, h9⟩
        rw [hst'] at h3
        match stk, h3 with
        | v1 :: v2 :: rest, h3 =>
          obtain ⟨ny, rfl, y1, y2⟩ := x_bi_ok h9 hb h3.1
          obtain ⟨nx', rfl, x1, x2⟩ := x_bi_ok h9 ha h3.2.1
          have hcat := (x_cats_ok h3.2.2).1
          have hts := C.1.2.2.2.2
          refine va_mmin C.1.1 C.1.2.1 (by rw [C.1.2.2.1, h1.1]) C.1.2.2.2.1 (hts _ hl) (hts _ hst) (hts _ hi) (hts _ hc) C.2.2.2.2.1 (by have := C.2.2.2.2.2.1; omega) (by rw [C.2.2.1]; exact b2) (by rw [C.2.2.2.1]; exact b3) d (hg _ List.mem_cons_self ls (.int (if ny < nx' then ny else nx') :: rest) H locs ⟨lv, ws, tys, h1, h2, ⟨⟨_, rfl, ?_⟩, h3.2.2⟩, h4, h5, h6, h7, h8, h9⟩)
          show x_min a.1 b.1 ≤ _ ∧ _ ≤ x_min a.2 b.2
          by_cases hlt : ny < nx'
          · rw [if_pos hlt]
            have := x_lt32.mp hlt
            exact ⟨x_min_r y1, x_le_min (by omega) y2⟩
          · rw [if_neg hlt]
            have : ¬ ny.toInt < nx'.toInt := fun q => hlt (x_lt32.mpr q)
            exact ⟨x_min_l x1, x_le_min x2 (by omega)⟩
    · cases hf
  · cases hf
end
end
section
/-! names and words (the names of classes, fields and methods are those of the printed list) -/
def RX0 : String := "RobotCellHouse$Arm"
def TX0 : u_T := fun k => match k with
  | 0 => ("RobotCellHouse$Arm", "joint", "[LRobotCellHouse$Joint;", true)
  | 1 => ("RobotCellHouse$Arm", "x", "[I", true)
  | 2 => ("RobotCellHouse$Arm", "y", "[I", true)
  | 3 => ("RobotCellHouse$Arm", "oldX", "[I", true)
  | 4 => ("RobotCellHouse$Arm", "oldY", "[I", true)
  | 5 => ("RobotCellHouse$Arm", "spared", "[I", true)
  | 6 => ("RobotCellHouse$Arm", "variable", "[I", true)
  | 7 => ("RobotCellHouse$Arm", "code", "LRobotCellHouse$Code;", false)
  | 8 => ("RobotCellHouse$Arm", "joints", "I", false)
  | 9 => ("RobotCellHouse$Arm", "direction", "I", false)
  | 10 => ("RobotCellHouse$Arm", "reach", "I", false)
  | 11 => ("RobotCellHouse$Arm", "state", "I", false)
  | 12 => ("RobotCellHouse$Arm", "ticks", "I", false)
  | 13 => ("RobotCellHouse$Arm", "owner", "I", false)
  | 14 => ("RobotCellHouse$Arm", "held", "I", false)
  | 15 => ("RobotCellHouse$Arm", "heldRadius", "I", false)
  | 16 => ("RobotCellHouse$Arm", "faulted", "I", false)
  | 17 => ("RobotCellHouse$Arm", "way", "I", false)
  | 18 => ("RobotCellHouse$Arm", "at", "I", false)
  | _ => ("RobotCellHouse$Arm", "moved", "I", false)
def tyX0 : Nat → FieldType := fun k => match k with
  | 0 => .array (.object "RobotCellHouse$Joint")
  | 1 => .array .int
  | 2 => .array .int
  | 3 => .array .int
  | 4 => .array .int
  | 5 => .array .int
  | 6 => .array .int
  | 7 => .object "RobotCellHouse$Code"
  | 8 => .int
  | 9 => .int
  | 10 => .int
  | 11 => .int
  | 12 => .int
  | 13 => .int
  | 14 => .int
  | 15 => .int
  | 16 => .int
  | 17 => .int
  | 18 => .int
  | _ => .int
theorem nmX0 : ∀ a, a < 20 → ∀ b, b < 20 → a ≠ b → (TX0 a).2.1 ≠ (TX0 b).2.1 := by decide +kernel
theorem tyX0_ok : ∀ k, k < 20 → parseFieldDescriptor (TX0 k).2.2.1 = some (tyX0 k) := by decide +kernel
def RX1 : String := "RobotCellHouse$Code"
def TX1 : u_T := fun k => match k with
  | 0 => ("RobotCellHouse$Code", "length", "I", false)
  | 1 => ("RobotCellHouse$Code", "routines", "I", false)
  | 2 => ("RobotCellHouse$Code", "variables", "I", false)
  | 3 => ("RobotCellHouse$Code", "entry", "[I", true)
  | _ => ("RobotCellHouse$Code", "rows", "[I", true)
def tyX1 : Nat → FieldType := fun k => match k with
  | 0 => .int
  | 1 => .int
  | 2 => .int
  | 3 => .array .int
  | _ => .array .int
theorem nmX1 : ∀ a, a < 5 → ∀ b, b < 5 → a ≠ b → (TX1 a).2.1 ≠ (TX1 b).2.1 := by decide +kernel
theorem tyX1_ok : ∀ k, k < 5 → parseFieldDescriptor (TX1 k).2.2.1 = some (tyX1 k) := by decide +kernel
def RX2 : String := "RobotCellHouse$Core"
def TX2 : u_T := fun k => match k with
  | 0 => ("RobotCellHouse$Core", "time", "I", false)
  | 1 => ("RobotCellHouse$Core", "events", "I", false)
  | 2 => ("RobotCellHouse$Core", "inputs", "I", false)
  | 3 => ("RobotCellHouse$Core", "power", "Z", false)
  | 4 => ("RobotCellHouse$Core", "causeKind", "I", false)
  | 5 => ("RobotCellHouse$Core", "causeNumber", "I", false)
  | 6 => ("RobotCellHouse$Core", "causeTick", "I", false)
  | 7 => ("RobotCellHouse$Core", "apart", "Z", false)
  | 8 => ("RobotCellHouse$Core", "log", "[I", true)
  | 9 => ("RobotCellHouse$Core", "differ", "[I", true)
  | 10 => ("RobotCellHouse$Core", "may", "[Z", true)
  | 11 => ("RobotCellHouse$Core", "one", "[Z", true)
  | 12 => ("RobotCellHouse$Core", "other", "[Z", true)
  | 13 => ("RobotCellHouse$Core", "faulty", "[Z", true)
  | _ => ("RobotCellHouse$Core", "differed", "[I", true)
def tyX2 : Nat → FieldType := fun k => match k with
  | 0 => .int
  | 1 => .int
  | 2 => .int
  | 3 => .boolean
  | 4 => .int
  | 5 => .int
  | 6 => .int
  | 7 => .boolean
  | 8 => .array .int
  | 9 => .array .int
  | 10 => .array .boolean
  | 11 => .array .boolean
  | 12 => .array .boolean
  | 13 => .array .boolean
  | _ => .array .int
theorem nmX2 : ∀ a, a < 15 → ∀ b, b < 15 → a ≠ b → (TX2 a).2.1 ≠ (TX2 b).2.1 := by decide +kernel
theorem tyX2_ok : ∀ k, k < 15 → parseFieldDescriptor (TX2 k).2.2.1 = some (tyX2 k) := by decide +kernel
def RX3 : String := "RobotCellHouse$Doer"
def TX3 : u_T := fun k => match k with
  | 0 => ("RobotCellHouse$Doer", "arms", "[LRobotCellHouse$Arm;", true)
  | 1 => ("RobotCellHouse$Doer", "points", "LRobotCellHouse$Points;", true)
  | 2 => ("RobotCellHouse$Doer", "floor", "LRobotCellHouse$Floor;", true)
  | 3 => ("RobotCellHouse$Doer", "core", "LRobotCellHouse$Core;", true)
  | 4 => ("RobotCellHouse$Doer", "tasks", "[LRobotCellHouse$Task;", true)
  | 5 => ("RobotCellHouse$Doer", "locks", "[I", true)
  | 6 => ("RobotCellHouse$Doer", "stack", "[I", true)
  | 7 => ("RobotCellHouse$Doer", "goals", "[I", true)
  | 8 => ("RobotCellHouse$Doer", "top", "I", false)
  | 9 => ("RobotCellHouse$Doer", "waits", "I", false)
  | 10 => ("RobotCellHouse$Doer", "raisedError", "I", false)
  | _ => ("RobotCellHouse$Doer", "raised", "Z", false)
def tyX3 : Nat → FieldType := fun k => match k with
  | 0 => .array (.object "RobotCellHouse$Arm")
  | 1 => .object "RobotCellHouse$Points"
  | 2 => .object "RobotCellHouse$Floor"
  | 3 => .object "RobotCellHouse$Core"
  | 4 => .array (.object "RobotCellHouse$Task")
  | 5 => .array .int
  | 6 => .array .int
  | 7 => .array .int
  | 8 => .int
  | 9 => .int
  | 10 => .int
  | _ => .boolean
theorem nmX3 : ∀ a, a < 12 → ∀ b, b < 12 → a ≠ b → (TX3 a).2.1 ≠ (TX3 b).2.1 := by decide +kernel
theorem tyX3_ok : ∀ k, k < 12 → parseFieldDescriptor (TX3 k).2.2.1 = some (tyX3 k) := by decide +kernel
def RX4 : String := "RobotCellHouse$Floor"
def TX4 : u_T := fun k => match k with
  | 0 => ("RobotCellHouse$Floor", "belts", "I", false)
  | 1 => ("RobotCellHouse$Floor", "parts", "I", false)
  | 2 => ("RobotCellHouse$Floor", "length", "[I", true)
  | 3 => ("RobotCellHouse$Floor", "speed", "[I", true)
  | 4 => ("RobotCellHouse$Floor", "point", "[I", true)
  | 5 => ("RobotCellHouse$Floor", "from", "[I", true)
  | 6 => ("RobotCellHouse$Floor", "to", "[I", true)
  | 7 => ("RobotCellHouse$Floor", "x", "[I", true)
  | 8 => ("RobotCellHouse$Floor", "y", "[I", true)
  | 9 => ("RobotCellHouse$Floor", "stepX", "[I", true)
  | 10 => ("RobotCellHouse$Floor", "stepY", "[I", true)
  | 11 => ("RobotCellHouse$Floor", "width", "[I", true)
  | 12 => ("RobotCellHouse$Floor", "order", "[[I", true)
  | 13 => ("RobotCellHouse$Floor", "ordered", "[I", true)
  | 14 => ("RobotCellHouse$Floor", "where", "[I", true)
  | 15 => ("RobotCellHouse$Floor", "way", "[I", true)
  | 16 => ("RobotCellHouse$Floor", "radius", "[I", true)
  | 17 => ("RobotCellHouse$Floor", "placeX", "[I", true)
  | 18 => ("RobotCellHouse$Floor", "placeY", "[I", true)
  | _ => ("RobotCellHouse$Floor", "first", "[[I", true)
def tyX4 : Nat → FieldType := fun k => match k with
  | 0 => .int
  | 1 => .int
  | 2 => .array .int
  | 3 => .array .int
  | 4 => .array .int
  | 5 => .array .int
  | 6 => .array .int
  | 7 => .array .int
  | 8 => .array .int
  | 9 => .array .int
  | 10 => .array .int
  | 11 => .array .int
  | 12 => .array (.array .int)
  | 13 => .array .int
  | 14 => .array .int
  | 15 => .array .int
  | 16 => .array .int
  | 17 => .array .int
  | 18 => .array .int
  | _ => .array (.array .int)
theorem nmX4 : ∀ a, a < 20 → ∀ b, b < 20 → a ≠ b → (TX4 a).2.1 ≠ (TX4 b).2.1 := by decide +kernel
theorem tyX4_ok : ∀ k, k < 20 → parseFieldDescriptor (TX4 k).2.2.1 = some (tyX4 k) := by decide +kernel
def RX5 : String := "RobotCellHouse$Joint"
def TX5 : u_T := fun k => match k with
  | 0 => ("RobotCellHouse$Joint", "kind", "I", false)
  | 1 => ("RobotCellHouse$Joint", "low", "I", false)
  | 2 => ("RobotCellHouse$Joint", "high", "I", false)
  | 3 => ("RobotCellHouse$Joint", "length", "I", false)
  | 4 => ("RobotCellHouse$Joint", "radius", "I", false)
  | 5 => ("RobotCellHouse$Joint", "speed", "I", false)
  | 6 => ("RobotCellHouse$Joint", "gain", "I", false)
  | 7 => ("RobotCellHouse$Joint", "value", "I", false)
  | 8 => ("RobotCellHouse$Joint", "step", "I", false)
  | 9 => ("RobotCellHouse$Joint", "goal", "I", false)
  | 10 => ("RobotCellHouse$Joint", "begun", "I", false)
  | _ => ("RobotCellHouse$Joint", "before", "I", false)
def tyX5 : Nat → FieldType := fun k => match k with
  | 0 => .int
  | 1 => .int
  | 2 => .int
  | 3 => .int
  | 4 => .int
  | 5 => .int
  | 6 => .int
  | 7 => .int
  | 8 => .int
  | 9 => .int
  | 10 => .int
  | _ => .int
theorem nmX5 : ∀ a, a < 12 → ∀ b, b < 12 → a ≠ b → (TX5 a).2.1 ≠ (TX5 b).2.1 := by decide +kernel
theorem tyX5_ok : ∀ k, k < 12 → parseFieldDescriptor (TX5 k).2.2.1 = some (tyX5 k) := by decide +kernel
def RX6 : String := "RobotCellHouse$Planner"
def TX6 : u_T := fun k => match k with
  | 0 => ("RobotCellHouse$Planner", "plans", "I", false)
  | 1 => ("RobotCellHouse$Planner", "wide", "I", false)
  | 2 => ("RobotCellHouse$Planner", "margin", "I", false)
  | 3 => ("RobotCellHouse$Planner", "origin", "I", false)
  | 4 => ("RobotCellHouse$Planner", "values", "[I", true)
  | 5 => ("RobotCellHouse$Planner", "down", "[I", true)
  | 6 => ("RobotCellHouse$Planner", "size", "[I", true)
  | 7 => ("RobotCellHouse$Planner", "stride", "[I", true)
  | 8 => ("RobotCellHouse$Planner", "queue", "[I", true)
  | 9 => ("RobotCellHouse$Planner", "came", "[I", true)
  | 10 => ("RobotCellHouse$Planner", "steps", "[B", true)
  | 11 => ("RobotCellHouse$Planner", "lengths", "[I", true)
  | _ => ("RobotCellHouse$Planner", "widths", "[I", true)
def tyX6 : Nat → FieldType := fun k => match k with
  | 0 => .int
  | 1 => .int
  | 2 => .int
  | 3 => .int
  | 4 => .array .int
  | 5 => .array .int
  | 6 => .array .int
  | 7 => .array .int
  | 8 => .array .int
  | 9 => .array .int
  | 10 => .array .byte
  | 11 => .array .int
  | _ => .array .int
theorem nmX6 : ∀ a, a < 13 → ∀ b, b < 13 → a ≠ b → (TX6 a).2.1 ≠ (TX6 b).2.1 := by decide +kernel
theorem tyX6_ok : ∀ k, k < 13 → parseFieldDescriptor (TX6 k).2.2.1 = some (tyX6 k) := by decide +kernel
def RX7 : String := "RobotCellHouse$Points"
def TX7 : u_T := fun k => match k with
  | 0 => ("RobotCellHouse$Points", "own", "[I", true)
  | 1 => ("RobotCellHouse$Points", "value", "[I", true)
  | 2 => ("RobotCellHouse$Points", "rises", "[I", true)
  | 3 => ("RobotCellHouse$Points", "forcedTo", "[I", true)
  | 4 => ("RobotCellHouse$Points", "source", "[I", true)
  | 5 => ("RobotCellHouse$Points", "forced", "[Z", true)
  | 6 => ("RobotCellHouse$Points", "turned", "[Z", true)
  | _ => ("RobotCellHouse$Points", "order", "[I", true)
def tyX7 : Nat → FieldType := fun k => match k with
  | 0 => .array .int
  | 1 => .array .int
  | 2 => .array .int
  | 3 => .array .int
  | 4 => .array .int
  | 5 => .array .boolean
  | 6 => .array .boolean
  | _ => .array .int
theorem nmX7 : ∀ a, a < 8 → ∀ b, b < 8 → a ≠ b → (TX7 a).2.1 ≠ (TX7 b).2.1 := by decide +kernel
theorem tyX7_ok : ∀ k, k < 8 → parseFieldDescriptor (TX7 k).2.2.1 = some (tyX7 k) := by decide +kernel
def RX8 : String := "RobotCellHouse$Reader"
def TX8 : u_T := fun k => match k with
  | 0 => ("RobotCellHouse$Reader", "length", "I", false)
  | 1 => ("RobotCellHouse$Reader", "fault", "I", false)
  | 2 => ("RobotCellHouse$Reader", "place", "I", false)
  | 3 => ("RobotCellHouse$Reader", "code", "LRobotCellHouse$Code;", false)
  | 4 => ("RobotCellHouse$Reader", "text", "[B", true)
  | 5 => ("RobotCellHouse$Reader", "kind", "I", false)
  | 6 => ("RobotCellHouse$Reader", "at", "I", false)
  | 7 => ("RobotCellHouse$Reader", "next", "I", false)
  | 8 => ("RobotCellHouse$Reader", "number", "I", false)
  | 9 => ("RobotCellHouse$Reader", "sense", "I", false)
  | 10 => ("RobotCellHouse$Reader", "sensePlace", "I", false)
  | 11 => ("RobotCellHouse$Reader", "open", "I", false)
  | 12 => ("RobotCellHouse$Reader", "tries", "I", false)
  | 13 => ("RobotCellHouse$Reader", "loop", "I", false)
  | 14 => ("RobotCellHouse$Reader", "routines", "I", false)
  | 15 => ("RobotCellHouse$Reader", "variableAt", "[I", true)
  | _ => ("RobotCellHouse$Reader", "routineAt", "[I", true)
def tyX8 : Nat → FieldType := fun k => match k with
  | 0 => .int
  | 1 => .int
  | 2 => .int
  | 3 => .object "RobotCellHouse$Code"
  | 4 => .array .byte
  | 5 => .int
  | 6 => .int
  | 7 => .int
  | 8 => .int
  | 9 => .int
  | 10 => .int
  | 11 => .int
  | 12 => .int
  | 13 => .int
  | 14 => .int
  | 15 => .array .int
  | _ => .array .int
theorem nmX8 : ∀ a, a < 17 → ∀ b, b < 17 → a ≠ b → (TX8 a).2.1 ≠ (TX8 b).2.1 := by decide +kernel
theorem tyX8_ok : ∀ k, k < 17 → parseFieldDescriptor (TX8 k).2.2.1 = some (tyX8 k) := by decide +kernel
def RX9 : String := "RobotCellHouse$Shapes"
def TX9 : u_T := fun k => match k with
  | 0 => ("RobotCellHouse$Shapes", "solids", "I", false)
  | 1 => ("RobotCellHouse$Shapes", "zones", "I", false)
  | 2 => ("RobotCellHouse$Shapes", "x", "[I", true)
  | 3 => ("RobotCellHouse$Shapes", "y", "[I", true)
  | 4 => ("RobotCellHouse$Shapes", "w", "[I", true)
  | 5 => ("RobotCellHouse$Shapes", "h", "[I", true)
  | 6 => ("RobotCellHouse$Shapes", "\x72", "[I", true)
  | 7 => ("RobotCellHouse$Shapes", "zoneArm", "[I", true)
  | 8 => ("RobotCellHouse$Shapes", "most", "[I", true)
  | 9 => ("RobotCellHouse$Shapes", "left", "[I", true)
  | 10 => ("RobotCellHouse$Shapes", "low", "[I", true)
  | 11 => ("RobotCellHouse$Shapes", "right", "[I", true)
  | 12 => ("RobotCellHouse$Shapes", "high", "[I", true)
  | 13 => ("RobotCellHouse$Shapes", "ax", "I", false)
  | 14 => ("RobotCellHouse$Shapes", "ay", "I", false)
  | 15 => ("RobotCellHouse$Shapes", "bx", "I", false)
  | _ => ("RobotCellHouse$Shapes", "by", "I", false)
def tyX9 : Nat → FieldType := fun k => match k with
  | 0 => .int
  | 1 => .int
  | 2 => .array .int
  | 3 => .array .int
  | 4 => .array .int
  | 5 => .array .int
  | 6 => .array .int
  | 7 => .array .int
  | 8 => .array .int
  | 9 => .array .int
  | 10 => .array .int
  | 11 => .array .int
  | 12 => .array .int
  | 13 => .int
  | 14 => .int
  | 15 => .int
  | _ => .int
theorem nmX9 : ∀ a, a < 17 → ∀ b, b < 17 → a ≠ b → (TX9 a).2.1 ≠ (TX9 b).2.1 := by decide +kernel
theorem tyX9_ok : ∀ k, k < 17 → parseFieldDescriptor (TX9 k).2.2.1 = some (tyX9 k) := by decide +kernel
def RX10 : String := "RobotCellHouse$Task"
def TX10 : u_T := fun k => match k with
  | 0 => ("RobotCellHouse$Task", "number", "I", true)
  | 1 => ("RobotCellHouse$Task", "state", "I", false)
  | 2 => ("RobotCellHouse$Task", "arm", "I", false)
  | 3 => ("RobotCellHouse$Task", "pc", "I", false)
  | 4 => ("RobotCellHouse$Task", "frames", "I", false)
  | 5 => ("RobotCellHouse$Task", "error", "I", false)
  | 6 => ("RobotCellHouse$Task", "caught", "I", false)
  | 7 => ("RobotCellHouse$Task", "born", "I", false)
  | 8 => ("RobotCellHouse$Task", "awaited", "I", false)
  | 9 => ("RobotCellHouse$Task", "since", "I", false)
  | 10 => ("RobotCellHouse$Task", "broken", "Z", false)
  | 11 => ("RobotCellHouse$Task", "watched", "I", false)
  | 12 => ("RobotCellHouse$Task", "watcher", "I", false)
  | 13 => ("RobotCellHouse$Task", "kept", "I", false)
  | 14 => ("RobotCellHouse$Task", "watchFrame", "I", false)
  | 15 => ("RobotCellHouse$Task", "tries", "I", false)
  | 16 => ("RobotCellHouse$Task", "returnTo", "[I", true)
  | 17 => ("RobotCellHouse$Task", "triesBelow", "[I", true)
  | 18 => ("RobotCellHouse$Task", "tryAt", "[I", true)
  | 19 => ("RobotCellHouse$Task", "tryPart", "[I", true)
  | _ => ("RobotCellHouse$Task", "tryValue", "[I", true)
def tyX10 : Nat → FieldType := fun k => match k with
  | 0 => .int
  | 1 => .int
  | 2 => .int
  | 3 => .int
  | 4 => .int
  | 5 => .int
  | 6 => .int
  | 7 => .int
  | 8 => .int
  | 9 => .int
  | 10 => .boolean
  | 11 => .int
  | 12 => .int
  | 13 => .int
  | 14 => .int
  | 15 => .int
  | 16 => .array .int
  | 17 => .array .int
  | 18 => .array .int
  | 19 => .array .int
  | _ => .array .int
theorem nmX10 : ∀ a, a < 21 → ∀ b, b < 21 → a ≠ b → (TX10 a).2.1 ≠ (TX10 b).2.1 := by decide +kernel
theorem tyX10_ok : ∀ k, k < 21 → parseFieldDescriptor (TX10 k).2.2.1 = some (tyX10 k) := by decide +kernel
def RX11 : String := "RobotCellHouse"
def TX11 : u_T := fun k => match k with
  | 0 => ("RobotCellHouse", "reader", "LRobotCellHouse$Reader;", true)
  | 1 => ("RobotCellHouse", "doer", "LRobotCellHouse$Doer;", true)
  | 2 => ("RobotCellHouse", "arms", "[LRobotCellHouse$Arm;", true)
  | 3 => ("RobotCellHouse", "points", "LRobotCellHouse$Points;", true)
  | 4 => ("RobotCellHouse", "floor", "LRobotCellHouse$Floor;", true)
  | 5 => ("RobotCellHouse", "core", "LRobotCellHouse$Core;", true)
  | 6 => ("RobotCellHouse", "shapes", "LRobotCellHouse$Shapes;", true)
  | 7 => ("RobotCellHouse", "planner", "LRobotCellHouse$Planner;", true)
  | 8 => ("RobotCellHouse", "aims", "[I", true)
  | 9 => ("RobotCellHouse", "book", "[I", true)
  | 10 => ("RobotCellHouse", "never", "[I", true)
  | 11 => ("RobotCellHouse", "armCount", "I", false)
  | 12 => ("RobotCellHouse", "rows", "I", false)
  | 13 => ("RobotCellHouse", "isOpen", "Z", false)
  | _ => ("RobotCellHouse", "counting", "Z", false)
def tyX11 : Nat → FieldType := fun k => match k with
  | 0 => .object "RobotCellHouse$Reader"
  | 1 => .object "RobotCellHouse$Doer"
  | 2 => .array (.object "RobotCellHouse$Arm")
  | 3 => .object "RobotCellHouse$Points"
  | 4 => .object "RobotCellHouse$Floor"
  | 5 => .object "RobotCellHouse$Core"
  | 6 => .object "RobotCellHouse$Shapes"
  | 7 => .object "RobotCellHouse$Planner"
  | 8 => .array .int
  | 9 => .array .int
  | 10 => .array .int
  | 11 => .int
  | 12 => .int
  | 13 => .boolean
  | _ => .boolean
theorem nmX11 : ∀ a, a < 15 → ∀ b, b < 15 → a ≠ b → (TX11 a).2.1 ≠ (TX11 b).2.1 := by decide +kernel
theorem tyX11_ok : ∀ k, k < 15 → parseFieldDescriptor (TX11 k).2.2.1 = some (tyX11 k) := by decide +kernel
def RX12 : String := "RobotCellHouseModel"
def TX12 : u_T := fun k => match k with
  | 0 => ("RobotCellHouseModel", "now", "[I", true)
  | 1 => ("RobotCellHouseModel", "opened", "[I", true)
  | 2 => ("RobotCellHouseModel", "shots", "[I", true)
  | 3 => ("RobotCellHouseModel", "isOpen", "Z", false)
  | 4 => ("RobotCellHouseModel", "book", "[I", true)
  | 5 => ("RobotCellHouseModel", "rows", "I", false)
  | 6 => ("RobotCellHouseModel", "isAgain", "Z", false)
  | 7 => ("RobotCellHouseModel", "counted", "[I", true)
  | 8 => ("RobotCellHouseModel", "tape", "[B", true)
  | 9 => ("RobotCellHouseModel", "taped", "I", false)
  | 10 => ("RobotCellHouseModel", "arms", "I", false)
  | 11 => ("RobotCellHouseModel", "baseX", "[I", true)
  | 12 => ("RobotCellHouseModel", "baseY", "[I", true)
  | 13 => ("RobotCellHouseModel", "direction", "[I", true)
  | 14 => ("RobotCellHouseModel", "reach", "[I", true)
  | 15 => ("RobotCellHouseModel", "joints", "[I", true)
  | 16 => ("RobotCellHouseModel", "turns", "[I", true)
  | 17 => ("RobotCellHouseModel", "low", "[I", true)
  | 18 => ("RobotCellHouseModel", "high", "[I", true)
  | 19 => ("RobotCellHouseModel", "speed", "[I", true)
  | 20 => ("RobotCellHouseModel", "gain", "[I", true)
  | 21 => ("RobotCellHouseModel", "length", "[I", true)
  | 22 => ("RobotCellHouseModel", "radius", "[I", true)
  | 23 => ("RobotCellHouseModel", "solids", "I", false)
  | 24 => ("RobotCellHouseModel", "isBox", "[Z", true)
  | 25 => ("RobotCellHouseModel", "solidX", "[I", true)
  | 26 => ("RobotCellHouseModel", "solidY", "[I", true)
  | 27 => ("RobotCellHouseModel", "solidW", "[I", true)
  | 28 => ("RobotCellHouseModel", "solidH", "[I", true)
  | 29 => ("RobotCellHouseModel", "spared", "[Z", true)
  | 30 => ("RobotCellHouseModel", "belts", "I", false)
  | 31 => ("RobotCellHouseModel", "beltX", "[I", true)
  | 32 => ("RobotCellHouseModel", "beltY", "[I", true)
  | 33 => ("RobotCellHouseModel", "quarter", "[I", true)
  | 34 => ("RobotCellHouseModel", "beltLength", "[I", true)
  | 35 => ("RobotCellHouseModel", "beltSpeed", "[I", true)
  | 36 => ("RobotCellHouseModel", "beltWidth", "[I", true)
  | 37 => ("RobotCellHouseModel", "sensorPoint", "[I", true)
  | 38 => ("RobotCellHouseModel", "sensorFrom", "[I", true)
  | 39 => ("RobotCellHouseModel", "sensorTo", "[I", true)
  | 40 => ("RobotCellHouseModel", "parts", "I", false)
  | 41 => ("RobotCellHouseModel", "partRadius", "[I", true)
  | 42 => ("RobotCellHouseModel", "zones", "I", false)
  | 43 => ("RobotCellHouseModel", "zoneArm", "[I", true)
  | 44 => ("RobotCellHouseModel", "zoneX", "[I", true)
  | 45 => ("RobotCellHouseModel", "zoneY", "[I", true)
  | 46 => ("RobotCellHouseModel", "zoneW", "[I", true)
  | 47 => ("RobotCellHouseModel", "zoneH", "[I", true)
  | 48 => ("RobotCellHouseModel", "zoneMost", "[I", true)
  | 49 => ("RobotCellHouseModel", "inputs", "I", false)
  | 50 => ("RobotCellHouseModel", "differ", "[I", true)
  | 51 => ("RobotCellHouseModel", "may", "[Z", true)
  | 52 => ("RobotCellHouseModel", "wireFrom", "[I", true)
  | 53 => ("RobotCellHouseModel", "isTurned", "[Z", true)
  | 54 => ("RobotCellHouseModel", "sines", "[I", true)
  | 55 => ("RobotCellHouseModel", "pointX", "[I", true)
  | 56 => ("RobotCellHouseModel", "pointY", "[I", true)
  | 57 => ("RobotCellHouseModel", "trial", "[I", true)
  | 58 => ("RobotCellHouseModel", "lineFrom", "I", false)
  | 59 => ("RobotCellHouseModel", "lineTo", "I", false)
  | 60 => ("RobotCellHouseModel", "lineRadius", "I", false)
  | 61 => ("RobotCellHouseModel", "one", "[I", true)
  | 62 => ("RobotCellHouseModel", "two", "[I", true)
  | 63 => ("RobotCellHouseModel", "path", "[I", true)
  | 64 => ("RobotCellHouseModel", "wasNought", "[Z", true)
  | 65 => ("RobotCellHouseModel", "ops", "[I", true)
  | 66 => ("RobotCellHouseModel", "args", "[I", true)
  | 67 => ("RobotCellHouseModel", "regions", "[I", true)
  | 68 => ("RobotCellHouseModel", "tryIn", "[I", true)
  | 69 => ("RobotCellHouseModel", "tryCatch", "[I", true)
  | 70 => ("RobotCellHouseModel", "tryFinally", "[I", true)
  | 71 => ("RobotCellHouseModel", "tryEnd", "[I", true)
  | 72 => ("RobotCellHouseModel", "whileIn", "[I", true)
  | 73 => ("RobotCellHouseModel", "whileEnd", "[I", true)
  | 74 => ("RobotCellHouseModel", "routineAt", "[I", true)
  | 75 => ("RobotCellHouseModel", "routines", "[I", true)
  | 76 => ("RobotCellHouseModel", "variables", "[I", true)
  | 77 => ("RobotCellHouseModel", "hasProgram", "[Z", true)
  | 78 => ("RobotCellHouseModel", "size", "I", false)
  | 79 => ("RobotCellHouseModel", "tries", "I", false)
  | 80 => ("RobotCellHouseModel", "whiles", "I", false)
  | 81 => ("RobotCellHouseModel", "region", "I", false)
  | 82 => ("RobotCellHouseModel", "inWhile", "I", false)
  | 83 => ("RobotCellHouseModel", "opens", "I", false)
  | 84 => ("RobotCellHouseModel", "kind", "I", false)
  | 85 => ("RobotCellHouseModel", "what", "I", false)
  | 86 => ("RobotCellHouseModel", "tokenAt", "I", false)
  | 87 => ("RobotCellHouseModel", "tokenEnd", "I", false)
  | 88 => ("RobotCellHouseModel", "faultKind", "I", false)
  | 89 => ("RobotCellHouseModel", "faultPlace", "I", false)
  | 90 => ("RobotCellHouseModel", "nameKind", "[I", true)
  | 91 => ("RobotCellHouseModel", "nameAt", "[I", true)
  | 92 => ("RobotCellHouseModel", "nameSize", "[I", true)
  | 93 => ("RobotCellHouseModel", "nameCode", "[I", true)
  | 94 => ("RobotCellHouseModel", "names", "I", false)
  | 95 => ("RobotCellHouseModel", "hasRead", "Z", false)
  | 96 => ("RobotCellHouseModel", "turn", "I", false)
  | 97 => ("RobotCellHouseModel", "at", "I", false)
  | 98 => ("RobotCellHouseModel", "its", "I", false)
  | 99 => ("RobotCellHouseModel", "begun", "I", false)
  | 100 => ("RobotCellHouseModel", "isOver", "Z", false)
  | 101 => ("RobotCellHouseModel", "stack", "[I", true)
  | 102 => ("RobotCellHouseModel", "depth", "I", false)
  | 103 => ("RobotCellHouseModel", "stepBefore", "[I", true)
  | 104 => ("RobotCellHouseModel", "nodes", "[I", true)
  | 105 => ("RobotCellHouseModel", "first", "[I", true)
  | 106 => ("RobotCellHouseModel", "far", "[I", true)
  | 107 => ("RobotCellHouseModel", "queue", "[I", true)
  | 108 => ("RobotCellHouseModel", "isFree", "[I", true)
  | 109 => ("RobotCellHouseModel", "edges", "[I", true)
  | 110 => ("RobotCellHouseModel", "planArm", "I", false)
  | 111 => ("RobotCellHouseModel", "planWide", "I", false)
  | 112 => ("RobotCellHouseModel", "planMargin", "I", false)
  | 113 => ("RobotCellHouseModel", "found", "[I", true)
  | 114 => ("RobotCellHouseModel", "ways", "[I", true)
  | 115 => ("RobotCellHouseModel", "wayFrom", "[I", true)
  | 116 => ("RobotCellHouseModel", "wayEnd", "[I", true)
  | 117 => ("RobotCellHouseModel", "againRow", "I", false)
  | _ => ("RobotCellHouseModel", "plans", "I", false)
def tyX12 : Nat → FieldType := fun k => match k with
  | 0 => .array .int
  | 1 => .array .int
  | 2 => .array .int
  | 3 => .boolean
  | 4 => .array .int
  | 5 => .int
  | 6 => .boolean
  | 7 => .array .int
  | 8 => .array .byte
  | 9 => .int
  | 10 => .int
  | 11 => .array .int
  | 12 => .array .int
  | 13 => .array .int
  | 14 => .array .int
  | 15 => .array .int
  | 16 => .array .int
  | 17 => .array .int
  | 18 => .array .int
  | 19 => .array .int
  | 20 => .array .int
  | 21 => .array .int
  | 22 => .array .int
  | 23 => .int
  | 24 => .array .boolean
  | 25 => .array .int
  | 26 => .array .int
  | 27 => .array .int
  | 28 => .array .int
  | 29 => .array .boolean
  | 30 => .int
  | 31 => .array .int
  | 32 => .array .int
  | 33 => .array .int
  | 34 => .array .int
  | 35 => .array .int
  | 36 => .array .int
  | 37 => .array .int
  | 38 => .array .int
  | 39 => .array .int
  | 40 => .int
  | 41 => .array .int
  | 42 => .int
  | 43 => .array .int
  | 44 => .array .int
  | 45 => .array .int
  | 46 => .array .int
  | 47 => .array .int
  | 48 => .array .int
  | 49 => .int
  | 50 => .array .int
  | 51 => .array .boolean
  | 52 => .array .int
  | 53 => .array .boolean
  | 54 => .array .int
  | 55 => .array .int
  | 56 => .array .int
  | 57 => .array .int
  | 58 => .int
  | 59 => .int
  | 60 => .int
  | 61 => .array .int
  | 62 => .array .int
  | 63 => .array .int
  | 64 => .array .boolean
  | 65 => .array .int
  | 66 => .array .int
  | 67 => .array .int
  | 68 => .array .int
  | 69 => .array .int
  | 70 => .array .int
  | 71 => .array .int
  | 72 => .array .int
  | 73 => .array .int
  | 74 => .array .int
  | 75 => .array .int
  | 76 => .array .int
  | 77 => .array .boolean
  | 78 => .int
  | 79 => .int
  | 80 => .int
  | 81 => .int
  | 82 => .int
  | 83 => .int
  | 84 => .int
  | 85 => .int
  | 86 => .int
  | 87 => .int
  | 88 => .int
  | 89 => .int
  | 90 => .array .int
  | 91 => .array .int
  | 92 => .array .int
  | 93 => .array .int
  | 94 => .int
  | 95 => .boolean
  | 96 => .int
  | 97 => .int
  | 98 => .int
  | 99 => .int
  | 100 => .boolean
  | 101 => .array .int
  | 102 => .int
  | 103 => .array .int
  | 104 => .array .int
  | 105 => .array .int
  | 106 => .array .int
  | 107 => .array .int
  | 108 => .array .int
  | 109 => .array .int
  | 110 => .int
  | 111 => .int
  | 112 => .int
  | 113 => .array .int
  | 114 => .array .int
  | 115 => .array .int
  | 116 => .array .int
  | 117 => .int
  | _ => .int
theorem nmX12 : ∀ a, a < 119 → ∀ b, b < 119 → a ≠ b → (TX12 a).2.1 ≠ (TX12 b).2.1 := by decide +kernel
theorem tyX12_ok : ∀ k, k < 119 → parseFieldDescriptor (TX12 k).2.2.1 = some (tyX12 k) := by decide +kernel
def RJ7 : String := "java/util/Arrays"
abbrev cls : List vw_C := [(RX0, TX0, 20), (RX1, TX1, 5), (RX2, TX2, 15), (RX3, TX3, 12), (RX4, TX4, 20), (RX5, TX5, 12), (RX6, TX6, 13), (RX7, TX7, 8), (RX8, TX8, 17), (RX9, TX9, 17), (RX10, TX10, 21), (RX11, TX11, 15), (RX12, TX12, 119)]
theorem in_t1 : ∀ {w : Cond}, w ∈ tables_1_1 → goodWord w = true → w ∈ x_tbl := fun h hg => x_tb (List.mem_append_right _ (show _ ∈ tables_1 from (List.mem_append_left _ h))) hg
theorem in_t2 : ∀ {w : Cond}, w ∈ tables_1_2 → goodWord w = true → w ∈ x_tbl := fun h hg => x_tb (List.mem_append_right _ (show _ ∈ tables_1 from (List.mem_append_right _ (List.mem_append_left _ h)))) hg
theorem in_t3 : ∀ {w : Cond}, w ∈ tables_1_3 → goodWord w = true → w ∈ x_tbl := fun h hg => x_tb (List.mem_append_right _ (show _ ∈ tables_1 from (List.mem_append_right _ (List.mem_append_right _ (List.mem_append_left _ h))))) hg
theorem in_t4 : ∀ {w : Cond}, w ∈ tables_1_4 → goodWord w = true → w ∈ x_tbl := fun h hg => x_tb (List.mem_append_right _ (show _ ∈ tables_1 from (List.mem_append_right _ (List.mem_append_right _ (List.mem_append_right _ (List.mem_append_left _ h)))))) hg
theorem in_t5 : ∀ {w : Cond}, w ∈ tables_1_5 → goodWord w = true → w ∈ x_tbl := fun h hg => x_tb (List.mem_append_right _ (show _ ∈ tables_1 from (List.mem_append_right _ (List.mem_append_right _ (List.mem_append_right _ (List.mem_append_right _ (List.mem_append_left _ h))))))) hg
theorem in_t6 : ∀ {w : Cond}, w ∈ tables_1_6 → goodWord w = true → w ∈ x_tbl := fun h hg => x_tb (List.mem_append_right _ (show _ ∈ tables_1 from (List.mem_append_right _ (List.mem_append_right _ (List.mem_append_right _ (List.mem_append_right _ (List.mem_append_right _ (List.mem_append_left _ h)))))))) hg
theorem in_t7 : ∀ {w : Cond}, w ∈ tables_1_7 → goodWord w = true → w ∈ x_tbl := fun h hg => x_tb (List.mem_append_right _ (show _ ∈ tables_1 from (List.mem_append_right _ (List.mem_append_right _ (List.mem_append_right _ (List.mem_append_right _ (List.mem_append_right _ (List.mem_append_right _ (List.mem_append_left _ h))))))))) hg
theorem in_t8 : ∀ {w : Cond}, w ∈ tables_1_8 → goodWord w = true → w ∈ x_tbl := fun h hg => x_tb (List.mem_append_right _ (show _ ∈ tables_1 from (List.mem_append_right _ (List.mem_append_right _ (List.mem_append_right _ (List.mem_append_right _ (List.mem_append_right _ (List.mem_append_right _ (List.mem_append_right _ (List.mem_append_left _ h)))))))))) hg
theorem in_t9 : ∀ {w : Cond}, w ∈ tables_1_9 → goodWord w = true → w ∈ x_tbl := fun h hg => x_tb (List.mem_append_right _ (show _ ∈ tables_1 from (List.mem_append_right _ (List.mem_append_right _ (List.mem_append_right _ (List.mem_append_right _ (List.mem_append_right _ (List.mem_append_right _ (List.mem_append_right _ (List.mem_append_right _ (List.mem_append_left _ h))))))))))) hg
theorem in_t10 : ∀ {w : Cond}, w ∈ tables_1_10 → goodWord w = true → w ∈ x_tbl := fun h hg => x_tb (List.mem_append_right _ (show _ ∈ tables_1 from (List.mem_append_right _ (List.mem_append_right _ (List.mem_append_right _ (List.mem_append_right _ (List.mem_append_right _ (List.mem_append_right _ (List.mem_append_right _ (List.mem_append_right _ (List.mem_append_right _ (List.mem_append_left _ h)))))))))))) hg
theorem in_t11 : ∀ {w : Cond}, w ∈ tables_1_11 → goodWord w = true → w ∈ x_tbl := fun h hg => x_tb (List.mem_append_right _ (show _ ∈ tables_1 from (List.mem_append_right _ (List.mem_append_right _ (List.mem_append_right _ (List.mem_append_right _ (List.mem_append_right _ (List.mem_append_right _ (List.mem_append_right _ (List.mem_append_right _ (List.mem_append_right _ (List.mem_append_right _ (List.mem_append_left _ h))))))))))))) hg
theorem in_t12 : ∀ {w : Cond}, w ∈ tables_1_12 → goodWord w = true → w ∈ x_tbl := fun h hg => x_tb (List.mem_append_right _ (show _ ∈ tables_1 from (List.mem_append_right _ (List.mem_append_right _ (List.mem_append_right _ (List.mem_append_right _ (List.mem_append_right _ (List.mem_append_right _ (List.mem_append_right _ (List.mem_append_right _ (List.mem_append_right _ (List.mem_append_right _ (List.mem_append_right _ (List.mem_append_left _ h)))))))))))))) hg
theorem in_t13 : ∀ {w : Cond}, w ∈ tables_1_13 → goodWord w = true → w ∈ x_tbl := fun h hg => x_tb (List.mem_append_right _ (show _ ∈ tables_1 from (List.mem_append_right _ (List.mem_append_right _ (List.mem_append_right _ (List.mem_append_right _ (List.mem_append_right _ (List.mem_append_right _ (List.mem_append_right _ (List.mem_append_right _ (List.mem_append_right _ (List.mem_append_right _ (List.mem_append_right _ (List.mem_append_right _ (List.mem_append_left _ h))))))))))))))) hg
theorem in_t14 : ∀ {w : Cond}, w ∈ tables_1_14 → goodWord w = true → w ∈ x_tbl := fun h hg => x_tb (List.mem_append_right _ (show _ ∈ tables_1 from (List.mem_append_right _ (List.mem_append_right _ (List.mem_append_right _ (List.mem_append_right _ (List.mem_append_right _ (List.mem_append_right _ (List.mem_append_right _ (List.mem_append_right _ (List.mem_append_right _ (List.mem_append_right _ (List.mem_append_right _ (List.mem_append_right _ (List.mem_append_right _ h))))))))))))))) hg
theorem in_s1 {q : MethodName × Nat} (h : q ∈ lw_privs_1) : Cond.selects q.1.cls q.1 q.1 ∈ x_tbl := x_tb (List.mem_append_left _ (List.mem_map.mpr ⟨q, (show q ∈ lw_privs from (List.mem_append_left _ h)), rfl⟩)) rfl
theorem in_s2 {q : MethodName × Nat} (h : q ∈ lw_privs_2) : Cond.selects q.1.cls q.1 q.1 ∈ x_tbl := x_tb (List.mem_append_left _ (List.mem_map.mpr ⟨q, (show q ∈ lw_privs from (List.mem_append_right _ (List.mem_append_left _ h))), rfl⟩)) rfl
theorem in_s3 {q : MethodName × Nat} (h : q ∈ lw_privs_3) : Cond.selects q.1.cls q.1 q.1 ∈ x_tbl := x_tb (List.mem_append_left _ (List.mem_map.mpr ⟨q, (show q ∈ lw_privs from (List.mem_append_right _ (List.mem_append_right _ (List.mem_append_left _ h)))), rfl⟩)) rfl
theorem in_s4 {q : MethodName × Nat} (h : q ∈ lw_privs_4) : Cond.selects q.1.cls q.1 q.1 ∈ x_tbl := x_tb (List.mem_append_left _ (List.mem_map.mpr ⟨q, (show q ∈ lw_privs from (List.mem_append_right _ (List.mem_append_right _ (List.mem_append_right _ (List.mem_append_left _ h))))), rfl⟩)) rfl
theorem in_s5 {q : MethodName × Nat} (h : q ∈ lw_privs_5) : Cond.selects q.1.cls q.1 q.1 ∈ x_tbl := x_tb (List.mem_append_left _ (List.mem_map.mpr ⟨q, (show q ∈ lw_privs from (List.mem_append_right _ (List.mem_append_right _ (List.mem_append_right _ (List.mem_append_right _ (List.mem_append_left _ h)))))), rfl⟩)) rfl
theorem in_s6 {q : MethodName × Nat} (h : q ∈ lw_privs_6) : Cond.selects q.1.cls q.1 q.1 ∈ x_tbl := x_tb (List.mem_append_left _ (List.mem_map.mpr ⟨q, (show q ∈ lw_privs from (List.mem_append_right _ (List.mem_append_right _ (List.mem_append_right _ (List.mem_append_right _ (List.mem_append_right _ (List.mem_append_left _ h))))))), rfl⟩)) rfl
theorem in_s7 {q : MethodName × Nat} (h : q ∈ lw_privs_7) : Cond.selects q.1.cls q.1 q.1 ∈ x_tbl := x_tb (List.mem_append_left _ (List.mem_map.mpr ⟨q, (show q ∈ lw_privs from (List.mem_append_right _ (List.mem_append_right _ (List.mem_append_right _ (List.mem_append_right _ (List.mem_append_right _ (List.mem_append_right _ (List.mem_append_left _ h)))))))), rfl⟩)) rfl
theorem in_s8 {q : MethodName × Nat} (h : q ∈ lw_privs_8) : Cond.selects q.1.cls q.1 q.1 ∈ x_tbl := x_tb (List.mem_append_left _ (List.mem_map.mpr ⟨q, (show q ∈ lw_privs from (List.mem_append_right _ (List.mem_append_right _ (List.mem_append_right _ (List.mem_append_right _ (List.mem_append_right _ (List.mem_append_right _ (List.mem_append_right _ (List.mem_append_left _ h))))))))), rfl⟩)) rfl
theorem in_s9 {q : MethodName × Nat} (h : q ∈ lw_privs_9) : Cond.selects q.1.cls q.1 q.1 ∈ x_tbl := x_tb (List.mem_append_left _ (List.mem_map.mpr ⟨q, (show q ∈ lw_privs from (List.mem_append_right _ (List.mem_append_right _ (List.mem_append_right _ (List.mem_append_right _ (List.mem_append_right _ (List.mem_append_right _ (List.mem_append_right _ (List.mem_append_right _ (List.mem_append_left _ h)))))))))), rfl⟩)) rfl
theorem in_s10 {q : MethodName × Nat} (h : q ∈ lw_privs_10) : Cond.selects q.1.cls q.1 q.1 ∈ x_tbl := x_tb (List.mem_append_left _ (List.mem_map.mpr ⟨q, (show q ∈ lw_privs from (List.mem_append_right _ (List.mem_append_right _ (List.mem_append_right _ (List.mem_append_right _ (List.mem_append_right _ (List.mem_append_right _ (List.mem_append_right _ (List.mem_append_right _ (List.mem_append_right _ (List.mem_append_left _ h))))))))))), rfl⟩)) rfl
theorem in_s11 {q : MethodName × Nat} (h : q ∈ lw_privs_11) : Cond.selects q.1.cls q.1 q.1 ∈ x_tbl := x_tb (List.mem_append_left _ (List.mem_map.mpr ⟨q, (show q ∈ lw_privs from (List.mem_append_right _ (List.mem_append_right _ (List.mem_append_right _ (List.mem_append_right _ (List.mem_append_right _ (List.mem_append_right _ (List.mem_append_right _ (List.mem_append_right _ (List.mem_append_right _ (List.mem_append_right _ (List.mem_append_left _ h)))))))))))), rfl⟩)) rfl
theorem in_s12 {q : MethodName × Nat} (h : q ∈ lw_privs_12) : Cond.selects q.1.cls q.1 q.1 ∈ x_tbl := x_tb (List.mem_append_left _ (List.mem_map.mpr ⟨q, (show q ∈ lw_privs from (List.mem_append_right _ (List.mem_append_right _ (List.mem_append_right _ (List.mem_append_right _ (List.mem_append_right _ (List.mem_append_right _ (List.mem_append_right _ (List.mem_append_right _ (List.mem_append_right _ (List.mem_append_right _ (List.mem_append_right _ (List.mem_append_left _ h))))))))))))), rfl⟩)) rfl
theorem in_s13 {q : MethodName × Nat} (h : q ∈ lw_privs_13) : Cond.selects q.1.cls q.1 q.1 ∈ x_tbl := x_tb (List.mem_append_left _ (List.mem_map.mpr ⟨q, (show q ∈ lw_privs from (List.mem_append_right _ (List.mem_append_right _ (List.mem_append_right _ (List.mem_append_right _ (List.mem_append_right _ (List.mem_append_right _ (List.mem_append_right _ (List.mem_append_right _ (List.mem_append_right _ (List.mem_append_right _ (List.mem_append_right _ (List.mem_append_right _ (List.mem_append_left _ h)))))))))))))), rfl⟩)) rfl
theorem in_s14 {q : MethodName × Nat} (h : q ∈ lw_privs_14) : Cond.selects q.1.cls q.1 q.1 ∈ x_tbl := x_tb (List.mem_append_left _ (List.mem_map.mpr ⟨q, (show q ∈ lw_privs from (List.mem_append_right _ (List.mem_append_right _ (List.mem_append_right _ (List.mem_append_right _ (List.mem_append_right _ (List.mem_append_right _ (List.mem_append_right _ (List.mem_append_right _ (List.mem_append_right _ (List.mem_append_right _ (List.mem_append_right _ (List.mem_append_right _ (List.mem_append_right _ (List.mem_append_left _ h))))))))))))))), rfl⟩)) rfl
theorem in_s15 {q : MethodName × Nat} (h : q ∈ lw_privs_15) : Cond.selects q.1.cls q.1 q.1 ∈ x_tbl := x_tb (List.mem_append_left _ (List.mem_map.mpr ⟨q, (show q ∈ lw_privs from (List.mem_append_right _ (List.mem_append_right _ (List.mem_append_right _ (List.mem_append_right _ (List.mem_append_right _ (List.mem_append_right _ (List.mem_append_right _ (List.mem_append_right _ (List.mem_append_right _ (List.mem_append_right _ (List.mem_append_right _ (List.mem_append_right _ (List.mem_append_right _ (List.mem_append_right _ h))))))))))))))), rfl⟩)) rfl
set_option maxRecDepth 20000 in
theorem in_X0 : ∀ w ∈ u_ws RX0 TX0 20, w ∈ x_tbl := fun w h => x_tb (x_places [669, 671, 673, 675, 677, 679, 681, 683, 685, 687, 689, 691, 693, 695, 697, 699, 701, 703, 705, 707] (by decide +kernel) w h) (List.all_eq_true.mp (show (u_ws RX0 TX0 20).all goodWord = true by decide +kernel) w h)
set_option maxRecDepth 20000 in
theorem in_X1 : ∀ w ∈ u_ws RX1 TX1 5, w ∈ x_tbl := fun w h => x_tb (x_places [279, 281, 283, 285, 287] (by decide +kernel) w h) (List.all_eq_true.mp (show (u_ws RX1 TX1 5).all goodWord = true by decide +kernel) w h)
set_option maxRecDepth 20000 in
theorem in_X2 : ∀ w ∈ u_ws RX2 TX2 15, w ∈ x_tbl := fun w h => x_tb (x_places [507, 509, 511, 513, 515, 517, 519, 521, 523, 525, 527, 529, 531, 533, 535] (by decide +kernel) w h) (List.all_eq_true.mp (show (u_ws RX2 TX2 15).all goodWord = true by decide +kernel) w h)
set_option maxRecDepth 20000 in
theorem in_X3 : ∀ w ∈ u_ws RX3 TX3 12, w ∈ x_tbl := fun w h => x_tb (x_places [812, 814, 816, 818, 820, 822, 824, 826, 828, 830, 832, 834] (by decide +kernel) w h) (List.all_eq_true.mp (show (u_ws RX3 TX3 12).all goodWord = true by decide +kernel) w h)
set_option maxRecDepth 20000 in
theorem in_X4 : ∀ w ∈ u_ws RX4 TX4 20, w ∈ x_tbl := fun w h => x_tb (x_places [431, 433, 435, 437, 439, 441, 443, 445, 447, 449, 451, 453, 455, 457, 459, 461, 463, 465, 467, 469] (by decide +kernel) w h) (List.all_eq_true.mp (show (u_ws RX4 TX4 20).all goodWord = true by decide +kernel) w h)
set_option maxRecDepth 20000 in
theorem in_X5 : ∀ w ∈ u_ws RX5 TX5 12, w ∈ x_tbl := fun w h => x_tb (x_places [585, 587, 589, 591, 593, 595, 597, 599, 601, 603, 605, 607] (by decide +kernel) w h) (List.all_eq_true.mp (show (u_ws RX5 TX5 12).all goodWord = true by decide +kernel) w h)
set_option maxRecDepth 20000 in
theorem in_X6 : ∀ w ∈ u_ws RX6 TX6 13, w ∈ x_tbl := fun w h => x_tb (x_places [918, 920, 922, 924, 926, 928, 930, 932, 934, 936, 938, 940, 942] (by decide +kernel) w h) (List.all_eq_true.mp (show (u_ws RX6 TX6 13).all goodWord = true by decide +kernel) w h)
set_option maxRecDepth 20000 in
theorem in_X7 : ∀ w ∈ u_ws RX7 TX7 8, w ∈ x_tbl := fun w h => x_tb (x_places [375, 377, 379, 381, 383, 385, 387, 389] (by decide +kernel) w h) (List.all_eq_true.mp (show (u_ws RX7 TX7 8).all goodWord = true by decide +kernel) w h)
set_option maxRecDepth 20000 in
theorem in_X8 : ∀ w ∈ u_ws RX8 TX8 17, w ∈ x_tbl := fun w h => x_tb (x_places [312, 314, 316, 318, 320, 322, 324, 326, 328, 330, 332, 334, 336, 338, 340, 342, 344] (by decide +kernel) w h) (List.all_eq_true.mp (show (u_ws RX8 TX8 17).all goodWord = true by decide +kernel) w h)
set_option maxRecDepth 20000 in
theorem in_X9 : ∀ w ∈ u_ws RX9 TX9 17, w ∈ x_tbl := fun w h => x_tb (x_places [863, 865, 867, 869, 871, 873, 875, 877, 879, 881, 883, 885, 887, 889, 891, 893, 895] (by decide +kernel) w h) (List.all_eq_true.mp (show (u_ws RX9 TX9 17).all goodWord = true by decide +kernel) w h)
set_option maxRecDepth 20000 in
theorem in_X10 : ∀ w ∈ u_ws RX10 TX10 21, w ∈ x_tbl := fun w h => x_tb (x_places [751, 753, 755, 757, 759, 761, 763, 765, 767, 769, 771, 773, 775, 777, 779, 781, 783, 785, 787, 789, 791] (by decide +kernel) w h) (List.all_eq_true.mp (show (u_ws RX10 TX10 21).all goodWord = true by decide +kernel) w h)
set_option maxRecDepth 20000 in
theorem in_X11 : ∀ w ∈ u_ws RX11 TX11 15, w ∈ x_tbl := fun w h => x_tb (x_places [1069, 1071, 1073, 1075, 1077, 1079, 1081, 1083, 1085, 1087, 1089, 1091, 1093, 1095, 1097] (by decide +kernel) w h) (List.all_eq_true.mp (show (u_ws RX11 TX11 15).all goodWord = true by decide +kernel) w h)
set_option maxRecDepth 20000 in
theorem in_X12 : ∀ w ∈ u_ws RX12 TX12 119, w ∈ x_tbl := fun w h => x_tb (x_places [2380, 2382, 2384, 2386, 2388, 2390, 2392, 2394, 2396, 2398, 2400, 2402, 2404, 2406, 2408, 2410, 2412, 2414, 2416, 2418, 2420, 2422, 2424, 2426, 2428, 2430, 2432, 2434, 2436, 2438, 2440, 2442, 2444, 2446, 2448, 2450, 2452, 2454, 2456, 2458, 2460, 2462, 2464, 2466, 2468, 2470, 2472, 2474, 2476, 2478, 2480, 2482, 2484, 2486, 2488, 2490, 2492, 2494, 2496, 2498, 2500, 2502, 2504, 2506, 2508, 2510, 2512, 2514, 2516, 2518, 2520, 2522, 2524, 2526, 2528, 2530, 2532, 2534, 2536, 2538, 2540, 2542, 2544, 2546, 2548, 2550, 2552, 2554, 2556, 2558, 2560, 2562, 2564, 2566, 2568, 2570, 2572, 2574, 2576, 2578, 2580, 2582, 2584, 2586, 2588, 2590, 2592, 2594, 2596, 2598, 2600, 2602, 2604, 2606, 2608, 2610, 2612, 2614, 2616] (by decide +kernel) w h) (List.all_eq_true.mp (show (u_ws RX12 TX12 119).all goodWord = true by decide +kernel) w h)
end
section
noncomputable section
/-! the machine with exact numbers: cells that stand (none is made any more), their contents as a function of cell and place -/
/-- (0, n) an int, (1, j) the cell j, (2, 0) null, (4, n) a long -/
abbrev eV : Type := Nat × Int
abbrev eW : Type := Nat → Nat → Int
abbrev eL : Type := List (Nat × eV)
/-- pc, locals, stack, contents -/
abbrev eS : Type := Nat × eL × List eV × eW
/-- of a cell: 0 an object, 1 ints, 2 bytes, 3 booleans, 5 references to objects, 6 to arrays of ints; class; length -/
abbrev eY : Type := Nat × Nat × Nat
def e_rel (ad : List Nat) (x : eV) (v : Value) : Prop := match x.1 with
  | 0 => ∃ n : Int32, v = .int n ∧ n.toInt = x.2
  | 1 => ∃ a, ad[x.2.toNat]? = some a ∧ v = .ref a
  | 2 => v = .null
  | 4 => ∃ n : Int64, v = .long n ∧ n.toInt = x.2
  | _ => False
def e_ty (x : eV) : Nat := match x.1 with
  | 0 => 0
  | 4 => 1
  | _ => 2
theorem e_ty_ok {ad : List Nat} {x : eV} {v : Value} (h : e_rel ad x v) : x_kd (e_ty x) v := by
  obtain ⟨t, a⟩ := x
  unfold e_rel at h
  unfold e_ty
  split at h
  · rename_i h0; simp only at h0; subst h0; exact ⟨_, h.choose_spec.1⟩
  · rename_i h0; simp only at h0; subst h0; exact Or.inr ⟨_, h.choose_spec.2⟩
  · rename_i h0; simp only at h0; subst h0; exact Or.inl h
  · rename_i h0; simp only at h0; subst h0; exact ⟨_, h.choose_spec.1⟩
  · exact h.elim
theorem e_int {ad : List Nat} {n : Int} {v : Value} (h : e_rel ad (0, n) v) : ∃ z : Int32, v = .int z ∧ z.toInt = n := h
theorem e_long {ad : List Nat} {n : Int} {v : Value} (h : e_rel ad (4, n) v) : ∃ z : Int64, v = .long z ∧ z.toInt = n := h
/-- what a slot holds: fk 0 a number, 1 a reference (-1: null) -/
def e_slot (ad : List Nat) (fk : Nat) (z : Int) (v : Value) : Prop := match fk with
  | 0 => ∃ n : Int32, v = .int n ∧ n.toInt = z
  | _ => (z = -1 ∧ v = .null) ∨ (0 ≤ z ∧ ∃ a, ad[z.toNat]? = some a ∧ v = .ref a)
/-- a slot read -/
def e_rd (fk : Nat) (z : Int) : eV := match fk with
  | 0 => (0, z)
  | _ => bif decide (z = -1) then (2, 0) else (1, z)
theorem e_rd_ok {ad : List Nat} {fk : Nat} {z : Int} {v : Value} (h : e_slot ad fk z v) : e_rel ad (e_rd fk z) v := by
  unfold e_slot at h
  unfold e_rd
  split at h
  · exact h
  · rcases h with ⟨rfl, rfl⟩ | ⟨h0, a, h1, rfl⟩
    · exact rfl
    · have e : decide (z = -1) = false := decide_eq_false (by omega)
      rw [e]
      exact ⟨a, h1, rfl⟩
/-- what is written -/
def e_wr (fk : Nat) (x : eV) : Option Int := match fk, x with
  | 0, (0, n) => some n
  | 1, (2, _) => some (-1)
  | 1, (1, j) => bif decide (0 ≤ j) then some j else none
  | _, _ => none
theorem e_wr_ok {ad : List Nat} {fk : Nat} {x : eV} {z : Int} {v : Value} (h : e_wr fk x = some z) (hr : e_rel ad x v) : e_slot ad fk z v := by
  unfold e_wr at h
  split at h
  · cases h; exact hr
  · cases h; exact Or.inl ⟨rfl, hr⟩
  · rename_i j
    cases hb : decide (0 ≤ j) with
    | false => rw [hb] at h; cases h
    | true =>
      rw [hb] at h
      cases h
      obtain ⟨a, h1, h2⟩ := hr
      exact Or.inr ⟨by simpa using hb, a, h1, h2⟩
  · cases h
/-- a cell -/
def e_cell (ft : Nat → Nat → Nat) (cl : List vw_C) (ad : List Nat) (tys : List (ClassId × FieldType)) (y : eY) (g : Nat → Int) (e : va_E) : Prop := match y.1 with
  | 0 => ∃ fs : List Value, e = .inr (y.2.1, fs) ∧ fs.length = y.2.2 ∧ ∀ k, k < y.2.2 → ∃ v, fs[k]? = some v ∧ e_slot ad (ft y.2.1 k) (g k) v
  | 1 => ∃ (t0 : Nat) (cA : ClassId) (f : Nat → Int32), tys[t0]? = some (cA, .int) ∧ e = .inl (cA, y.2.2, .inl f) ∧ y.2.2 < 2147483648 ∧ ∀ k, k < y.2.2 → (f k).toInt = g k
  | 2 => ∃ (t0 : Nat) (cA : ClassId) (f : Nat → Int32), tys[t0]? = some (cA, .byte) ∧ e = .inl (cA, y.2.2, .inl f) ∧ y.2.2 < 2147483648 ∧ ∀ k, k < y.2.2 → (f k).toInt = g k
  | 3 => ∃ (t0 : Nat) (cA : ClassId) (f : Nat → Int32), tys[t0]? = some (cA, .boolean) ∧ e = .inl (cA, y.2.2, .inl f) ∧ y.2.2 < 2147483648 ∧ ∀ k, k < y.2.2 → (f k).toInt = g k
  | 5 => ∃ (t0 : Nat) (cA : ClassId) (r : vw_C) (f : Nat → Option Nat), cl[y.2.1]? = some r ∧ tys[t0]? = some (cA, .object r.1) ∧ e = .inl (cA, y.2.2, .inr (.inr (.inr (.inr f)))) ∧ y.2.2 < 2147483648 ∧ ∀ k, k < y.2.2 → e_slot ad 1 (g k) (va_rf (f k))
  | 6 => ∃ (t0 : Nat) (cA : ClassId) (f : Nat → Option Nat), tys[t0]? = some (cA, .array .int) ∧ e = .inl (cA, y.2.2, .inr (.inr (.inr (.inr f)))) ∧ y.2.2 < 2147483648 ∧ ∀ k, k < y.2.2 → e_slot ad 1 (g k) (va_rf (f k))
  | _ => False
/-- the contents w, but z at the place k of the cell j -/
def e_up (w : eW) (j k : Nat) (z : Int) : eW := fun j' k' => bif Nat.beq j' j then (bif Nat.beq k' k then z else w j' k') else w j' k'
theorem e_up_eq (w : eW) (j k : Nat) (z : Int) : e_up w j k z j k = z := by simp [e_up]
theorem e_up_ne (w : eW) {j k j' k' : Nat} (z : Int) (h : j' ≠ j ∨ k' ≠ k) : e_up w j k z j' k' = w j' k' := by
  unfold e_up
  rcases h with h | h
  · rw [x_nb h]; rfl
  · cases Nat.beq j' j with
    | true => rw [x_nb h]; rfl
    | false => rfl
def e_world (ft : Nat → Nat → Nat) (cl : List vw_C) (lay : List eY) (ad : List Nat) (tys : List (ClassId × FieldType)) (w : eW) (ws : va_W) : Prop := ws.map Prod.fst = ad ∧ lay.length = ws.length ∧ ∀ (k : Nat) (y : eY) (q : Nat × va_E), lay[k]? = some y → ws[k]? = some q → e_cell ft cl ad tys y (w k) q.2
theorem e_world_set {ft : Nat → Nat → Nat} {cl : List vw_C} {lay : List eY} {ad : List Nat} {tys : List (ClassId × FieldType)} {w : eW} {ws : va_W} {j k a : Nat} {z : Int} {e0 e : va_E} {y : eY} (h : e_world ft cl lay ad tys w ws) (hy : lay[j]? = some y) (hk : ws[j]? = some (a, e0)) (hx : e_cell ft cl ad tys y (e_up w j k z j) e) : e_world ft cl lay ad tys (e_up w j k z) (ws.set j (a, e)) := by
  refine ⟨by rw [x_fst_set hk]; exact h.1, by rw [List.length_set]; exact h.2.1, fun i y' q hy' hq => ?_⟩
  rw [List.getElem?_set] at hq
  by_cases hij : j = i
  · subst hij
    rw [if_pos rfl] at hq
    rw [hy] at hy'
    cases hy'
    split at hq
    · cases hq; exact hx
    · cases hq
  · rw [if_neg hij] at hq
    have e9 : e_up w j k z i = w i := funext fun k' => e_up_ne w z (Or.inl (Ne.symm hij))
    rw [e9]
    exact h.2.2 i y' q hy' hq
theorem e_ref {ft : Nat → Nat → Nat} {cl : List vw_C} {lay : List eY} {ad : List Nat} {tys : List (ClassId × FieldType)} {w : eW} {ws : va_W} {j : Int} {v : Value} {y : eY} (h : e_world ft cl lay ad tys w ws) (hr : e_rel ad (1, j) v) (hy : lay[j.toNat]? = some y) : ∃ a e, ws[j.toNat]? = some (a, e) ∧ v = .ref a ∧ e_cell ft cl ad tys y (w j.toNat) e := by
  obtain ⟨a, h1, h2⟩ := hr
  rw [← h.1] at h1
  simp only [List.getElem?_map, Option.map_eq_some_iff] at h1
  obtain ⟨q, hq, rfl⟩ := h1
  exact ⟨q.1, q.2, hq, h2, h.2.2 _ y q hy hq⟩
def e_In (ft : Nat → Nat → Nat) (cl : List vw_C) (lay : List eY) (ad : List Nat) (nL : Nat) (s : State) (D : va_G) (A : Nat → Prop) (H0 : Heap) (t : eS) (ls : Array Slot) (stk : List Value) (H : Heap) (locs : List Loc) : Prop :=
  ∃ (lv : List (Nat × Value)) (ws : va_W) (tys : List (ClassId × FieldType)), lv_has ls nL lv ∧ x_all2 (fun a q => a.1 = q.1 ∧ e_rel ad a.2 q.2) t.2.1 lv ∧ x_all2 (e_rel ad) t.2.2.1 stk ∧
    e_world ft cl lay ad tys t.2.2.2 ws ∧ va_K D cl tys s ∧ va_P D cl ws H ∧ va_D A ws ∧ va_S A H0 H locs
def e_Good (ft : Nat → Nat → Nat) (cl : List vw_C) (lay : List eY) (ad : List Nat) (ce sl nL : Nat) (p : Program) (l : Launch) (e : Env) (R : Room) (s : State) (m : MethodId) (args : Array Value) (below : List Frame) (meth : Method) (c : Code) (D : va_G) (A : Nat → Prop) (H0 : Heap) (Q : State → Prop) (t : eS) : Prop :=
  ∀ (ls : Array Slot) (stk : List Value) (H : Heap) (locs : List Loc), e_In ft cl lay ad nL s D A H0 t ls stk H locs → W p l e R s m args below meth c H locs ce sl Q (F0 m t.1 ls stk)
/-- one instruction, exactly: the next state, or two of which a test decides -/
def e_Snd (ft : Nat → Nat → Nat) (cl : List vw_C) (lay : List eY) (cc : ByteArray) (own : String) (nL : Nat) (nm : String) (MC MS : Nat) (pc : Nat) (f : eS → Option eS) : Prop :=
  ∀ {ad : List Nat} {ce sl : Nat} {p : Program} {l : Launch} {e : Env} {R : Room} {s : State} {m : MethodId} {args : Array Value} {below : List Frame} {meth : Method} {c : Code} {D : va_G} {A : Nat → Prop} {H0 : Heap} {Q : State → Prop},
    x_Cx cc own nL nm MC MS p R s m args meth c → ce ≤ MC → sl ≤ MS → (∀ q : Nat, H0.size ≤ q → A q) → ∀ (t t' : eS), t.1 = pc → f t = some t' → e_Good ft cl lay ad ce sl nL p l e R s m args below meth c D A H0 Q t' → e_Good ft cl lay ad ce sl nL p l e R s m args below meth c D A H0 Q t
def e_find (l : eL) (i : Nat) : Option eV := List.rec (motive := fun _ => Option eV) none (fun q _ ih => Bool.rec (motive := fun _ => Option eV) ih (some q.2) (Nat.beq q.1 i)) l
theorem e_find_cons (q : Nat × eV) (r : eL) (i : Nat) : e_find (q :: r) i = bif Nat.beq q.1 i then some q.2 else e_find r i := by
  unfold e_find
  cases h : Nat.beq q.1 i with
  | true => simp [h]
  | false => simp [h]
theorem e_find_ok {ad : List Nat} {i : Nat} {x : eV} : ∀ {al : eL} {lv : List (Nat × Value)}, x_all2 (fun a q => a.1 = q.1 ∧ e_rel ad a.2 q.2) al lv → e_find al i = some x → ∃ (k : Nat) (v : Value), lv[k]? = some (i, v) ∧ e_rel ad x v
  | [], [], _, h => by cases h
  | a :: al, q :: lv, h, hf => by
    rw [e_find_cons] at hf
    cases hb : Nat.beq a.1 i with
    | true =>
      rw [hb] at hf
      have e : a.1 = i := Nat.eq_of_beq_eq_true hb
      cases hf
      exact ⟨0, q.2, by simp [← e, h.1.1], h.1.2⟩
    | false =>
      rw [hb] at hf
      obtain ⟨k, v, h1, h2⟩ := e_find_ok h.2 hf
      exact ⟨k + 1, v, by simpa using h1, h2⟩
  | [], _ :: _, h, _ => h.elim
  | _ :: _, [], h, _ => h.elim
def e_flt (ty i : Nat) (q : Nat × eV) : Bool := bif Nat.beq ty 1 then !(Nat.beq q.1 i) && (!(Nat.beq q.1 (i + 1)) && !(Nat.beq (q.1 + 1) i && Nat.beq (e_ty q.2) 1)) else !(Nat.beq q.1 i) && !(Nat.beq (q.1 + 1) i && Nat.beq (e_ty q.2) 1)
theorem e_flt_eq {ad : List Nat} {ty i : Nat} (a : Nat × eV) (q : Nat × Value) (h : a.1 = q.1 ∧ e_rel ad a.2 q.2) : e_flt ty i a = x_fltV ty i q := by
  have e : Nat.beq (e_ty a.2) 1 = (q.2.category == 2) := by
    rw [x_kd_cat (e_ty_ok h.2)]
    by_cases h1 : e_ty a.2 = 1
    · rw [h1]; rfl
    · rw [if_neg h1, x_nb h1]; rfl
  unfold e_flt x_fltV
  rw [h.1, e]
  simp only [x_bb]
/-- plain ones -/
def ei_push (x : eV) (nx : Nat) : eS → Option eS := fun t => some (nx, t.2.1, x :: t.2.2.1, t.2.2.2)
def ei_load (i ty nx : Nat) : eS → Option eS := fun t => match e_find t.2.1 i with
  | some x => bif Nat.beq (e_ty x) ty then some (nx, t.2.1, x :: t.2.2.1, t.2.2.2) else none
  | none => none
def ei_stor (i ty nx : Nat) : eS → Option eS := fun t => match t.2.2.1 with
  | x :: r => bif Nat.beq (e_ty x) ty then some (nx, (i, x) :: t.2.1.filter (e_flt ty i), r, t.2.2.2) else none
  | [] => none
def ei_goto (nx : Nat) : eS → Option eS := fun t => some (nx, t.2)
def e32 (z : Int) : Int := z.bmod 4294967296
def e64 (z : Int) : Int := z.bmod 18446744073709551616
/-- two ints, an int comes -/
def ei_bin (F : Int → Int → Option Int) (nx : Nat) : eS → Option eS := fun t => match t.2.2.1 with
  | (0, y) :: (0, x) :: r => match F x y with
    | some z => some (nx, t.2.1, (0, z) :: r, t.2.2.2)
    | none => none
  | _ => none
def ei_un (F : Int → eV) (nx : Nat) : eS → Option eS := fun t => match t.2.2.1 with
  | (0, x) :: r => some (nx, t.2.1, F x :: r, t.2.2.2)
  | _ => none
def ei_binL (F : Int → Int → Option eV) (nx : Nat) : eS → Option eS := fun t => match t.2.2.1 with
  | (4, y) :: (4, x) :: r => match F x y with
    | some z => some (nx, t.2.1, z :: r, t.2.2.2)
    | none => none
  | _ => none
def ei_shL (F : Int → Int → Option Int) (nx : Nat) : eS → Option eS := fun t => match t.2.2.1 with
  | (0, y) :: (4, x) :: r => match F x y with
    | some z => some (nx, t.2.1, (4, z) :: r, t.2.2.2)
    | none => none
  | _ => none
def ei_unL (F : Int → eV) (nx : Nat) : eS → Option eS := fun t => match t.2.2.1 with
  | (4, x) :: r => some (nx, t.2.1, F x :: r, t.2.2.2)
  | _ => none
def ei_inc (i : Nat) (n : Int) (nx : Nat) : eS → Option eS := fun t => match e_find t.2.1 i with
  | some (0, x) => some (nx, (i, (0, e32 (x + n))) :: t.2.1.filter (e_flt 0 i), t.2.2.1, t.2.2.2)
  | _ => none
def e_cnd (k : Nat) (a b : Int) : Bool := match k with
  | 0 => decide (a = b)
  | 1 => decide (a ≠ b)
  | 2 => decide (a < b)
  | 3 => decide (b ≤ a)
  | 4 => decide (b < a)
  | _ => decide (a ≤ b)
theorem e_cnd_ok {k : Nat} {a b : Int} : e_cnd k a b = true ↔ x_cnd k a b := by
  unfold e_cnd x_cnd
  split <;> simp
def ei_if2 (k tg nx : Nat) : eS → Option eS := fun t => match t.2.2.1 with
  | (0, y) :: (0, x) :: r => some (bif e_cnd k x y then tg else nx, t.2.1, r, t.2.2.2)
  | _ => none
def ei_if1 (k tg nx : Nat) : eS → Option eS := fun t => match t.2.2.1 with
  | (0, x) :: r => some (bif e_cnd k x 0 then tg else nx, t.2.1, r, t.2.2.2)
  | _ => none
section E30
variable {ft : Nat → Nat → Nat} {cl : List vw_C} {lay : List eY} {cc : ByteArray} {own : String} {nL : Nat} {nm : String} {MC MS pc nx tg : Nat}
theorem ei_push_ok {x : eV} {v : Value} (hw : x_Psh cc own nL pc nx v) (hv : ∀ ad, e_rel ad x v) : e_Snd ft cl lay cc own nL nm MC MS pc (ei_push x nx) := by
  intro ad ce sl p l e R s m args below meth c D A H0 Q C hce hsl hA t t' hpc hf hg
  have hf' : some (nx, t.2.1, x :: t.2.2.1, t.2.2.2) = some t' := hf
  cases hf'
  subst hpc
  intro ls stk H locs ⟨lv, ws, tys, h1, h2, h3, h4⟩
  exact hw C.1 (hg ls (v :: stk) H locs ⟨lv, ws, tys, h1, h2, ⟨hv _, h3⟩, h4⟩)
theorem ei_load_ok {i ty : Nat} (hw : x_Ld cc own nL pc nx i ty) : e_Snd ft cl lay cc own nL nm MC MS pc (ei_load i ty nx) := by
  intro ad ce sl p l e R s m args below meth c D A H0 Q C hce hsl hA t t' hpc hf hg
  unfold ei_load at hf
  split at hf
  · rename_i x hx
    cases hb : Nat.beq (e_ty x) ty with
    | false => rw [hb] at hf; cases hf
    | true =>
      rw [hb] at hf
      cases hf
      subst hpc
      have e := Nat.eq_of_beq_eq_true hb
      intro ls stk H locs ⟨lv, ws, tys, h1, h2, h3, h4⟩
      obtain ⟨k, v, hk, hr⟩ := e_find_ok h2 hx
      exact hw C.1 (lv_at h1 k hk) (e ▸ e_ty_ok hr) (hg ls (v :: stk) H locs ⟨lv, ws, tys, h1, h2, ⟨hr, h3⟩, h4⟩)
  · cases hf
theorem ei_stor_ok {i ty : Nat} (hw : x_Sto cc own nL pc nx i ty) : e_Snd ft cl lay cc own nL nm MC MS pc (ei_stor i ty nx) := by
  intro ad ce sl p l e R s m args below meth c D A H0 Q C hce hsl hA t t' hpc hf hg
  unfold ei_stor at hf
  split at hf
  · rename_i x r hx
    cases hb : Nat.beq (e_ty x) ty with
    | false => rw [hb] at hf; cases hf
    | true =>
      rw [hb] at hf
      cases hf
      subst hpc
      have e := Nat.eq_of_beq_eq_true hb
      intro ls stk H locs ⟨lv, ws, tys, h1, h2, h3, h4⟩
      rw [hx] at h3
      match stk, h3 with
      | v :: rest, h3 =>
        exact hw C.1 h1 (e ▸ e_ty_ok h3.1) (fun ls' hl' => hg ls' rest H locs ⟨_, ws, tys, hl', ⟨⟨rfl, h3.1⟩, x_all2_filter h2 e_flt_eq⟩, h3.2, h4⟩)
  · cases hf
theorem ei_goto_ok (hw : x_Stk cc own nL pc nx [] []) : e_Snd ft cl lay cc own nL nm MC MS pc (ei_goto nx) := by
  intro ad ce sl p l e R s m args below meth c D A H0 Q C hce hsl hA t t' hpc hf hg
  have hf' : some (nx, t.2) = some t' := hf
  cases hf'
  subst hpc
  intro ls stk H locs h
  exact hw C.1 (hg ls stk H locs h)
theorem ei_bin_ok {F : Int → Int → Option Int} {g : Int32 → Int32 → Int32} (P : Int32 → Prop) (hw : ∀ x y, P y → x_Stk cc own nL pc nx [.int y, .int x] [.int (g x y)]) (hF : ∀ (x y : Int32) (z : Int), F x.toInt y.toInt = some z → P y ∧ (g x y).toInt = z) : e_Snd ft cl lay cc own nL nm MC MS pc (ei_bin F nx) := by
  intro ad ce sl p l e R s m args below meth c D A H0 Q C hce hsl hA t t' hpc hf hg
  unfold ei_bin at hf
  split at hf
  · rename_i y x r hst
    split at hf
    · rename_i z hz
      cases hf
      subst hpc
      intro ls stk H locs ⟨lv, ws, tys, h1, h2, h3, h4⟩
      rw [hst] at h3
      match stk, h3 with
      | v1 :: v2 :: rest, h3 =>
        obtain ⟨ny, rfl, rfl⟩ := e_int h3.1
        obtain ⟨nx', rfl, rfl⟩ := e_int h3.2.1
        obtain ⟨hP, hr⟩ := hF nx' ny z hz
        exact hw nx' ny hP C.1 (hg ls (.int (g nx' ny) :: rest) H locs ⟨lv, ws, tys, h1, h2, ⟨⟨_, rfl, hr⟩, h3.2.2⟩, h4⟩)
    · cases hf
  · cases hf
theorem ei_un_ok {F : Int → eV} {g : Int32 → Value} (hw : ∀ x, x_Stk cc own nL pc nx [.int x] [g x]) (hF : ∀ (x : Int32) ad, e_rel ad (F x.toInt) (g x)) : e_Snd ft cl lay cc own nL nm MC MS pc (ei_un F nx) := by
  intro ad ce sl p l e R s m args below meth c D A H0 Q C hce hsl hA t t' hpc hf hg
  unfold ei_un at hf
  split at hf
  · rename_i x r hst
    cases hf
    subst hpc
    intro ls stk H locs ⟨lv, ws, tys, h1, h2, h3, h4⟩
    rw [hst] at h3
    match stk, h3 with
    | v2 :: rest, h3 =>
      obtain ⟨nx', rfl, rfl⟩ := e_int h3.1
      exact hw nx' C.1 (hg ls (g nx' :: rest) H locs ⟨lv, ws, tys, h1, h2, ⟨hF nx' _, h3.2⟩, h4⟩)
  · cases hf
theorem ei_binL_ok {F : Int → Int → Option eV} {g : Int64 → Int64 → Value} (P : Int64 → Prop) (hw : ∀ x y, P y → x_Stk cc own nL pc nx [.long y, .long x] [g x y]) (hF : ∀ (x y : Int64) (z : eV), F x.toInt y.toInt = some z → P y ∧ ∀ ad, e_rel ad z (g x y)) : e_Snd ft cl lay cc own nL nm MC MS pc (ei_binL F nx) := by
  intro ad ce sl p l e R s m args below meth c D A H0 Q C hce hsl hA t t' hpc hf hg
  unfold ei_binL at hf
  split at hf
  · rename_i y x r hst
    split at hf
    · rename_i z hz
      cases hf
      subst hpc
      intro ls stk H locs ⟨lv, ws, tys, h1, h2, h3, h4⟩
      rw [hst] at h3
      match stk, h3 with
      | v1 :: v2 :: rest, h3 =>
        obtain ⟨ny, rfl, rfl⟩ := e_long h3.1
        obtain ⟨nx', rfl, rfl⟩ := e_long h3.2.1
        obtain ⟨hP, hr⟩ := hF nx' ny z hz
        exact hw nx' ny hP C.1 (hg ls (g nx' ny :: rest) H locs ⟨lv, ws, tys, h1, h2, ⟨hr _, h3.2.2⟩, h4⟩)
    · cases hf
  · cases hf
theorem ei_shL_ok {F : Int → Int → Option Int} {g : Int64 → Int32 → Int64} (hw : ∀ x y, x_Stk cc own nL pc nx [.int y, .long x] [.long (g x y)]) (hF : ∀ (x : Int64) (y : Int32) (z : Int), F x.toInt y.toInt = some z → (g x y).toInt = z) : e_Snd ft cl lay cc own nL nm MC MS pc (ei_shL F nx) := by
  intro ad ce sl p l e R s m args below meth c D A H0 Q C hce hsl hA t t' hpc hf hg
  unfold ei_shL at hf
  split at hf
  · rename_i y x r hst
    split at hf
    · rename_i z hz
      cases hf
      subst hpc
      intro ls stk H locs ⟨lv, ws, tys, h1, h2, h3, h4⟩
      rw [hst] at h3
      match stk, h3 with
      | v1 :: v2 :: rest, h3 =>
        obtain ⟨ny, rfl, rfl⟩ := e_int h3.1
        obtain ⟨nx', rfl, rfl⟩ := e_long h3.2.1
        exact hw nx' ny C.1 (hg ls (.long (g nx' ny) :: rest) H locs ⟨lv, ws, tys, h1, h2, ⟨⟨_, rfl, hF nx' ny z hz⟩, h3.2.2⟩, h4⟩)
    · cases hf
  · cases hf
theorem ei_unL_ok {F : Int → eV} {g : Int64 → Value} (hw : ∀ x, x_Stk cc own nL pc nx [.long x] [g x]) (hF : ∀ (x : Int64) ad, e_rel ad (F x.toInt) (g x)) : e_Snd ft cl lay cc own nL nm MC MS pc (ei_unL F nx) := by
  intro ad ce sl p l e R s m args below meth c D A H0 Q C hce hsl hA t t' hpc hf hg
  unfold ei_unL at hf
  split at hf
  · rename_i x r hst
    cases hf
    subst hpc
    intro ls stk H locs ⟨lv, ws, tys, h1, h2, h3, h4⟩
    rw [hst] at h3
    match stk, h3 with
    | v2 :: rest, h3 =>
      obtain ⟨nx', rfl, rfl⟩ := e_long h3.1
      exact hw nx' C.1 (hg ls (g nx' :: rest) H locs ⟨lv, ws, tys, h1, h2, ⟨hF nx' _, h3.2⟩, h4⟩)
  · cases hf
theorem ei_inc_ok {i : Nat} {n : Int} (hn : -2147483648 ≤ n ∧ n ≤ 2147483647) (hw : x_Inc cc own nL pc nx i n) : e_Snd ft cl lay cc own nL nm MC MS pc (ei_inc i n nx) := by
  intro ad ce sl p l e R s m args below meth c D A H0 Q C hce hsl hA t t' hpc hf hg
  unfold ei_inc at hf
  split at hf
  · rename_i x hx
    cases hf
    subst hpc
    intro ls stk H locs ⟨lv, ws, tys, h1, h2, h3, h4⟩
    obtain ⟨k, v, hk, hr⟩ := e_find_ok h2 hx
    obtain ⟨z, rfl, rfl⟩ := e_int hr
    have en : (z + Int32.ofInt n).toInt = e32 (z.toInt + n) := by
      rw [Int32.toInt_add]
      have : (Int32.ofInt n).toInt = n := Int32.toInt_ofInt_of_le (by omega) (by omega)
      rw [this]
      rfl
    exact hw C.1 h1 hk (fun ls' hl' => hg ls' stk H locs ⟨_, ws, tys, hl', ⟨⟨rfl, ⟨_, rfl, en⟩⟩, x_all2_filter h2 e_flt_eq⟩, h3, h4⟩)
  · cases hf
theorem ei_if2_ok {k : Nat} (hw : x_If2 cc own nL pc tg nx k) : e_Snd ft cl lay cc own nL nm MC MS pc (ei_if2 k tg nx) := by
  intro ad ce sl p l e R s m args below meth c D A H0 Q C hce hsl hA t t' hpc hf hg
  unfold ei_if2 at hf
  split at hf
  · rename_i y x r hst
    cases hf
    subst hpc
    intro ls stk H locs ⟨lv, ws, tys, h1, h2, h3, h4⟩
    rw [hst] at h3
    match stk, h3 with
    | v1 :: v2 :: rest, h3 =>
      obtain ⟨ny, rfl, rfl⟩ := e_int h3.1
      obtain ⟨nx', rfl, rfl⟩ := e_int h3.2.1
      have hgo := hg ls rest H locs ⟨lv, ws, tys, h1, h2, h3.2.2, h4⟩
      refine hw C.1 (fun hc => ?_) (fun hc => ?_)
      · rw [e_cnd_ok.mpr hc] at hgo
        exact hgo
      · have hb : e_cnd k nx'.toInt ny.toInt = false := by
          cases hb : e_cnd k nx'.toInt ny.toInt with
          | false => rfl
          | true => exact absurd (e_cnd_ok.mp hb) hc
        rw [hb] at hgo
        exact hgo
  · cases hf
theorem ei_if1_ok {k : Nat} (hw : x_If1 cc own nL pc tg nx k) : e_Snd ft cl lay cc own nL nm MC MS pc (ei_if1 k tg nx) := by
  intro ad ce sl p l e R s m args below meth c D A H0 Q C hce hsl hA t t' hpc hf hg
  unfold ei_if1 at hf
  split at hf
  · rename_i x r hst
    cases hf
    subst hpc
    intro ls stk H locs ⟨lv, ws, tys, h1, h2, h3, h4⟩
    rw [hst] at h3
    match stk, h3 with
    | v2 :: rest, h3 =>
      obtain ⟨nx', rfl, rfl⟩ := e_int h3.1
      have hgo := hg ls rest H locs ⟨lv, ws, tys, h1, h2, h3.2, h4⟩
      refine hw C.1 (fun hc => ?_) (fun hc => ?_)
      · rw [e_cnd_ok.mpr hc] at hgo
        exact hgo
      · have hb : e_cnd k nx'.toInt 0 = false := by
          cases hb : e_cnd k nx'.toInt 0 with
          | false => rfl
          | true => exact absurd (e_cnd_ok.mp hb) hc
        rw [hb] at hgo
        exact hgo
  · cases hf
end E30
end
end
section
noncomputable section
/-! exact: fields, arrays, switches, the stack -/
def ei_getf (ft : Nat → Nat → Nat) (lay : List eY) (ci k nx : Nat) : eS → Option eS := fun t => match t.2.2.1 with
  | (1, j) :: r => match lay[j.toNat]? with
    | some (0, c, n) => bif Nat.beq c ci && Nat.ble (k + 1) n then some (nx, t.2.1, e_rd (ft ci k) (t.2.2.2 j.toNat k) :: r, t.2.2.2) else none
    | _ => none
  | _ => none
/-- fk as in the rows of fields: 0 an int, 1 a boolean, 2 a reference -/
def e_pk (fk : Nat) (x : eV) : Bool := match fk with
  | 0 => Nat.beq (e_ty x) 0
  | 1 => Nat.beq x.1 0 && (decide (0 ≤ x.2) && decide (x.2 ≤ 1))
  | _ => Nat.beq (e_ty x) 2
theorem e_pk_ok {ad : List Nat} {fk : Nat} {x : eV} {v : Value} (hr : e_rel ad x v) (h : e_pk fk x = true) : x_pk fk v := by
  unfold e_pk at h
  unfold x_pk
  split at h
  · have hk := e_ty_ok hr
    rw [Nat.eq_of_beq_eq_true h] at hk
    exact hk
  · simp only [Bool.and_eq_true, decide_eq_true_eq] at h
    obtain ⟨t, a⟩ := x
    have e := Nat.eq_of_beq_eq_true h.1
    simp only at e
    subst e
    obtain ⟨n, rfl, hn⟩ := e_int hr
    simp only at h
    have h3 : n.toInt = 0 ∨ n.toInt = 1 := by omega
    rcases h3 with h3 | h3
    · left; rw [show n = 0 from Int32.toInt_inj.mp h3]
    · right; rw [show n = 1 from Int32.toInt_inj.mp h3]
  · rename_i n0 n1
    have hk := e_ty_ok hr
    rw [Nat.eq_of_beq_eq_true h] at hk
    split
    · exact (n0 rfl).elim
    · exact (n1 rfl).elim
    · exact hk
def ei_putf (ft : Nat → Nat → Nat) (lay : List eY) (ci k fk nx : Nat) : eS → Option eS := fun t => match t.2.2.1 with
  | x :: (1, j) :: r => match lay[j.toNat]?, e_wr (ft ci k) x with
    | some (0, c, n), some z => bif Nat.beq c ci && (Nat.ble (k + 1) n && e_pk fk x) then some (nx, t.2.1, r, e_up t.2.2.2 j.toNat k z) else none
    | _, _ => none
  | _ => none
def ei_ald (lay : List eY) (b : Bool) (nx : Nat) : eS → Option eS := fun t => match t.2.2.1 with
  | (0, i) :: (1, j) :: r => match lay[j.toNat]? with
    | some (kd, _, n) => bif x_akd b kd && (decide (0 ≤ i) && decide (i < n)) then some (nx, t.2.1, (0, t.2.2.2 j.toNat i.toNat) :: r, t.2.2.2) else none
    | _ => none
  | _ => none
def e_nar (kd : Nat) (z : Int) : Option Int := match kd with
  | 1 => some z
  | 2 => some (z.bmod 256)
  | _ => bif decide (0 ≤ z) && decide (z ≤ 1) then some z else none
theorem e_nar_ok {kd : Nat} {n : Int32} {z : Int} (h : e_nar kd n.toInt = some z) : (vp_nar (x_aty kd) n).toInt = z := by
  unfold e_nar at h
  unfold x_aty
  split at h
  · cases h; rfl
  · cases h
    show (vp_nar .byte n).toInt = _
    rw [vp_nar_byte, Int8.toInt_toInt32, Int32.toInt_toInt8]
  · rename_i n1 n2
    cases hb : (decide (0 ≤ n.toInt) && decide (n.toInt ≤ 1)) with
    | false => rw [hb] at h; cases h
    | true =>
      rw [hb] at h
      cases h
      simp only [Bool.and_eq_true, decide_eq_true_eq] at hb
      have e0 : vp_nar .boolean n = n &&& 1 := rfl
      split
      · exact (n1 rfl).elim
      · exact (n2 rfl).elim
      · rw [e0]
        have h3 : n.toInt = 0 ∨ n.toInt = 1 := by omega
        rcases h3 with h3 | h3
        · rw [show n = 0 from Int32.toInt_inj.mp h3]; decide
        · rw [show n = 1 from Int32.toInt_inj.mp h3]; decide
def ei_ast (lay : List eY) (b : Bool) (nx : Nat) : eS → Option eS := fun t => match t.2.2.1 with
  | (0, x) :: (0, i) :: (1, j) :: r => match lay[j.toNat]? with
    | some (kd, _, n) => match e_nar kd x with
      | some z => bif x_akd b kd && (decide (0 ≤ i) && decide (i < n)) then some (nx, t.2.1, r, e_up t.2.2.2 j.toNat i.toNat z) else none
      | none => none
    | _ => none
  | _ => none
def ei_aald (lay : List eY) (nx : Nat) : eS → Option eS := fun t => match t.2.2.1 with
  | (0, i) :: (1, j) :: r => match lay[j.toNat]? with
    | some (kd, _, n) => bif (Nat.beq kd 5 || Nat.beq kd 6) && (decide (0 ≤ i) && decide (i < n)) then some (nx, t.2.1, e_rd 1 (t.2.2.2 j.toNat i.toNat) :: r, t.2.2.2) else none
    | _ => none
  | _ => none
def ei_alen (lay : List eY) (nx : Nat) : eS → Option eS := fun t => match t.2.2.1 with
  | (1, j) :: r => match lay[j.toNat]? with
    | some (kd, _, n) => bif Nat.beq kd 0 then none else some (nx, t.2.1, (0, (n : Int)) :: r, t.2.2.2)
    | _ => none
  | _ => none
def e_arm (x : Int) : List (Int × Int × Nat) → Option Nat
  | [] => none
  | q :: r => bif decide (q.1 ≤ x) && decide (x ≤ q.2.1) then some q.2.2 else e_arm x r
def ei_sw (l : List (Int × Int × Nat)) : eS → Option eS := fun t => match t.2.2.1 with
  | (0, x) :: r => match e_arm x l with
    | some tg => some (tg, t.2.1, r, t.2.2.2)
    | none => none
  | _ => none
section E31
variable {ft : Nat → Nat → Nat} {cl : List vw_C} {lay : List eY} {cc : ByteArray} {own : String} {nL : Nat} {nm : String} {MC MS pc nx tg : Nat}
theorem ei_getf_ok {ci k : Nat} (hw : x_Gf cl cc own nL nm MC MS pc nx ci k) : e_Snd ft cl lay cc own nL nm MC MS pc (ei_getf ft lay ci k nx) := by
  intro ad ce sl p l e R s m args below meth c D A H0 Q C hce hsl hA t t' hpc hf hg
  unfold ei_getf at hf
  split at hf
  · rename_i j r hst
    split at hf
    · rename_i c' n hy
      cases hb : (Nat.beq c' ci && Nat.ble (k + 1) n) with
      | false => rw [hb] at hf; cases hf
      | true =>
        rw [hb] at hf
        cases hf
        subst hpc
        simp only [Bool.and_eq_true] at hb
        have e1 := Nat.eq_of_beq_eq_true hb.1
        have e2 := Nat.le_of_ble_eq_true hb.2
        subst e1
        intro ls stk H locs ⟨lv, ws, tys, h1, h2, h3, h4, h5, h6, h7, h8⟩
        rw [hst] at h3
        match stk, h3 with
        | v1 :: rest, h3 =>
          obtain ⟨a, ee, hq, rfl, hc⟩ := e_ref h4 h3.1 hy
          obtain ⟨fs, rfl, hl, hv⟩ := hc
          obtain ⟨v, hv1, hv2⟩ := hv k e2
          exact hw C h5 h6 hq hv1 (hg ls (v :: rest) H locs ⟨lv, ws, tys, h1, h2, ⟨e_rd_ok hv2, h3.2⟩, h4, h5, h6, h7, h8⟩)
    · cases hf
  · cases hf
theorem ei_putf_ok {ci k fk : Nat} (hw : x_Pf cl cc own nL nm MC MS pc nx ci k fk) : e_Snd ft cl lay cc own nL nm MC MS pc (ei_putf ft lay ci k fk nx) := by
  intro ad ce sl p l e R s m args below meth c D A H0 Q C hce hsl hA t t' hpc hf hg
  unfold ei_putf at hf
  split at hf
  · rename_i x j r hst
    split at hf
    · rename_i c' n z hy hz
      cases hb : (Nat.beq c' ci && (Nat.ble (k + 1) n && e_pk fk x)) with
      | false => rw [hb] at hf; cases hf
      | true =>
        rw [hb] at hf
        cases hf
        subst hpc
        simp only [Bool.and_eq_true] at hb
        have e1 := Nat.eq_of_beq_eq_true hb.1
        have e2 := Nat.le_of_ble_eq_true hb.2.1
        subst e1
        intro ls stk H locs ⟨lv, ws, tys, h1, h2, h3, h4, h5, h6, h7, h8⟩
        rw [hst] at h3
        match stk, h3 with
        | v0 :: v1 :: rest, h3 =>
          obtain ⟨a, ee, hq, rfl, hc⟩ := e_ref h4 h3.2.1 hy
          obtain ⟨fs, rfl, hl, hv⟩ := hc
          simp only at hl hv
          refine hw C h5 h6 h7 h8 hq (by rw [hl]; exact e2) (e_pk_ok h3.1 hb.2.2) (fun H1 locs1 hP hD hS => hg ls rest H1 locs1 ⟨lv, _, tys, h1, h2, h3.2.2, e_world_set (y := (0, c', n)) (z := z) (k := k) h4 hy hq ?_, h5, hP, hD, hS⟩)
          refine ⟨fs.set k v0, rfl, by rw [List.length_set]; exact hl, fun i hi => ?_⟩
          simp only at hi
          by_cases hik : i = k
          · subst hik
            exact ⟨v0, by rw [List.getElem?_set_self (by rw [hl]; exact hi)], by rw [e_up_eq]; exact e_wr_ok hz h3.1⟩
          · obtain ⟨v, g1, g2⟩ := hv i hi
            exact ⟨v, by rw [List.getElem?_set_ne (Ne.symm hik)]; exact g1, by rw [e_up_ne _ _ (Or.inr hik)]; exact g2⟩
    · cases hf
  · cases hf
theorem e_arr {ad : List Nat} {tys : List (ClassId × FieldType)} {b : Bool} {kd c n : Nat} {g : Nat → Int} {e : va_E} (hk : x_akd b kd = true) (h : e_cell ft cl ad tys (kd, c, n) g e) :
    ∃ (t0 : Nat) (cA : ClassId) (f : Nat → Int32), tys[t0]? = some (cA, x_aty kd) ∧ e = .inl (cA, n, .inl f) ∧ n < 2147483648 ∧ ∀ k, k < n → (f k).toInt = g k := by
  unfold x_akd at hk
  split at hk
  · have := Nat.eq_of_beq_eq_true hk
    subst this
    exact h
  · simp only [Bool.or_eq_true] at hk
    rcases hk with hk | hk
    · have := Nat.eq_of_beq_eq_true hk
      subst this
      exact h
    · have := Nat.eq_of_beq_eq_true hk
      subst this
      exact h
theorem e_cell_arr {ad : List Nat} {tys : List (ClassId × FieldType)} {b : Bool} {kd c n : Nat} {g : Nat → Int} {e : va_E} (hk : x_akd b kd = true)
    (h : ∃ (t0 : Nat) (cA : ClassId) (f : Nat → Int32), tys[t0]? = some (cA, x_aty kd) ∧ e = .inl (cA, n, .inl f) ∧ n < 2147483648 ∧ ∀ k, k < n → (f k).toInt = g k) : e_cell ft cl ad tys (kd, c, n) g e := by
  unfold x_akd at hk
  split at hk
  · have := Nat.eq_of_beq_eq_true hk
    subst this
    exact h
  · simp only [Bool.or_eq_true] at hk
    rcases hk with hk | hk
    · have := Nat.eq_of_beq_eq_true hk
      subst this
      exact h
    · have := Nat.eq_of_beq_eq_true hk
      subst this
      exact h
theorem e_ix {i : Int32} {n : Nat} (h0 : 0 ≤ i.toInt) (h1 : i.toInt < n) : vp_in i n ∧ i.toNatClampNeg < n ∧ i.toNatClampNeg = i.toInt.toNat := by
  have e : i.toNatClampNeg = i.toInt.toNat := rfl
  refine ⟨vp_in_iff.mpr ⟨by omega, by omega⟩, ?_, e⟩
  rw [e]; omega
theorem ei_ald_ok {b : Bool} (hw : ∀ kd, x_akd b kd = true → x_Al cl cc own nL nm MC MS pc nx (x_aty kd)) : e_Snd ft cl lay cc own nL nm MC MS pc (ei_ald lay b nx) := by
  intro ad ce sl p l e R s m args below meth c D A H0 Q C hce hsl hA t t' hpc hf hg
  unfold ei_ald at hf
  split at hf
  · rename_i i j r hst
    split at hf
    · rename_i kd c' n hy
      cases hb : (x_akd b kd && (decide (0 ≤ i) && decide (i < n))) with
      | false => rw [hb] at hf; cases hf
      | true =>
        rw [hb] at hf
        cases hf
        subst hpc
        simp only [Bool.and_eq_true, decide_eq_true_eq] at hb
        intro ls stk H locs ⟨lv, ws, tys, h1, h2, h3, h4, h5, h6, h7, h8⟩
        rw [hst] at h3
        match stk, h3 with
        | v1 :: v2 :: rest, h3 =>
          obtain ⟨ni, rfl, rfl⟩ := e_int h3.1
          obtain ⟨a, ee, hq, rfl, hc⟩ := e_ref h4 h3.2.1 hy
          obtain ⟨t0, cA, f, g1, rfl, g2, g3⟩ := e_arr hb.1 hc
          obtain ⟨k1, k2, k3⟩ := e_ix hb.2.1 hb.2.2
          exact hw kd hb.1 C h5 h6 hq g1 k1 (hg ls (.int (f ni.toNatClampNeg) :: rest) H locs ⟨lv, ws, tys, h1, h2, ⟨⟨_, rfl, by rw [← k3]; exact g3 _ k2⟩, h3.2.2⟩, h4, h5, h6, h7, h8⟩)
    · cases hf
  · cases hf
theorem ei_ast_ok {b : Bool} (hw : ∀ kd, x_akd b kd = true → x_As cl cc own nL nm MC MS pc nx (x_aty kd)) : e_Snd ft cl lay cc own nL nm MC MS pc (ei_ast lay b nx) := by
  intro ad ce sl p l e R s m args below meth c D A H0 Q C hce hsl hA t t' hpc hf hg
  unfold ei_ast at hf
  split at hf
  · rename_i x i j r hst
    split at hf
    · rename_i kd c' n hy
      split at hf
      · rename_i z hz
        cases hb : (x_akd b kd && (decide (0 ≤ i) && decide (i < n))) with
        | false => rw [hb] at hf; cases hf
        | true =>
          rw [hb] at hf
          cases hf
          subst hpc
          simp only [Bool.and_eq_true, decide_eq_true_eq] at hb
          intro ls stk H locs ⟨lv, ws, tys, h1, h2, h3, h4, h5, h6, h7, h8⟩
          rw [hst] at h3
          match stk, h3 with
          | v0 :: v1 :: v2 :: rest, h3 =>
            obtain ⟨nx', rfl, rfl⟩ := e_int h3.1
            obtain ⟨ni, rfl, rfl⟩ := e_int h3.2.1
            obtain ⟨a, ee, hq, rfl, hc⟩ := e_ref h4 h3.2.2.1 hy
            obtain ⟨t0, cA, f, g1, rfl, g2, g3⟩ := e_arr hb.1 hc
            obtain ⟨k1, k2, k3⟩ := e_ix hb.2.1 hb.2.2
            refine hw kd hb.1 C h5 h6 h7 h8 hq g1 k1 (fun H1 locs1 hP hD hS => hg ls rest H1 locs1 ⟨lv, _, tys, h1, h2, h3.2.2.2, e_world_set (y := (kd, c', n)) h4 hy hq (e_cell_arr hb.1 ⟨t0, cA, _, g1, rfl, g2, fun i' hi' => ?_⟩), h5, hP, hD, hS⟩)
            by_cases hik : i' = ni.toNatClampNeg
            · subst hik
              rw [← k3, e_up_eq]
              simp only [upd, if_pos]
              exact e_nar_ok hz
            · rw [e_up_ne _ _ (Or.inr (by rw [← k3]; exact hik))]
              simp only [upd, if_neg hik]
              exact g3 i' hi'
      · cases hf
    · cases hf
  · cases hf
theorem ei_aald_ok (hw : x_Aq cl cc own nL nm MC MS pc nx) : e_Snd ft cl lay cc own nL nm MC MS pc (ei_aald lay nx) := by
  intro ad ce sl p l e R s m args below meth c D A H0 Q C hce hsl hA t t' hpc hf hg
  unfold ei_aald at hf
  split at hf
  · rename_i i j r hst
    split at hf
    · rename_i kd c' n hy
      cases hb : ((Nat.beq kd 5 || Nat.beq kd 6) && (decide (0 ≤ i) && decide (i < n))) with
      | false => rw [hb] at hf; cases hf
      | true =>
        rw [hb] at hf
        cases hf
        subst hpc
        simp only [Bool.and_eq_true, decide_eq_true_eq, Bool.or_eq_true] at hb
        intro ls stk H locs ⟨lv, ws, tys, h1, h2, h3, h4, h5, h6, h7, h8⟩
        rw [hst] at h3
        match stk, h3 with
        | v1 :: v2 :: rest, h3 =>
          obtain ⟨ni, rfl, rfl⟩ := e_int h3.1
          obtain ⟨a, ee, hq, rfl, hc⟩ := e_ref h4 h3.2.1 hy
          obtain ⟨k1, k2, k3⟩ := e_ix hb.2.1 hb.2.2
          rcases hb.1 with hk | hk
          · have := Nat.eq_of_beq_eq_true hk
            subst this
            obtain ⟨t0, cA, r', f, g0, g1, rfl, g2, g3⟩ := hc
            exact hw C rfl h5 h6 hq g1 k1 (hg ls (va_rf (f ni.toNatClampNeg) :: rest) H locs ⟨lv, ws, tys, h1, h2, ⟨by rw [← k3]; exact e_rd_ok (g3 _ k2), h3.2.2⟩, h4, h5, h6, h7, h8⟩)
          · have := Nat.eq_of_beq_eq_true hk
            subst this
            obtain ⟨t0, cA, f, g1, rfl, g2, g3⟩ := hc
            exact hw C rfl h5 h6 hq g1 k1 (hg ls (va_rf (f ni.toNatClampNeg) :: rest) H locs ⟨lv, ws, tys, h1, h2, ⟨by rw [← k3]; exact e_rd_ok (g3 _ k2), h3.2.2⟩, h4, h5, h6, h7, h8⟩)
    · cases hf
  · cases hf
theorem ei_alen_ok (hw : x_Ln cl cc own nL nm MC MS pc nx) : e_Snd ft cl lay cc own nL nm MC MS pc (ei_alen lay nx) := by
  intro ad ce sl p l e R s m args below meth c D A H0 Q C hce hsl hA t t' hpc hf hg
  unfold ei_alen at hf
  split at hf
  · rename_i j r hst
    split at hf
    · rename_i kd c' n hy
      cases hb : Nat.beq kd 0 with
      | true => rw [hb] at hf; cases hf
      | false =>
        rw [hb] at hf
        cases hf
        subst hpc
        intro ls stk H locs ⟨lv, ws, tys, h1, h2, h3, h4, h5, h6, h7, h8⟩
        rw [hst] at h3
        match stk, h3 with
        | v2 :: rest, h3 =>
          obtain ⟨a, ee, hq, rfl, hc⟩ := e_ref h4 h3.1 hy
          have key : ∃ (t0 : Nat) (cA : ClassId) (x : vp_A) (ty : FieldType), tys[t0]? = some (cA, ty) ∧ ee = .inl (cA, x) ∧ x.1 = n ∧ n < 2147483648 := by
            unfold e_cell at hc
            split at hc
            · rename_i h0; simp only at h0; subst h0; cases hb
            · obtain ⟨t0, cA, f, g1, g2, g3, -⟩ := hc
              exact ⟨t0, cA, _, _, g1, g2, rfl, g3⟩
            · obtain ⟨t0, cA, f, g1, g2, g3, -⟩ := hc
              exact ⟨t0, cA, _, _, g1, g2, rfl, g3⟩
            · obtain ⟨t0, cA, f, g1, g2, g3, -⟩ := hc
              exact ⟨t0, cA, _, _, g1, g2, rfl, g3⟩
            · obtain ⟨t0, cA, r', f, -, g1, g2, g3, -⟩ := hc
              exact ⟨t0, cA, _, _, g1, g2, rfl, g3⟩
            · obtain ⟨t0, cA, f, g1, g2, g3, -⟩ := hc
              exact ⟨t0, cA, _, _, g1, g2, rfl, g3⟩
            · exact hc.elim
          obtain ⟨t0, cA, x, ty, g1, rfl, rfl, g3⟩ := key
          have e := nI_toInt g3
          exact hw C h5 h6 hq g1 (hg ls (.int (Int32.ofNat x.1) :: rest) H locs ⟨lv, ws, tys, h1, h2, ⟨⟨_, rfl, e⟩, h3.2⟩, h4, h5, h6, h7, h8⟩)
    · cases hf
  · cases hf
theorem e_arm_ok {x : Int} {tg : Nat} : ∀ {l : List (Int × Int × Nat)}, e_arm x l = some tg → ∃ q ∈ l, q.1 ≤ x ∧ x ≤ q.2.1 ∧ q.2.2 = tg
  | [], h => by cases h
  | q :: r, h => by
    unfold e_arm at h
    cases hb : (decide (q.1 ≤ x) && decide (x ≤ q.2.1)) with
    | true =>
      rw [hb] at h
      cases h
      simp only [Bool.and_eq_true, decide_eq_true_eq] at hb
      exact ⟨q, List.mem_cons_self, hb.1, hb.2, rfl⟩
    | false =>
      rw [hb] at h
      obtain ⟨q', h1, h2⟩ := e_arm_ok h
      exact ⟨q', List.mem_cons_of_mem _ h1, h2⟩
theorem ei_sw_ok {l : List (Int × Int × Nat)} (hw : ∀ x : Int32, ∀ q ∈ l, q.1 ≤ x.toInt → x.toInt ≤ q.2.1 → x_Sw cc own nL pc x q.2.2) : e_Snd ft cl lay cc own nL nm MC MS pc (ei_sw l) := by
  intro ad ce sl p ll e R s m args below meth c D A H0 Q C hce hsl hA t t' hpc hf hg
  unfold ei_sw at hf
  split at hf
  · rename_i x r hst
    split at hf
    · rename_i tg htg
      cases hf
      subst hpc
      intro ls stk H locs ⟨lv, ws, tys, h1, h2, h3, h4⟩
      rw [hst] at h3
      match stk, h3 with
      | v2 :: rest, h3 =>
        obtain ⟨n, rfl, rfl⟩ := e_int h3.1
        obtain ⟨q, hq, q1, q2, rfl⟩ := e_arm_ok htg
        exact hw n q hq q1 q2 C.1 (hg ls rest H locs ⟨lv, ws, tys, h1, h2, h3.2, h4⟩)
    · cases hf
  · cases hf
def ei_stk (f : List eV → Option (List eV)) (nx : Nat) : eS → Option eS := fun t => match f t.2.2.1 with
  | some st => some (nx, t.2.1, st, t.2.2.2)
  | none => none
theorem ei_stk_ok {f : List eV → Option (List eV)} (hw : ∀ (ad : List Nat) (st st' : List eV) (stk : List Value), f st = some st' → x_all2 (e_rel ad) st stk → ∃ (i o rest : List Value), stk = i ++ rest ∧ x_Stk cc own nL pc nx i o ∧ x_all2 (e_rel ad) st' (o ++ rest)) : e_Snd ft cl lay cc own nL nm MC MS pc (ei_stk f nx) := by
  intro ad ce sl p l e R s m args below meth c D A H0 Q C hce hsl hA t t' hpc hf hg
  unfold ei_stk at hf
  split at hf
  · rename_i st hst
    cases hf
    subst hpc
    intro ls stk H locs ⟨lv, ws, tys, h1, h2, h3, h4⟩
    obtain ⟨i, o, rest, rfl, hs, hr⟩ := hw _ _ _ _ hst h3
    exact hs C.1 (hg ls (o ++ rest) H locs ⟨lv, ws, tys, h1, h2, hr, h4⟩)
  · cases hf
end E31
end
end
section
noncomputable section
/-! exact: methods and calls; what it says of a method is a contract -/
abbrev eE : Type := Nat × (eS → Option eS) × Nat × Nat
def e_ent : Nat → List eV → eL
  | _, [] => []
  | i, x :: r => (i, x) :: e_ent (bif Nat.beq (e_ty x) 1 then i + 2 else i + 1) r
def e_cats : List eV → Nat
  | [] => 0
  | x :: r => (bif Nat.beq (e_ty x) 1 then 2 else 1) + e_cats r
def e_retv (k : Nat) (st : List eV) : Option (List eV) := match k, st with
  | 0, [] => some []
  | 1, [x] => bif Nat.beq (e_ty x) 0 then some [x] else none
  | 2, [x] => bif Nat.beq (e_ty x) 1 then some [x] else none
  | 3, [x] => bif Nat.beq (e_ty x) 2 then some [x] else none
  | 4, [x] => bif e_pk 1 x then some [x] else none
  | _, _ => none
def e_rcv (lay : List eY) (o : Nat) (as : List eV) : Bool := bif Nat.beq o 999 then true else match as with
  | (1, j) :: _ => match lay[j.toNat]? with
    | some (0, c, _) => Nat.beq c o
    | _ => false
  | _ => false
def e_may (fd : Nat) (lay : List eY) (d M' na : Nat) (q' : xM) (st as rest : List eV) : Bool :=
  Nat.ble fd d && (Nat.ble 1 M' && (Nat.ble na st.length && (Nat.ble (e_cats rest) 8 && (Nat.ble (e_cats as) (xm_l q') && (Nat.beq (xm_c q') 0 && (Nat.beq (xm_s q') 0 && e_rcv lay (xm_o q') as))))))
def e_go (fd : Nat) (lay : List eY) (code : Nat → Nat → eE) (I : Nat → xM) : Nat → Nat → Nat → eS → Option (List eV × eW)
  | 0, _, _, _ => none
  | n + 1, d, M, t => match code M t.1 with
    | (0, f, _, _) => match f t with
      | some t' => e_go fd lay code I n d M t'
      | none => none
    | (1, _, k, _) => match e_retv k t.2.2.1 with
      | some r => some (r, t.2.2.2)
      | none => none
    | (2, _, M', na) => match d with
      | 0 => none
      | d' + 1 => bif e_may fd lay d' M' na (I M') t.2.2.1 (t.2.2.1.take na).reverse (t.2.2.1.drop na) then
          match e_go fd lay code I n d' M' (0, e_ent 0 (t.2.2.1.take na).reverse, [], t.2.2.2) with
          | some rw => e_go fd lay code I n (d' + 1) M (t.1 + 3, t.2.1, rw.1 ++ t.2.2.1.drop na, rw.2)
          | none => none
          else none
    | _ => none
/-- a place of a method's table may be trusted -/
def e_EOq (ft : Nat → Nat → Nat) (cl : List vw_C) (lay : List eY) (I : Nat → xM) (q : xM) (pc : Nat) (en : eE) : Prop := match en with
  | (0, f, _, _) => e_Snd ft cl lay (xm_b q) (xm_y q).cls (xm_l q) (xm_y q).name (xm_c q) (xm_s q) pc f
  | (1, _, k, _) => x_Rt (xm_b q) (xm_r q) pc k
  | (2, _, M', na) => x_Cl (xm_b q) (xm_y q).cls (xm_l q) (xm_y q).name (xm_c q) (xm_s q) pc (I M') na
  | _ => True
def e_Tab (fd : Nat) (ft : Nat → Nat → Nat) (cl : List vw_C) (lay : List eY) (I : Nat → xM) (code : Nat → Nat → eE) : Prop :=
  1 ≤ fd ∧ (∀ M pc, e_EOq ft cl lay I (I M) pc (code M pc)) ∧ (∀ M, plainName (xm_y (I M)).cls = true) ∧ (∀ M, xm_o (I M) ≠ 999 → ∃ r, cl[xm_o (I M)]? = some r ∧ r.1 = (xm_y (I M)).cls)
def e_Q (ft : Nat → Nat → Nat) (cl : List vw_C) (lay : List eY) (ad : List Nat) (D : va_G) (ws0 : va_W) (sz : Nat) (r : List eV) (w : eW) : Array Value → State → Outcome → State → Prop := fun _ st oc t =>
  (∃ (v : Option Value) (ws : va_W) (tys : List (ClassId × FieldType)), oc = .returned v ∧ x_all2 (e_rel ad) r v.toList ∧ e_world ft cl lay ad tys w ws ∧ va_K D cl tys t ∧ va_P D cl ws t.heap ∧ va_D (va_A ws0 sz) ws) ∧ va_F (va_A ws0 sz) st t
def e_Met (ft : Nat → Nat → Nat) (cl : List vw_C) (lay : List eY) (I : Nat → xM) (l : Launch) (d M : Nat) (as : List eV) (w : eW) (r : List eV) (w' : eW) : Prop :=
  ∀ (ad : List Nat) (D : va_G) (ws : va_W) (tys : List (ClassId × FieldType)) (vs : List Value) (sz : Nat), x_all2 (e_rel ad) as vs → e_world ft cl lay ad tys w ws →
    Met l (xm_y (I M)) (x_ws (I M)) (x_rm d (I M)) (va_Pc vs (fun U => U.heap.size = sz ∧ va_P D cl ws U.heap ∧ va_K D cl tys U ∧ va_D (fun _ => True) ws ∧ x_Ex U)) (e_Q ft cl lay ad D ws sz r w') (xm_c (I M)) (xm_s (I M)) (va_A ws sz)
def e_Frm (fd : Nat) (ft : Nat → Nat → Nat) (cl : List vw_C) (lay : List eY) (I : Nat → xM) (code : Nat → Nat → eE) (l : Launch) (n : Nat) : Prop :=
  ∀ (d M : Nat) (t : eS) (r : List eV) (w' : eW), e_go fd lay code I n d M t = some (r, w') → ∀ {ad : List Nat} {ce sl : Nat} {p : Program} {e : Env} {R : Room} {s : State} {m : MethodId} {args : Array Value} {below : List Frame} {meth : Method} {c : Code} {D : va_G} {A : Nat → Prop} {H0 : Heap} {Q : State → Prop},
    x_Cx (xm_b (I M)) (xm_y (I M)).cls (xm_l (I M)) (xm_y (I M)).name (xm_c (I M)) (xm_s (I M)) p R s m args meth c → ce ≤ xm_c (I M) → sl ≤ xm_s (I M) → d ≤ R.frames → 64 * d ≤ R.locals → (∀ q : Nat, H0.size ≤ q → A q) →
    (∀ (t' : eS) (f : eS → Option eS) (k b : Nat), code M t'.1 = (1, f, k, b) → e_retv k t'.2.2.1 = some r → t'.2.2.2 = w' → e_Good ft cl lay ad ce sl (xm_l (I M)) p l e R s m args below meth c D A H0 Q t') → e_Good ft cl lay ad ce sl (xm_l (I M)) p l e R s m args below meth c D A H0 Q t
theorem e_ent_ok {ad : List Nat} : ∀ {as : List eV} {vs : List Value} (i : Nat), x_all2 (e_rel ad) as vs → x_all2 (fun a q => a.1 = q.1 ∧ e_rel ad a.2 q.2) (e_ent i as) (lv_args i vs)
  | [], [], _, _ => trivial
  | a :: as, v :: vs, i, h => by
    refine ⟨⟨rfl, h.1⟩, ?_⟩
    have e := x_kd_cat (e_ty_ok h.1)
    cases hb : Nat.beq (e_ty a) 1 with
    | true =>
      have := Nat.eq_of_beq_eq_true hb
      rw [this, if_pos rfl] at e
      rw [e, if_pos rfl]
      exact e_ent_ok (i + 2) h.2
    | false =>
      have h1 : ¬ e_ty a = 1 := fun q => by rw [q] at hb; cases hb
      rw [if_neg h1] at e
      rw [e, if_neg (by decide)]
      exact e_ent_ok (i + 1) h.2
  | [], _ :: _, _, h => h.elim
  | _ :: _, [], _, h => h.elim
theorem e_cats_ok {ad : List Nat} : ∀ {as : List eV} {vs : List Value}, x_all2 (e_rel ad) as vs → (vs.map fun v => v.category).sum = e_cats as ∧ (lg_sl vs).length = e_cats as
  | [], [], _ => ⟨rfl, rfl⟩
  | a :: as, v :: vs, h => by
    have e := x_kd_cat (e_ty_ok h.1)
    obtain ⟨h1, h2⟩ := e_cats_ok h.2
    cases hb : Nat.beq (e_ty a) 1 with
    | true =>
      have := Nat.eq_of_beq_eq_true hb
      rw [this, if_pos rfl] at e
      refine ⟨by simp only [List.map_cons, List.sum_cons, e, h1, e_cats, hb, cond_true], ?_⟩
      show (List.flatMap _ (v :: vs)).length = _
      rw [List.flatMap_cons, e, if_pos rfl, List.length_append]
      show 2 + (lg_sl vs).length = _
      rw [h2]
      simp only [e_cats, hb, cond_true]
    | false =>
      have h3 : ¬ e_ty a = 1 := fun q => by rw [q] at hb; cases hb
      rw [if_neg h3] at e
      refine ⟨by simp only [List.map_cons, List.sum_cons, e, h1, e_cats, hb, cond_false], ?_⟩
      show (List.flatMap _ (v :: vs)).length = _
      rw [List.flatMap_cons, e, if_neg (by decide), List.length_append]
      show 1 + (lg_sl vs).length = _
      rw [h2]
      simp only [e_cats, hb, cond_false]
  | [], _ :: _, h => h.elim
  | _ :: _, [], h => h.elim
section E32
variable {fd : Nat} {ft : Nat → Nat → Nat} {cl : List vw_C} {lay : List eY} {I : Nat → xM} {code : Nat → Nat → eE} {l : Launch}
theorem e_met_of (hT : e_Tab fd ft cl lay I code) {n : Nat} (hF : e_Frm fd ft cl lay I code l n) {d M : Nat} {as : List eV} {w : eW} {r : List eV} {w' : eW} (hd : fd ≤ d) (hl : e_cats as ≤ xm_l (I M)) (h : e_go fd lay code I n d M (0, e_ent 0 as, [], w) = some (r, w')) : e_Met ft cl lay I l d M as w r w' := by
  intro ad D ws tys vs sz has hw
  refine Met.ofW (cc := xm_b (I M)) (maxL := xm_l (I M)) (ret := xm_r (I M)) (hT.2.2.1 M) rfl ?_
  intro p e s m args below meth c s₁ B hml hv
  obtain ⟨rfl, hsz, hP, hK, hD0, hEx⟩ := hv
  have hx := B.exec
  have hb := B.bytes
  have hr := B.returns
  have hts := atoms_spec (ws := x_ws (I M)) B.pre
  have hown : s.vm.findClass (xm_y (I M)).cls = some m.cls := findClass_of_methodNamed B.named
  have hlocks := B.notSynchronized
  have hin : meth.name = (xm_y (I M)).name := (name_of_methodNamed B.named B.method).1
  subst hsz
  have hD := hD0.self (sz := s.heap.size)
  have hA : ∀ q : Nat, s.heap.size ≤ q → va_A ws s.heap.size q := fun q h => Or.inr h
  rw [lg_entry_eq]
  have hle : (lg_sl vs).length ≤ xm_l (I M) := by rw [(e_cats_ok has).2]; exact hl
  refine hF d M _ r w' h (ce := 0) (sl := 0) (D := D) (A := va_A ws s.heap.size) (H0 := s.heap) ⟨⟨hx, hb, hml, hown, fun w hw => hts w (List.mem_cons_of_mem _ hw)⟩, hin, rfl, rfl, by show 1 ≤ d; have := hT.1; omega, by show 32 ≤ 64 * d; have := hT.1; omega, hEx⟩ (Nat.zero_le _) (Nat.zero_le _) (Nat.le_refl d) (Nat.le_refl (64 * d)) hA ?_ _ [] s.heap [] ⟨lv_args 0 vs, ws, tys, lv_entry vs hle, e_ent_ok 0 has, trivial, hw, hK, hP, hD, va_S.rf⟩
  intro t f k b hc hlf hw' ls' stk H locs hI
  obtain ⟨lv, ws', tys', h1, h2, h3, h4, h5, h6, h7, h8⟩ := hI
  have hE := hT.2.1 M t.1
  rw [hc] at hE
  replace hE : x_Rt (xm_b (I M)) (xm_r (I M)) t.1 k := hE
  refine W.widen (k := xm_c (I M)) (n := xm_s (I M)) (Nat.zero_le _) (Nat.zero_le _) ?_
  have fin : ∀ (v : Option Value) (T : State), x_all2 (e_rel ad) r v.toList → T.heap = H → s.WarmedH T.vm → e_Q ft cl lay ad D ws s.heap.size r w' vs.toArray s (.returned v) T := by
    intro v T hr hTh hW
    exact ⟨⟨v, ws', tys', rfl, hr, by rw [← hw']; exact h4, va_K.moved hW.alike h5, by rw [hTh]; exact h6, h7⟩, h8.F hTh⟩
  unfold e_retv at hlf
  split at hlf
  · rename_i hst
    cases hlf
    rw [hst] at h3
    match stk, h3 with
    | [], _ =>
      obtain ⟨g1, g2⟩ := hE
      exact W.vret hx hb (by rw [hr, g2]) (fun T hTh hW => fin none T trivial hTh hW) h8.2.2 g1
  · rename_i x hst
    cases hy : Nat.beq (e_ty x) 0 with
    | false => rw [hy] at hlf; cases hlf
    | true =>
      rw [hy] at hlf
      cases hlf
      rw [hst] at h3
      match stk, h3 with
      | [v], h3 =>
        obtain ⟨g1, g2⟩ := hE
        have hk := e_ty_ok h3.1
        rw [Nat.eq_of_beq_eq_true hy] at hk
        obtain ⟨z, rfl⟩ := hk
        exact W.iret hx hb (by rw [hr, g2]) (fun T hTh hW => fin (some (.int z)) T h3 hTh hW) h8.2.2 g1
  · rename_i x hst
    cases hy : Nat.beq (e_ty x) 1 with
    | false => rw [hy] at hlf; cases hlf
    | true =>
      rw [hy] at hlf
      cases hlf
      rw [hst] at h3
      match stk, h3 with
      | [v], h3 =>
        obtain ⟨g1, g2⟩ := hE
        have hk := e_ty_ok h3.1
        rw [Nat.eq_of_beq_eq_true hy] at hk
        obtain ⟨z, rfl⟩ := hk
        exact W.lret hx hb (by rw [hr, g2]) (fun T hTh hW => fin (some (.long z)) T h3 hTh hW) h8.2.2 g1
  · rename_i x hst
    cases hy : Nat.beq (e_ty x) 2 with
    | false => rw [hy] at hlf; cases hlf
    | true =>
      rw [hy] at hlf
      cases hlf
      rw [hst] at h3
      match stk, h3 with
      | [v], h3 =>
        obtain ⟨g1, rt, g2, g3⟩ := hE
        have hk := e_ty_ok h3.1
        rw [Nat.eq_of_beq_eq_true hy] at hk
        exact W.aret hx hb (by rw [hr, g2]) g3 hk (fun T hTh hW => fin (some v) T h3 hTh hW) h8.2.2 g1
  · rename_i x hst
    cases hy : e_pk 1 x with
    | false => rw [hy] at hlf; cases hlf
    | true =>
      rw [hy] at hlf
      cases hlf
      rw [hst] at h3
      match stk, h3 with
      | [v], h3 =>
        obtain ⟨g1, g2⟩ := hE
        have hk : v = .int 0 ∨ v = .int 1 := e_pk_ok h3.1 hy
        rcases hk with rfl | rfl
        · exact W.zret hx hb (by rw [hr, g2]) (by decide) (fun T hTh hW => fin (some (.int 0)) T h3 hTh hW) h8.2.2 g1
        · exact W.zret hx hb (by rw [hr, g2]) (by decide) (fun T hTh hW => fin (some (.int 1)) T h3 hTh hW) h8.2.2 g1
  · cases hlf
/-- a call of a method of which it is known what it does -/
theorem e_call (hT : e_Tab fd ft cl lay I code) {d' M M' na : Nat} {t : eS} {r : List eV} {w' : eW} (hE : x_Cl (xm_b (I M)) (xm_y (I M)).cls (xm_l (I M)) (xm_y (I M)).name (xm_c (I M)) (xm_s (I M)) t.1 (I M') na) (hb : e_may fd lay d' M' na (I M') t.2.2.1 (t.2.2.1.take na).reverse (t.2.2.1.drop na) = true) (hMet : e_Met ft cl lay I l d' M' (t.2.2.1.take na).reverse t.2.2.2 r w')
    {ad : List Nat} {ce sl : Nat} {p : Program} {e : Env} {R : Room} {s : State} {m : MethodId} {args : Array Value} {below : List Frame} {meth : Method} {c : Code} {D : va_G} {A : Nat → Prop} {H0 : Heap} {Q : State → Prop} (C : x_Cx (xm_b (I M)) (xm_y (I M)).cls (xm_l (I M)) (xm_y (I M)).name (xm_c (I M)) (xm_s (I M)) p R s m args meth c) (hce : ce ≤ xm_c (I M)) (hsl : sl ≤ xm_s (I M)) (hd : d' + 1 ≤ R.frames) (hdl : 64 * (d' + 1) ≤ R.locals) (hA : ∀ q : Nat, H0.size ≤ q → A q)
    (hgo : e_Good ft cl lay ad ce sl (xm_l (I M)) p l e R s m args below meth c D A H0 Q (t.1 + 3, t.2.1, r ++ t.2.2.1.drop na, w')) : e_Good ft cl lay ad ce sl (xm_l (I M)) p l e R s m args below meth c D A H0 Q t := by
  obtain ⟨h64, hE⟩ := hE
  unfold e_may at hb
  simp only [Bool.and_eq_true] at hb
  obtain ⟨b1, b2, b3, b4, b5, b6, b7, b8⟩ := hb
  have b1 := Nat.le_of_ble_eq_true b1
  have b2 := Nat.le_of_ble_eq_true b2
  have b3 := Nat.le_of_ble_eq_true b3
  have b4 := Nat.le_of_ble_eq_true b4
  have b5 := Nat.le_of_ble_eq_true b5
  have b6 := Nat.eq_of_beq_eq_true b6
  have b7 := Nat.eq_of_beq_eq_true b7
  intro lsl stk H locs hI
  obtain ⟨lv, ws, tys, h1, h2, h3, h4, h5, h6, h7, h8⟩ := hI
  have hspl := x_split na h3
  have hargs := x_all2_rev hspl.1
  have hM := hMet ad D ws tys (stk.take na).reverse H.size hargs h4
  have hlen : stk.length = t.2.2.1.length := (x_all2_len h3).symm
  have hvA : ∀ q : Nat, va_A ws H.size q → A q := by
    intro q hq
    rcases hq with ⟨k, e9, hk⟩ | hq
    · exact h7.2 k _ hk
    · exact hA q (Nat.le_trans h8.1 hq)
  have hrun := hE (e := e) (below := below) C (H := H) (locs := locs) (cells := ce) (slots := sl) (ls := lsl) (rest := stk.drop na) hM
    (fun a U g mk q => by obtain ⟨q0, q1, qP, qK, qD, qE⟩ := q; exact ⟨q0, q1, qP, va_K.moved (u := U) (U := U.calling g mk a) (Vm.Alike.refl U.vm) qK, qD, qE.same (U := U.calling g mk a) rfl⟩)
    (fun U hU hW => ⟨rfl, by rw [hU], by rw [hU]; exact h6, va_K.moved hW.alike h5, h7.weaken (fun _ _ _ _ => trivial), C.2.2.2.2.2.2.warm hW⟩)
    (by
      by_cases ho : xm_o (I M') = 999
      · exact Or.inl ho
      · refine Or.inr ?_
        unfold e_rcv at b8
        rw [x_nb ho] at b8
        simp only [cond_false] at b8
        split at b8
        · rename_i j as' has'
          split at b8
          · rename_i c9 r9 hcell
            have e9 := Nat.eq_of_beq_eq_true b8
            rw [has'] at hargs
            match hv : (stk.take na).reverse, hargs with
            | v :: As, hargs =>
              obtain ⟨a, ee, hq, rfl, hcc⟩ := e_ref h4 hargs.1 hcell
              obtain ⟨fs, rfl, -, -⟩ := hcc
              obtain ⟨r, hr1, hr2⟩ := hT.2.2.2 M' ho
              rw [← e9] at hr1
              obtain ⟨cellB, k1, k2, k3⟩ := va_recv h5 h6 hr1 hq
              exact ⟨a, As, rfl, cellB, k1, k2, by rw [← hr2]; exact k3⟩
          · cases b8
        · cases b8)
    (by rw [List.length_reverse, List.length_take, hlen]; omega) rfl rfl (by show d' + 1 ≤ R.frames; omega) (by show 8 + (xm_l (I M') + 11) + 64 * d' ≤ R.locals; omega) h1.1
    (by rw [(e_cats_ok hspl.2).1]; exact b4) ⟨by rw [C.2.2.1, b6]; exact hce, by rw [C.2.2.2.1, b7]; exact hsl⟩
  rw [List.reverse_reverse, List.take_append_drop] at hrun
  refine x_after hrun h8 (fun st v T hq => hq.2) (fun q _ h => hvA q h) hvA (fun v st T H1 locs1 hst hTh hal hq hS1 => ?_)
  obtain ⟨⟨v', ws', tys', ev, hr, hw', hK', hP', hD'⟩, hFr⟩ := hq
  cases ev
  rw [b6, b7]
  exact hgo lsl (v.toList ++ stk.drop na) H1 locs1 ⟨lv, ws', tys', h1, h2, x_all2_app hr hspl.2, hw', va_K.moved hal.symm hK', by rw [← hTh]; exact hP', hD'.weaken (fun _ q _ h => hvA q.1 h), hS1⟩
theorem e_frm (hT : e_Tab fd ft cl lay I code) : ∀ n, e_Frm fd ft cl lay I code l n := by
  intro n
  induction n with
  | zero => intro d M t r w' h; cases h
  | succ n ih =>
    intro d M t r w' h ad ce sl p e R s m args below meth c D A H0 Q C hce hsl hd hdl hA hret
    unfold e_go at h
    have hE := hT.2.1 M t.1
    split at h
    · rename_i f a b hc
      rw [hc] at hE
      replace hE : e_Snd ft cl lay (xm_b (I M)) (xm_y (I M)).cls (xm_l (I M)) (xm_y (I M)).name (xm_c (I M)) (xm_s (I M)) t.1 f := hE
      split at h
      · rename_i t' hf
        exact hE C hce hsl hA t t' rfl hf (ih d M t' r w' h C hce hsl hd hdl hA hret)
      · cases h
    · rename_i f k b hc
      split at h
      · rename_i r' hr
        cases h
        exact hret t f k b hc hr rfl
      · cases h
    · rename_i f M' na hc
      rw [hc] at hE
      replace hE : x_Cl (xm_b (I M)) (xm_y (I M)).cls (xm_l (I M)) (xm_y (I M)).name (xm_c (I M)) (xm_s (I M)) t.1 (I M') na := hE
      cases d with
      | zero => cases h
      | succ d' =>
        simp only at h
        cases hb : e_may fd lay d' M' na (I M') t.2.2.1 (t.2.2.1.take na).reverse (t.2.2.1.drop na) with
        | false => rw [hb] at h; cases h
        | true =>
          rw [hb] at h
          simp only [cond_true] at h
          split at h
          · rename_i rw9 hls
            obtain ⟨r9, w9⟩ := rw9
            have hbb := hb
            unfold e_may at hbb
            simp only [Bool.and_eq_true] at hbb
            exact e_call hT hE hb (e_met_of hT ih (Nat.le_of_ble_eq_true hbb.1) (Nat.le_of_ble_eq_true hbb.2.2.2.2.1) hls) C hce hsl hd hdl hA (ih (d' + 1) M _ r w' h C hce hsl hd hdl hA hret)
          · cases h
    · cases h
end E32
end
end
section
noncomputable section
/-! a logic over the exact interpreter: from t the method comes to its end, and there Q -/
section E33
variable {fd : Nat} {lay : List eY} {code : Nat → Nat → eE} {I : Nat → xM}
theorem e_go_mono : ∀ {n : Nat} {d M : Nat} {t : eS} {r : List eV × eW}, e_go fd lay code I n d M t = some r → e_go fd lay code I (n + 1) d M t = some r := by
  intro n
  induction n with
  | zero => intro d M t r h; cases h
  | succ n ih =>
    intro d M t r h
    unfold e_go at h
    unfold e_go
    split at h
    · rename_i f a b hc
      split at h
      · rename_i t' hf
        exact ih h
      · cases h
    · rename_i f k b hc
      exact h
    · rename_i f M' na hc
      cases d with
      | zero => cases h
      | succ d' =>
        simp only at h
        simp only
        cases hb : e_may fd lay d' M' na (I M') t.2.2.1 (t.2.2.1.take na).reverse (t.2.2.1.drop na) with
        | false => rw [hb] at h; cases h
        | true =>
          rw [hb] at h
          simp only [cond_true] at h ⊢
          split at h
          · rename_i rw9 hls
            rw [ih hls]
            exact ih h
          · cases h
    · cases h
theorem e_go_le {n k : Nat} (hk : n ≤ k) {d M : Nat} {t : eS} {r : List eV × eW} (h : e_go fd lay code I n d M t = some r) : e_go fd lay code I k d M t = some r := by
  obtain ⟨j, rfl⟩ := Nat.exists_eq_add_of_le hk
  induction j with
  | zero => exact h
  | succ j ih => exact e_go_mono (ih (Nat.le_add_right n j))
/-- from t on the method M (its calls no deeper than d) comes to its end, with Q of the answer and the contents -/
def e_Ok (fd : Nat) (lay : List eY) (code : Nat → Nat → eE) (I : Nat → xM) (d M : Nat) (t : eS) (Q : List eV → eW → Prop) : Prop := ∃ n r w, e_go fd lay code I n d M t = some (r, w) ∧ Q r w
theorem e_Ok.imp {d M : Nat} {t : eS} {Q Q' : List eV → eW → Prop} (h : e_Ok fd lay code I d M t Q) (hq : ∀ r w, Q r w → Q' r w) : e_Ok fd lay code I d M t Q' := by
  obtain ⟨n, r, w, h1, h2⟩ := h
  exact ⟨n, r, w, h1, hq r w h2⟩
theorem e_Ok.step {d M a b : Nat} {t t' : eS} {f : eS → Option eS} {Q : List eV → eW → Prop} (hc : code M t.1 = (0, f, a, b)) (hf : f t = some t') (h : e_Ok fd lay code I d M t' Q) : e_Ok fd lay code I d M t Q := by
  obtain ⟨n, r, w, h1, h2⟩ := h
  refine ⟨n + 1, r, w, ?_, h2⟩
  unfold e_go
  rw [hc]
  simp only
  rw [hf]
  exact h1
theorem e_Ok.ret {d M k b : Nat} {t : eS} {f : eS → Option eS} {r : List eV} {Q : List eV → eW → Prop} (hc : code M t.1 = (1, f, k, b)) (hr : e_retv k t.2.2.1 = some r) (h : Q r t.2.2.2) : e_Ok fd lay code I d M t Q := by
  refine ⟨1, r, t.2.2.2, ?_, h⟩
  unfold e_go
  rw [hc]
  simp only
  rw [hr]
theorem e_Ok.call {d M M' na : Nat} {t : eS} {f : eS → Option eS} {Q' Q : List eV → eW → Prop} (hc : code M t.1 = (2, f, M', na)) (hm : e_may fd lay d M' na (I M') t.2.2.1 (t.2.2.1.take na).reverse (t.2.2.1.drop na) = true) (h' : e_Ok fd lay code I d M' (0, e_ent 0 (t.2.2.1.take na).reverse, [], t.2.2.2) Q') (h : ∀ r w, Q' r w → e_Ok fd lay code I (d + 1) M (t.1 + 3, t.2.1, r ++ t.2.2.1.drop na, w) Q) : e_Ok fd lay code I (d + 1) M t Q := by
  obtain ⟨n', r', w', h1, h2⟩ := h'
  obtain ⟨n, r, w, h3, h4⟩ := h r' w' h2
  refine ⟨(n' + n) + 1, r, w, ?_, h4⟩
  unfold e_go
  rw [hc]
  simp only
  rw [hm]
  simp only [cond_true]
  rw [e_go_le (Nat.le_add_right n' n) h1]
  exact e_go_le (Nat.le_add_left n n') h3
/-- a loop: a measure falls -/
theorem e_Ok.loop {d M : Nat} {Q : List eV → eW → Prop} {α : Type} (J : α → Prop) (st : α → eS) (mu : α → Nat) (body : ∀ x, J x → (∀ y, J y → mu y < mu x → e_Ok fd lay code I d M (st y) Q) → e_Ok fd lay code I d M (st x) Q) : ∀ x, J x → e_Ok fd lay code I d M (st x) Q := by
  have key : ∀ n x, mu x < n → J x → e_Ok fd lay code I d M (st x) Q := by
    intro n
    induction n with
    | zero => intro x h; omega
    | succ n ih => intro x hx hj; exact body x hj (fun y hy hlt => ih y (by omega) hy)
  exact fun x hj => key (mu x + 1) x (Nat.lt_succ_self _) hj
end E33
-- the machine does it
section E33b
variable {fd : Nat} {ft : Nat → Nat → Nat} {cl : List vw_C} {lay : List eY} {I : Nat → xM} {code : Nat → Nat → eE} {l : Launch}
theorem e_Ok.met (hT : e_Tab fd ft cl lay I code) {d M : Nat} {as : List eV} {w : eW} {Q : List eV → eW → Prop} (hd : fd ≤ d) (hl : e_cats as ≤ xm_l (I M)) (h : e_Ok fd lay code I d M (0, e_ent 0 as, [], w) Q) : ∃ r w', Q r w' ∧ e_Met ft cl lay I l d M as w r w' := by
  obtain ⟨n, r, w', h1, h2⟩ := h
  exact ⟨r, w', h2, e_met_of hT (e_frm hT n) hd hl h1⟩
end E33b
/-! numbers in bounds are themselves -/
theorem e32_id {z : Int} (h1 : -2147483648 ≤ z) (h2 : z ≤ 2147483647) : e32 z = z := x_bmod h1 h2
theorem e64_id {z : Int} (h1 : -9223372036854775808 ≤ z) (h2 : z ≤ 9223372036854775807) : e64 z = z := x_bmodL h1 h2
theorem e_ald_in {lay : List eY} {b : Bool} {nx p kd c n : Nat} {l : eL} {r : List eV} {w : eW} {i : Int} {j : Nat} (hy : lay[j]? = some (kd, c, n)) (hk : x_akd b kd = true) (h0 : 0 ≤ i) (h1 : i < n) : ei_ald lay b nx (p, l, (0, i) :: (1, (j : Int)) :: r, w) = some (nx, l, (0, w j i.toNat) :: r, w) := by
  unfold ei_ald
  simp only [Int.toNat_natCast, hy, hk, decide_eq_true h0, decide_eq_true h1, Bool.and_self, cond_true]
theorem e_ast_in {lay : List eY} {b : Bool} {nx p kd c n : Nat} {l : eL} {r : List eV} {w : eW} {i x z : Int} {j : Nat} (hy : lay[j]? = some (kd, c, n)) (hk : x_akd b kd = true) (hz : e_nar kd x = some z) (h0 : 0 ≤ i) (h1 : i < n) : ei_ast lay b nx (p, l, (0, x) :: (0, i) :: (1, (j : Int)) :: r, w) = some (nx, l, r, e_up w j i.toNat z) := by
  unfold ei_ast
  simp only [Int.toNat_natCast, hy, hz, hk, decide_eq_true h0, decide_eq_true h1, Bool.and_self, cond_true]
theorem e_aald_in {lay : List eY} {nx p kd c n : Nat} {l : eL} {r : List eV} {w : eW} {i : Int} {j : Nat} (hy : lay[j]? = some (kd, c, n)) (hk : (Nat.beq kd 5 || Nat.beq kd 6) = true) (h0 : 0 ≤ i) (h1 : i < n) : ei_aald lay nx (p, l, (0, i) :: (1, (j : Int)) :: r, w) = some (nx, l, e_rd 1 (w j i.toNat) :: r, w) := by
  unfold ei_aald
  simp only [Int.toNat_natCast, hy, hk, decide_eq_true h0, decide_eq_true h1, Bool.and_self, cond_true]
theorem e_if2_t {k tg nx p : Nat} {l : eL} {r : List eV} {w : eW} {x y : Int} (h : x_cnd k x y) : ei_if2 k tg nx (p, l, (0, y) :: (0, x) :: r, w) = some (tg, l, r, w) := by
  unfold ei_if2
  simp only [e_cnd_ok.mpr h, cond_true]
theorem e_if2_f {k tg nx p : Nat} {l : eL} {r : List eV} {w : eW} {x y : Int} (h : ¬ x_cnd k x y) : ei_if2 k tg nx (p, l, (0, y) :: (0, x) :: r, w) = some (nx, l, r, w) := by
  have hb : e_cnd k x y = false := by
    cases hb : e_cnd k x y with
    | false => rfl
    | true => exact absurd (e_cnd_ok.mp hb) h
  unfold ei_if2
  simp only [hb, cond_false]
theorem e_if1_t {k tg nx p : Nat} {l : eL} {r : List eV} {w : eW} {x : Int} (h : x_cnd k x 0) : ei_if1 k tg nx (p, l, (0, x) :: r, w) = some (tg, l, r, w) := by
  unfold ei_if1
  simp only [e_cnd_ok.mpr h, cond_true]
theorem e_if1_f {k tg nx p : Nat} {l : eL} {r : List eV} {w : eW} {x : Int} (h : ¬ x_cnd k x 0) : ei_if1 k tg nx (p, l, (0, x) :: r, w) = some (nx, l, r, w) := by
  have hb : e_cnd k x 0 = false := by
    cases hb : e_cnd k x 0 with
    | false => rfl
    | true => exact absurd (e_cnd_ok.mp hb) h
  unfold ei_if1
  simp only [hb, cond_false]
end
end
section
noncomputable section
/-! exact: a row an instruction -/
theorem e_c {z : Int} {v : Int32} (h : v.toInt = z) : ∀ ad, e_rel ad (0, z) (.int v) := fun _ => ⟨v, rfl, h⟩
theorem e_cL {z : Int} {v : Int64} (h : v.toInt = z) : ∀ ad, e_rel ad (4, z) (.long v) := fun _ => ⟨v, rfl, h⟩
section E34
variable {ft : Nat → Nat → Nat} {cl : List vw_C} {lay : List eY} {cc : ByteArray} {own : String} {nL : Nat} {nm : String} {MC MS pc : Nat}
theorem er_iconst {n z : Int} {v : Int32} (d : decode cc pc = .ok (.iconst n, 1)) (hv : Int32.ofInt n = v) (hz : v.toInt = z) : e_Snd ft cl lay cc own nL nm MC MS pc (ei_push (0, z) (pc + 1)) := ei_push_ok (fun S => fun k => lv_iconst S.1 S.2.1 d hv k) (e_c hz)
theorem er_bipush {n z : Int} {v : Int32} (d : decode cc pc = .ok (.bipush n, 2)) (hv : (Int8.ofInt n).toInt32 = v) (hz : v.toInt = z) : e_Snd ft cl lay cc own nL nm MC MS pc (ei_push (0, z) (pc + 2)) := ei_push_ok (fun S => fun k => lv_bipush S.1 S.2.1 d hv k) (e_c hz)
theorem er_sipush {n z : Int} {v : Int32} (d : decode cc pc = .ok (.sipush n, 3)) (hv : (Int16.ofInt n).toInt32 = v) (hz : v.toInt = z) : e_Snd ft cl lay cc own nL nm MC MS pc (ei_push (0, z) (pc + 3)) := ei_push_ok (fun S => fun k => lv_sipush S.1 S.2.1 d hv k) (e_c hz)
theorem er_ldc {ix : Nat} {z : Int} {v : Int32} (d : decode cc pc = .ok (.ldc ix, 2)) (hw : Cond.constant own ix v ∈ x_tbl) (hz : v.toInt = z) : e_Snd ft cl lay cc own nL nm MC MS pc (ei_push (0, z) (pc + 2)) := ei_push_ok (fun S => fun k => lv_ldc S.1 S.2.1 S.2.2.2.1 (S.2.2.2.2 _ hw) d k) (e_c hz)
theorem er_ldcw {ix : Nat} {z : Int} {v : Int32} (d : decode cc pc = .ok (.ldc_w ix, 3)) (hw : Cond.constant own ix v ∈ x_tbl) (hz : v.toInt = z) : e_Snd ft cl lay cc own nL nm MC MS pc (ei_push (0, z) (pc + 3)) := ei_push_ok (fun S => fun k => lv_ldcw S.1 S.2.1 S.2.2.2.1 (S.2.2.2.2 _ hw) d k) (e_c hz)
theorem er_ldc2 {ix : Nat} {z : Int} {v : Int64} (d : decode cc pc = .ok (.ldc2_w ix, 3)) (hw : Cond.constantLong own ix v ∈ x_tbl) (hz : v.toInt = z) : e_Snd ft cl lay cc own nL nm MC MS pc (ei_push (4, z) (pc + 3)) := ei_push_ok (fun S => fun k => lv_ldc2 S.1 S.2.1 S.2.2.2.1 (S.2.2.2.2 _ hw) d k) (e_cL hz)
theorem er_lconst {n : Fin 2} {z : Int} {v : Int64} (d : decode cc pc = .ok (.lconst n, 1)) (hv : Int64.ofNat n = v) (hz : v.toInt = z) : e_Snd ft cl lay cc own nL nm MC MS pc (ei_push (4, z) (pc + 1)) := ei_push_ok (fun S => fun k => lv_lconst S.1 S.2.1 d hv k) (e_cL hz)
theorem er_null (d : decode cc pc = .ok (.aconst_null, 1)) : e_Snd ft cl lay cc own nL nm MC MS pc (ei_push (2, 0) (pc + 1)) := ei_push_ok (x := (2, 0)) (v := .null) (fun S => fun k => lv_null S.1 S.2.1 d k) (fun _ => rfl)
theorem er_iload_n {i : Fin 4} (d : decode cc pc = .ok (.iload_n i, 1)) : e_Snd ft cl lay cc own nL nm MC MS pc (ei_load i 0 (pc + 1)) := ei_load_ok (fun S => fun hl hk k => by obtain ⟨n, rfl⟩ := hk; exact lv_iload_n S.1 S.2.1 d rfl hl k)
theorem er_iload {i : Nat} (d : decode cc pc = .ok (.iload i, 2)) : e_Snd ft cl lay cc own nL nm MC MS pc (ei_load i 0 (pc + 2)) := ei_load_ok (fun S => fun hl hk k => by obtain ⟨n, rfl⟩ := hk; exact lv_iload S.1 S.2.1 d hl k)
theorem er_lload_n {i : Fin 4} (d : decode cc pc = .ok (.lload_n i, 1)) : e_Snd ft cl lay cc own nL nm MC MS pc (ei_load i 1 (pc + 1)) := ei_load_ok (fun S => fun hl hk k => by obtain ⟨n, rfl⟩ := hk; exact lv_lload_n S.1 S.2.1 d rfl hl k)
theorem er_lload {i : Nat} (d : decode cc pc = .ok (.lload i, 2)) : e_Snd ft cl lay cc own nL nm MC MS pc (ei_load i 1 (pc + 2)) := ei_load_ok (fun S => fun hl hk k => by obtain ⟨n, rfl⟩ := hk; exact lv_lload S.1 S.2.1 d hl k)
theorem er_aload_n {i : Fin 4} (d : decode cc pc = .ok (.aload_n i, 1)) : e_Snd ft cl lay cc own nL nm MC MS pc (ei_load i 2 (pc + 1)) := ei_load_ok (fun S => fun hl hk k => by rcases hk with rfl | ⟨a, rfl⟩; exact lv_aload_nN S.1 S.2.1 d rfl hl k; exact lv_aload_n S.1 S.2.1 d rfl hl k)
theorem er_aload {i : Nat} (d : decode cc pc = .ok (.aload i, 2)) : e_Snd ft cl lay cc own nL nm MC MS pc (ei_load i 2 (pc + 2)) := ei_load_ok (fun S => fun hl hk k => by rcases hk with rfl | ⟨a, rfl⟩; exact lv_aloadN S.1 S.2.1 d hl k; exact lv_aload S.1 S.2.1 d hl k)
theorem er_istore_n {i : Fin 4} (d : decode cc pc = .ok (.istore_n i, 1)) (hn : (i : Nat) < nL) : e_Snd ft cl lay cc own nL nm MC MS pc (ei_stor i 0 (pc + 1)) := ei_stor_ok (fun S => fun hl hk k => by obtain ⟨n, rfl⟩ := hk; exact lv_istore_n S.1 S.2.1 d rfl hl hn rfl k)
theorem er_istore {i : Nat} (d : decode cc pc = .ok (.istore i, 2)) (hn : i < nL) : e_Snd ft cl lay cc own nL nm MC MS pc (ei_stor i 0 (pc + 2)) := ei_stor_ok (fun S => fun hl hk k => by obtain ⟨n, rfl⟩ := hk; exact lv_istore S.1 S.2.1 d hl hn rfl k)
theorem er_lstore_n {i : Fin 4} (d : decode cc pc = .ok (.lstore_n i, 1)) (hn : (i : Nat) + 1 < nL) : e_Snd ft cl lay cc own nL nm MC MS pc (ei_stor i 1 (pc + 1)) := ei_stor_ok (fun S => fun hl hk k => by obtain ⟨n, rfl⟩ := hk; exact lv_lstore_n S.1 S.2.1 d rfl hl hn rfl k)
theorem er_lstore {i : Nat} (d : decode cc pc = .ok (.lstore i, 2)) (hn : i + 1 < nL) : e_Snd ft cl lay cc own nL nm MC MS pc (ei_stor i 1 (pc + 2)) := ei_stor_ok (fun S => fun hl hk k => by obtain ⟨n, rfl⟩ := hk; exact lv_lstore S.1 S.2.1 d hl hn rfl k)
theorem er_astore_n {i : Fin 4} (d : decode cc pc = .ok (.astore_n i, 1)) (hn : (i : Nat) < nL) : e_Snd ft cl lay cc own nL nm MC MS pc (ei_stor i 2 (pc + 1)) := ei_stor_ok (fun S => fun hl hk k => by rcases hk with rfl | ⟨a, rfl⟩; exact lv_astore_nN S.1 S.2.1 d rfl hl hn rfl k; exact lv_astore_n S.1 S.2.1 d rfl hl hn rfl k)
theorem er_astore {i : Nat} (d : decode cc pc = .ok (.astore i, 2)) (hn : i < nL) : e_Snd ft cl lay cc own nL nm MC MS pc (ei_stor i 2 (pc + 2)) := ei_stor_ok (fun S => fun hl hk k => by rcases hk with rfl | ⟨a, rfl⟩; exact lv_astoreN S.1 S.2.1 d hl hn rfl k; exact lv_astore S.1 S.2.1 d hl hn rfl k)
theorem er_iinc {i : Nat} {n : Int} (d : decode cc pc = .ok (.iinc i n, 3)) (hn : i < nL) (hz : -2147483648 ≤ n ∧ n ≤ 2147483647) : e_Snd ft cl lay cc own nL nm MC MS pc (ei_inc i n (pc + 3)) := ei_inc_ok hz (fun S => fun hl hk k => lv_iinc S.1 S.2.1 d hl hk rfl hn rfl k)
theorem er_goto {off : Int} {tg : Nat} (d : decode cc pc = .ok (.goto off, 3)) (ht : (pc : Int) + off = (tg : Int)) : e_Snd ft cl lay cc own nL nm MC MS pc (ei_goto tg) := ei_goto_ok (fun S => fun k => lv_goto S.1 S.2.1 d ht k)
theorem er_icmpeq {off : Int} {tg : Nat} (d : decode cc pc = .ok (.if_icmp .eq off, 3)) (ht : (pc : Int) + off = (tg : Int)) : e_Snd ft cl lay cc own nL nm MC MS pc (ei_if2 0 tg (pc + 3)) := ei_if2_ok (k := 0) (fun S => fun kt kf => lv_icmp_eq S.1 S.2.1 d ht (fun h => kt (x_eq32.mp h)) (fun h => kf (fun q => h (x_eq32.mpr q))))
theorem er_icmpne {off : Int} {tg : Nat} (d : decode cc pc = .ok (.if_icmp .ne off, 3)) (ht : (pc : Int) + off = (tg : Int)) : e_Snd ft cl lay cc own nL nm MC MS pc (ei_if2 1 tg (pc + 3)) := ei_if2_ok (k := 1) (fun S => fun kt kf => lv_icmp_ne S.1 S.2.1 d ht (fun h => kt (fun q => h (x_eq32.mpr q))) (fun h => kf (fun q => q (x_eq32.mp h))))
theorem er_icmplt {off : Int} {tg : Nat} (d : decode cc pc = .ok (.if_icmp .lt off, 3)) (ht : (pc : Int) + off = (tg : Int)) : e_Snd ft cl lay cc own nL nm MC MS pc (ei_if2 2 tg (pc + 3)) := ei_if2_ok (k := 2) (fun S => fun kt kf => lv_icmp_lt S.1 S.2.1 d ht (fun h => kt (x_lt32.mp h)) (fun h => kf (fun q => h (x_lt32.mpr q))))
theorem er_icmpge {off : Int} {tg : Nat} (d : decode cc pc = .ok (.if_icmp .ge off, 3)) (ht : (pc : Int) + off = (tg : Int)) : e_Snd ft cl lay cc own nL nm MC MS pc (ei_if2 3 tg (pc + 3)) := ei_if2_ok (k := 3) (fun S => fun kt kf => lv_icmp_ge S.1 S.2.1 d ht (fun h => kt (x_le32.mp h)) (fun h => kf (fun q => h (x_le32.mpr q))))
theorem er_icmpgt {off : Int} {tg : Nat} (d : decode cc pc = .ok (.if_icmp .gt off, 3)) (ht : (pc : Int) + off = (tg : Int)) : e_Snd ft cl lay cc own nL nm MC MS pc (ei_if2 4 tg (pc + 3)) := ei_if2_ok (k := 4) (fun S => fun kt kf => lv_icmp_gt S.1 S.2.1 d ht (fun h => kt (x_lt32.mp h)) (fun h => kf (fun q => h (x_lt32.mpr q))))
theorem er_icmple {off : Int} {tg : Nat} (d : decode cc pc = .ok (.if_icmp .le off, 3)) (ht : (pc : Int) + off = (tg : Int)) : e_Snd ft cl lay cc own nL nm MC MS pc (ei_if2 5 tg (pc + 3)) := ei_if2_ok (k := 5) (fun S => fun kt kf => lv_icmp_le S.1 S.2.1 d ht (fun h => kt (x_le32.mp h)) (fun h => kf (fun q => h (x_le32.mpr q))))
theorem er_ifeq {off : Int} {tg : Nat} (d : decode cc pc = .ok (.ifCond .eq off, 3)) (ht : (pc : Int) + off = (tg : Int)) : e_Snd ft cl lay cc own nL nm MC MS pc (ei_if1 0 tg (pc + 3)) := ei_if1_ok (k := 0) (fun S => fun kt kf => lv_if_eq S.1 S.2.1 d ht (fun h => kt (x_eq0.mp h)) (fun h => kf (fun q => h (x_eq0.mpr q))))
theorem er_ifne {off : Int} {tg : Nat} (d : decode cc pc = .ok (.ifCond .ne off, 3)) (ht : (pc : Int) + off = (tg : Int)) : e_Snd ft cl lay cc own nL nm MC MS pc (ei_if1 1 tg (pc + 3)) := ei_if1_ok (k := 1) (fun S => fun kt kf => lv_if_ne S.1 S.2.1 d ht (fun h => kt (fun q => h (x_eq0.mpr q))) (fun h => kf (fun q => q (x_eq0.mp h))))
theorem er_iflt {off : Int} {tg : Nat} (d : decode cc pc = .ok (.ifCond .lt off, 3)) (ht : (pc : Int) + off = (tg : Int)) : e_Snd ft cl lay cc own nL nm MC MS pc (ei_if1 2 tg (pc + 3)) := ei_if1_ok (k := 2) (fun S => fun kt kf => lv_if_lt S.1 S.2.1 d ht (fun h => kt (x_lt0.mp h)) (fun h => kf (fun q => h (x_lt0.mpr q))))
theorem er_ifge {off : Int} {tg : Nat} (d : decode cc pc = .ok (.ifCond .ge off, 3)) (ht : (pc : Int) + off = (tg : Int)) : e_Snd ft cl lay cc own nL nm MC MS pc (ei_if1 3 tg (pc + 3)) := ei_if1_ok (k := 3) (fun S => fun kt kf => lv_if_ge S.1 S.2.1 d ht (fun h => kt (x_ge0.mp h)) (fun h => kf (fun q => h (x_ge0.mpr q))))
theorem er_ifgt {off : Int} {tg : Nat} (d : decode cc pc = .ok (.ifCond .gt off, 3)) (ht : (pc : Int) + off = (tg : Int)) : e_Snd ft cl lay cc own nL nm MC MS pc (ei_if1 4 tg (pc + 3)) := ei_if1_ok (k := 4) (fun S => fun kt kf => lv_if_gt S.1 S.2.1 d ht (fun h => kt (x_gt0.mp h)) (fun h => kf (fun q => h (x_gt0.mpr q))))
theorem er_ifle {off : Int} {tg : Nat} (d : decode cc pc = .ok (.ifCond .le off, 3)) (ht : (pc : Int) + off = (tg : Int)) : e_Snd ft cl lay cc own nL nm MC MS pc (ei_if1 5 tg (pc + 3)) := ei_if1_ok (k := 5) (fun S => fun kt kf => lv_if_le S.1 S.2.1 d ht (fun h => kt (x_le0.mp h)) (fun h => kf (fun q => h (x_le0.mpr q))))
def eB (g : Int32 → Int32 → Int32) (x y : Int) : Option Int := some (g (Int32.ofInt x) (Int32.ofInt y)).toInt
def eSh (g : Int64 → Int32 → Int64) (x y : Int) : Option Int := some (g (Int64.ofInt x) (Int32.ofInt y)).toInt
theorem eB_ok {g : Int32 → Int32 → Int32} (x y : Int32) (z : Int) (h : eB g x.toInt y.toInt = some z) : True ∧ (g x y).toInt = z := by
  unfold eB at h
  rw [Int32.ofInt_toInt, Int32.ofInt_toInt] at h
  exact ⟨trivial, Option.some.inj h⟩
theorem eSh_ok {g : Int64 → Int32 → Int64} (x : Int64) (y : Int32) (z : Int) (h : eSh g x.toInt y.toInt = some z) : (g x y).toInt = z := by
  unfold eSh at h
  rw [Int64.ofInt_toInt, Int32.ofInt_toInt] at h
  exact Option.some.inj h
def eF_add (x y : Int) : Option Int := some (e32 (x + y))
def eF_sub (x y : Int) : Option Int := some (e32 (x - y))
def eF_mul (x y : Int) : Option Int := some (e32 (x * y))
def eF_div (x y : Int) : Option Int := bif decide (y = 0) then none else some (e32 (x.tdiv y))
def eF_rem (x y : Int) : Option Int := bif decide (y = 0) then none else some (e32 (x - e32 (e32 (x.tdiv y) * y)))
theorem er_iadd (d : decode cc pc = .ok (.iadd, 1)) : e_Snd ft cl lay cc own nL nm MC MS pc (ei_bin eF_add (pc + 1)) := ei_bin_ok (g := fun x y => x + y) (fun _ => True) (fun x y _ => (fun S => fun k => lv_iadd S.1 S.2.1 d k)) (fun x y z h => ⟨trivial, by cases h; exact Int32.toInt_add x y⟩)
theorem er_isub (d : decode cc pc = .ok (.isub, 1)) : e_Snd ft cl lay cc own nL nm MC MS pc (ei_bin eF_sub (pc + 1)) := ei_bin_ok (g := fun x y => x - y) (fun _ => True) (fun x y _ => (fun S => fun k => lv_isub S.1 S.2.1 d k)) (fun x y z h => ⟨trivial, by cases h; exact Int32.toInt_sub x y⟩)
theorem er_imul (d : decode cc pc = .ok (.imul, 1)) : e_Snd ft cl lay cc own nL nm MC MS pc (ei_bin eF_mul (pc + 1)) := ei_bin_ok (g := fun x y => x * y) (fun _ => True) (fun x y _ => (fun S => fun k => lv_imul S.1 S.2.1 d k)) (fun x y z h => ⟨trivial, by cases h; exact Int32.toInt_mul x y⟩)
theorem e_nz {y : Int32} (h : decide (y.toInt = 0) = false) : ¬ y = 0 := fun e => by
  subst e
  have : (0 : Int32).toInt = 0 := by decide
  simp [this] at h
theorem er_idiv (d : decode cc pc = .ok (.idiv, 1)) : e_Snd ft cl lay cc own nL nm MC MS pc (ei_bin eF_div (pc + 1)) := ei_bin_ok (g := fun x y => x / y) (fun y => ¬ y = 0) (fun x y hy => (fun S => fun k => lv_idiv S.1 S.2.1 d hy k)) (fun x y z h => by
  unfold eF_div at h
  cases hb : decide (y.toInt = 0) with
  | true => rw [hb] at h; cases h
  | false =>
    rw [hb] at h
    cases h
    exact ⟨e_nz hb, Int32.toInt_div x y⟩)
theorem er_irem (d : decode cc pc = .ok (.irem, 1)) : e_Snd ft cl lay cc own nL nm MC MS pc (ei_bin eF_rem (pc + 1)) := ei_bin_ok (g := fun x y => x - x / y * y) (fun y => ¬ y = 0) (fun x y hy => (fun S => fun k => lv_irem S.1 S.2.1 d hy k)) (fun x y z h => by
  unfold eF_rem at h
  cases hb : decide (y.toInt = 0) with
  | true => rw [hb] at h; cases h
  | false =>
    rw [hb] at h
    cases h
    refine ⟨e_nz hb, ?_⟩
    rw [Int32.toInt_sub, Int32.toInt_mul, Int32.toInt_div]
    rfl)
theorem er_iand (d : decode cc pc = .ok (.iand, 1)) : e_Snd ft cl lay cc own nL nm MC MS pc (ei_bin (eB (fun x y => x &&& y)) (pc + 1)) := ei_bin_ok (g := fun x y => x &&& y) (fun _ => True) (fun x y _ => (fun S => fun k => lv_iand S.1 S.2.1 d k)) eB_ok
theorem er_ior (d : decode cc pc = .ok (.ior, 1)) : e_Snd ft cl lay cc own nL nm MC MS pc (ei_bin (eB (fun x y => x ||| y)) (pc + 1)) := ei_bin_ok (g := fun x y => x ||| y) (fun _ => True) (fun x y _ => (fun S => fun k => lv_ior S.1 S.2.1 d k)) eB_ok
theorem er_ishr (d : decode cc pc = .ok (.ishr, 1)) : e_Snd ft cl lay cc own nL nm MC MS pc (ei_bin (eB (fun x y => x >>> (y &&& 31))) (pc + 1)) := ei_bin_ok (g := fun x y => x >>> (y &&& 31)) (fun _ => True) (fun x y _ => (fun S => fun k => lv_ishr S.1 S.2.1 d k)) eB_ok
theorem er_ishl (d : decode cc pc = .ok (.ishl, 1)) : e_Snd ft cl lay cc own nL nm MC MS pc (ei_bin (eB (fun x y => x <<< (y &&& 31))) (pc + 1)) := ei_bin_ok (g := fun x y => x <<< (y &&& 31)) (fun _ => True) (fun x y _ => (fun S => fun k => lv_ishl S.1 S.2.1 d k)) eB_ok
theorem er_ineg (d : decode cc pc = .ok (.ineg, 1)) : e_Snd ft cl lay cc own nL nm MC MS pc (ei_un (fun x => (0, e32 (-x))) (pc + 1)) := ei_un_ok (g := fun x => .int (-x)) (fun x => (fun S => fun k => lv_ineg S.1 S.2.1 d k)) (fun x ad => e_c (Int32.toInt_neg x) ad)
theorem er_i2b (d : decode cc pc = .ok (.i2b, 1)) : e_Snd ft cl lay cc own nL nm MC MS pc (ei_un (fun x => (0, x.bmod 256)) (pc + 1)) := ei_un_ok (g := fun x => .int x.toInt8.toInt32) (fun x => (fun S => fun k => lv_i2b S.1 S.2.1 d rfl k)) (fun x ad => e_c (z := x.toInt.bmod 256) (by rw [Int8.toInt_toInt32, Int32.toInt_toInt8]) ad)
theorem er_i2l (d : decode cc pc = .ok (.i2l, 1)) : e_Snd ft cl lay cc own nL nm MC MS pc (ei_un (fun x => (4, x)) (pc + 1)) := ei_un_ok (g := fun x => .long x.toInt64) (fun x => (fun S => fun k => lv_i2l S.1 S.2.1 d rfl k)) (fun x ad => e_cL (Int32.toInt_toInt64 x) ad)
def eG_add (x y : Int) : Option eV := some (4, e64 (x + y))
def eG_sub (x y : Int) : Option eV := some (4, e64 (x - y))
def eG_mul (x y : Int) : Option eV := some (4, e64 (x * y))
def eG_cmp (x y : Int) : Option eV := some (0, bif decide (x < y) then -1 else bif decide (x = y) then 0 else 1)
theorem er_ladd (d : decode cc pc = .ok (.ladd, 1)) : e_Snd ft cl lay cc own nL nm MC MS pc (ei_binL eG_add (pc + 1)) := ei_binL_ok (g := fun x y => .long (x + y)) (fun _ => True) (fun x y _ => (fun S => fun k => lv_ladd S.1 S.2.1 d k)) (fun x y z h => ⟨trivial, fun ad => by cases h; exact e_cL (Int64.toInt_add x y) ad⟩)
theorem er_lsub (d : decode cc pc = .ok (.lsub, 1)) : e_Snd ft cl lay cc own nL nm MC MS pc (ei_binL eG_sub (pc + 1)) := ei_binL_ok (g := fun x y => .long (x - y)) (fun _ => True) (fun x y _ => (fun S => fun k => lv_lsub S.1 S.2.1 d k)) (fun x y z h => ⟨trivial, fun ad => by cases h; exact e_cL (Int64.toInt_sub x y) ad⟩)
theorem er_lmul (d : decode cc pc = .ok (.lmul, 1)) : e_Snd ft cl lay cc own nL nm MC MS pc (ei_binL eG_mul (pc + 1)) := ei_binL_ok (g := fun x y => .long (x * y)) (fun _ => True) (fun x y _ => (fun S => fun k => lv_lmul S.1 S.2.1 d k)) (fun x y z h => ⟨trivial, fun ad => by cases h; exact e_cL (Int64.toInt_mul x y) ad⟩)
theorem er_lcmp (d : decode cc pc = .ok (.lcmp, 1)) : e_Snd ft cl lay cc own nL nm MC MS pc (ei_binL eG_cmp (pc + 1)) := ei_binL_ok (g := fun x y => .int (lg_cmp x y)) (fun _ => True) (fun x y _ => (fun S => fun k => W.lcmp S.1 S.2.1 d k)) (fun x y z h => ⟨trivial, fun ad => by
  cases h
  refine ⟨_, rfl, ?_⟩
  obtain ⟨h1, h2, h3⟩ := x_lg_cmp x y
  rcases Int.lt_trichotomy x.toInt y.toInt with h | h | h
  · rw [h1 h, decide_eq_true h]
    show (-1 : Int32).toInt = -1
    decide
  · rw [h2 h, decide_eq_false (by omega), decide_eq_true h]
    show (0 : Int32).toInt = 0
    decide
  · rw [h3 h, decide_eq_false (by omega), decide_eq_false (by omega)]
    show (1 : Int32).toInt = 1
    decide⟩)
theorem er_lshr (d : decode cc pc = .ok (.lshr, 1)) : e_Snd ft cl lay cc own nL nm MC MS pc (ei_shL (eSh (fun x y => x >>> (y.toInt64 &&& 63))) (pc + 1)) := ei_shL_ok (g := fun x y => x >>> (y.toInt64 &&& 63)) (fun x y => (fun S => fun k => lv_lshr S.1 S.2.1 d rfl k)) eSh_ok
theorem er_lshl (d : decode cc pc = .ok (.lshl, 1)) : e_Snd ft cl lay cc own nL nm MC MS pc (ei_shL (eSh (fun x y => x <<< (y.toInt64 &&& 63))) (pc + 1)) := ei_shL_ok (g := fun x y => x <<< (y.toInt64 &&& 63)) (fun x y => (fun S => fun k => lv_lshl S.1 S.2.1 d rfl k)) eSh_ok
theorem er_lneg (d : decode cc pc = .ok (.lneg, 1)) : e_Snd ft cl lay cc own nL nm MC MS pc (ei_unL (fun x => (4, e64 (-x))) (pc + 1)) := ei_unL_ok (g := fun x => .long (-x)) (fun x => (fun S => fun k => lv_lneg S.1 S.2.1 d k)) (fun x ad => e_cL (Int64.toInt_neg x) ad)
theorem er_l2i (d : decode cc pc = .ok (.l2i, 1)) : e_Snd ft cl lay cc own nL nm MC MS pc (ei_unL (fun x => (0, e32 x)) (pc + 1)) := ei_unL_ok (g := fun x => .int x.toInt32) (fun x => (fun S => fun k => lv_l2i S.1 S.2.1 d rfl k)) (fun x ad => e_c (Int64.toInt_toInt32 x) ad)
theorem er_getf {ci k ix N : Nat} {C : String} {T : u_T} (hc : cl[ci]? = some (C, T, N)) (hin : ∀ w ∈ u_ws C T N, w ∈ x_tbl) (hk : k < N) (hw : Cond.fieldLink own ix (T k).1 (T k).2.1 (T k).2.2.1 ∈ x_tbl) (d : decode cc pc = .ok (.getfield ix, 3)) : e_Snd ft cl lay cc own nL nm MC MS pc (ei_getf ft lay ci k (pc + 3)) := ei_getf_ok (xw_getf hc hin hk hw d)
theorem er_alen (d : decode cc pc = .ok (.arraylength, 1)) : e_Snd ft cl lay cc own nL nm MC MS pc (ei_alen lay (pc + 1)) := ei_alen_ok (fun C => fun h1 h2 h3 h4 k => va_alen C.1.1 C.1.2.1 h1 h2 _ _ h3 h4 rfl d k)
theorem er_aaload (d : decode cc pc = .ok (.aaload, 1)) : e_Snd ft cl lay cc own nL nm MC MS pc (ei_aald lay (pc + 1)) := ei_aald_ok (fun C => fun h0 h1 h2 h3 h4 h5 k => x_aald C.1.1 C.1.2.1 h1 h2 _ _ h0 h3 h4 h5 d k)
theorem er_iaload (d : decode cc pc = .ok (.iaload, 1)) : e_Snd ft cl lay cc own nL nm MC MS pc (ei_ald lay false (pc + 1)) := ei_ald_ok (fun kd hk => by
  have e := Nat.eq_of_beq_eq_true hk
  subst e
  intro p l e R s m args below meth c C H locs cells slots Q ls rest D tys ws a q0 t0 n cA f i h1 h2 h3 h4 h5 k
  exact va_iald C.1.1 C.1.2.1 h1 h2 _ _ h3 h4 h5 d k)
theorem er_baload (d : decode cc pc = .ok (.baload, 1)) : e_Snd ft cl lay cc own nL nm MC MS pc (ei_ald lay true (pc + 1)) := ei_ald_ok (fun kd hk => by
  unfold x_akd at hk
  simp only [Bool.or_eq_true] at hk
  rcases hk with hk | hk
  · have e := Nat.eq_of_beq_eq_true hk
    subst e
    intro p l e R s m args below meth c C H locs cells slots Q ls rest D tys ws a q0 t0 n cA f i h1 h2 h3 h4 h5 k
    exact va_bald C.1.1 C.1.2.1 h1 h2 _ _ h3 h4 h5 d k
  · have e := Nat.eq_of_beq_eq_true hk
    subst e
    intro p l e R s m args below meth c C H locs cells slots Q ls rest D tys ws a q0 t0 n cA f i h1 h2 h3 h4 h5 k
    exact va_zald C.1.1 C.1.2.1 h1 h2 _ _ h3 h4 h5 d k)
theorem er_iastore (d : decode cc pc = .ok (.iastore, 1)) : e_Snd ft cl lay cc own nL nm MC MS pc (ei_ast lay false (pc + 1)) := ei_ast_ok (fun kd hk => by
  have e := Nat.eq_of_beq_eq_true hk
  subst e
  intro p l e R s m args below meth c C H H0 locs cells slots Q ls rest D A tys ws a q0 t0 n cA f i x h1 h2 h6 h7 h3 h4 h5 k
  exact va_iast C.1.1 C.1.2.1 h1 h2 h6 h7 _ _ h3 h4 h5 d k)
theorem er_bastore (d : decode cc pc = .ok (.bastore, 1)) : e_Snd ft cl lay cc own nL nm MC MS pc (ei_ast lay true (pc + 1)) := ei_ast_ok (fun kd hk => by
  unfold x_akd at hk
  simp only [Bool.or_eq_true] at hk
  rcases hk with hk | hk
  · have e := Nat.eq_of_beq_eq_true hk
    subst e
    intro p l e R s m args below meth c C H H0 locs cells slots Q ls rest D A tys ws a q0 t0 n cA f i x h1 h2 h6 h7 h3 h4 h5 k
    exact va_bast C.1.1 C.1.2.1 h1 h2 h6 h7 _ _ h3 h4 h5 d k
  · have e := Nat.eq_of_beq_eq_true hk
    subst e
    intro p l e R s m args below meth c C H H0 locs cells slots Q ls rest D A tys ws a q0 t0 n cA f i x h1 h2 h6 h7 h3 h4 h5 k
    exact va_zast C.1.1 C.1.2.1 h1 h2 h6 h7 _ _ h3 h4 h5 d k)
theorem er_putf {ci k ix N fk : Nat} {C : String} {T : u_T} {ty0 : Nat → FieldType} {ty : FieldType} (hc : cl[ci]? = some (C, T, N)) (hin : ∀ w ∈ u_ws C T N, w ∈ x_tbl) (hty : ∀ k, k < N → parseFieldDescriptor (T k).2.2.1 = some (ty0 k)) (hnm : ∀ a, a < N → ∀ b, b < N → a ≠ b → (T a).2.1 ≠ (T b).2.1) (hk : k < N) (hw : Cond.fieldLink own ix (T k).1 (T k).2.1 (T k).2.2.1 ∈ x_tbl) (hfin : (T k).2.2.2 = false) (hd : ty0 k = ty) (hv : ∀ v, x_pk fk v → narrow ty v = v ∧ fits ty v = true) (d : decode cc pc = .ok (.putfield ix, 3)) : e_Snd ft cl lay cc own nL nm MC MS pc (ei_putf ft lay ci k fk (pc + 3)) := ei_putf_ok (by
  intro p l e R s m args below meth c C1 H H0 locs cells slots Q ls rest D A tys ws a q0 fs v h1 h2 h3 h4 h5 h6 h7 kk
  exact va_put C1.1.1 C1.1.2.1 C1.1.2.2.2.2 hin ty0 hty hnm C1.1.2.2.2.1 h1 h2 h3 h4 q0 h5 hc k hk (C1.1.2.2.2.2 _ hw) (fun _ h => h) hfin (by rw [← hd]; exact hty k hk) (hv v h7).1 (hv v h7).2 h6 d kk)
def e_tswB (pc : Nat) (dflt lo : Int) (n : Nat) (offs : Array Int) (l : List (Int × Int × Nat)) : Bool := l.all (fun q => ((decide (q.2.1 < lo) || decide (lo + n ≤ q.1)) && decide ((pc : Int) + dflt = (q.2.2 : Int))) || (decide (q.1 = q.2.1) && (decide (lo ≤ q.1) && (decide (q.1 < lo + n) && decide (offs[(q.1 - lo).toNat]?.map (fun o => (pc : Int) + o) = some (q.2.2 : Int))))))
theorem er_tsw {dflt lo hi : Int} {offs : Array Int} {len n : Nat} {l : List (Int × Int × Nat)} (d : decode cc pc = .ok (.tableswitch dflt lo hi offs, len)) (hn : hi + 1 = lo + n) (h : e_tswB pc dflt lo n offs l = true) : e_Snd ft cl lay cc own nL nm MC MS pc (ei_sw l) := ei_sw_ok (fun x q hq q1 q2 => by
  have hq := List.all_eq_true.mp h q hq
  simp only [Bool.or_eq_true, Bool.and_eq_true, decide_eq_true_eq] at hq
  rcases hq with ⟨h1 | h1, h2⟩ | ⟨h1, h2, h3, h4⟩
  · have g : x.toInt < lo := by omega
    intro p l e R s m args below meth c S H locs cells slots Q ls rest k
    exact lv_tableOut S.1 S.2.1 d (Or.inl g) h2 k
  · have g : hi < x.toInt := by omega
    intro p l e R s m args below meth c S H locs cells slots Q ls rest k
    exact lv_tableOut S.1 S.2.1 d (Or.inr g) h2 k
  · have e : x.toInt = q.1 := by omega
    rw [← e] at h4
    cases ho : offs[(x.toInt - lo).toNat]? with
    | none => rw [ho] at h4; cases h4
    | some off =>
      rw [ho] at h4
      have g1 : ¬ x.toInt < lo := by omega
      have g2 : ¬ hi < x.toInt := by omega
      intro p l e R s m args below meth c S H locs cells slots Q ls rest k
      exact lv_tableIn S.1 S.2.1 d g1 g2 ho (Option.some.inj h4) k)
end E34
end
end
section
noncomputable section
/-! exact: the stack, the machine's own calls, null -/
def ef_dup (st : List eV) : Option (List eV) := match st with
  | x :: r => bif Nat.beq (e_ty x) 1 then none else some (x :: x :: r)
  | _ => none
def ef_pop (st : List eV) : Option (List eV) := match st with
  | x :: r => bif Nat.beq (e_ty x) 1 then none else some r
  | _ => none
def ef_dup2 (st : List eV) : Option (List eV) := match st with
  | x :: y :: r => bif Nat.beq (e_ty x) 1 || Nat.beq (e_ty y) 1 then none else some (x :: y :: x :: y :: r)
  | _ => none
def ef_dupx1 (st : List eV) : Option (List eV) := match st with
  | x :: y :: r => bif Nat.beq (e_ty x) 1 || Nat.beq (e_ty y) 1 then none else some (x :: y :: x :: r)
  | _ => none
def ef_dupx2 (st : List eV) : Option (List eV) := match st with
  | x :: y :: z :: r => bif Nat.beq (e_ty x) 1 || (Nat.beq (e_ty y) 1 || Nat.beq (e_ty z) 1) then none else some (x :: y :: z :: x :: r)
  | _ => none
theorem e_one {ad : List Nat} {x : eV} {v : Value} (h : e_rel ad x v) (hb : Nat.beq (e_ty x) 1 = false) : v.category = 1 := by
  rw [x_kd_cat (e_ty_ok h), if_neg (fun q => by rw [q] at hb; cases hb)]
section E35
variable {ft : Nat → Nat → Nat} {cl : List vw_C} {lay : List eY} {cc : ByteArray} {own : String} {nL : Nat} {nm : String} {MC MS pc nx : Nat}
theorem ef_dup_ok (hw : ∀ v : Value, v.category = 1 → x_Stk cc own nL pc nx [v] [v, v]) : e_Snd ft cl lay cc own nL nm MC MS pc (ei_stk ef_dup nx) := ei_stk_ok fun ad st st' stk h hr => by
  unfold ef_dup at h
  split at h
  · rename_i x r
    cases hb : Nat.beq (e_ty x) 1 with
    | true => rw [hb] at h; cases h
    | false =>
      rw [hb] at h
      cases h
      match stk, hr with
      | v :: rest, hr => exact ⟨[v], [v, v], rest, rfl, hw v (e_one hr.1 hb), hr.1, hr.1, hr.2⟩
  · cases h
theorem ef_pop_ok (hw : ∀ v : Value, v.category = 1 → x_Stk cc own nL pc nx [v] []) : e_Snd ft cl lay cc own nL nm MC MS pc (ei_stk ef_pop nx) := ei_stk_ok fun ad st st' stk h hr => by
  unfold ef_pop at h
  split at h
  · rename_i x r
    cases hb : Nat.beq (e_ty x) 1 with
    | true => rw [hb] at h; cases h
    | false =>
      rw [hb] at h
      cases h
      match stk, hr with
      | v :: rest, hr => exact ⟨[v], [], rest, rfl, hw v (e_one hr.1 hb), hr.2⟩
  · cases h
theorem ef_dup2_ok (hw : ∀ v u : Value, v.category = 1 → u.category = 1 → x_Stk cc own nL pc nx [v, u] [v, u, v, u]) : e_Snd ft cl lay cc own nL nm MC MS pc (ei_stk ef_dup2 nx) := ei_stk_ok fun ad st st' stk h hr => by
  unfold ef_dup2 at h
  split at h
  · rename_i x y r
    cases hb : (Nat.beq (e_ty x) 1 || Nat.beq (e_ty y) 1) with
    | true => rw [hb] at h; cases h
    | false =>
      rw [hb] at h
      cases h
      simp only [Bool.or_eq_false_iff] at hb
      match stk, hr with
      | v :: u :: rest, hr => exact ⟨[v, u], [v, u, v, u], rest, rfl, hw v u (e_one hr.1 hb.1) (e_one hr.2.1 hb.2), hr.1, hr.2.1, hr.1, hr.2.1, hr.2.2⟩
  · cases h
theorem ef_dupx1_ok (hw : ∀ v u : Value, v.category = 1 → u.category = 1 → x_Stk cc own nL pc nx [v, u] [v, u, v]) : e_Snd ft cl lay cc own nL nm MC MS pc (ei_stk ef_dupx1 nx) := ei_stk_ok fun ad st st' stk h hr => by
  unfold ef_dupx1 at h
  split at h
  · rename_i x y r
    cases hb : (Nat.beq (e_ty x) 1 || Nat.beq (e_ty y) 1) with
    | true => rw [hb] at h; cases h
    | false =>
      rw [hb] at h
      cases h
      simp only [Bool.or_eq_false_iff] at hb
      match stk, hr with
      | v :: u :: rest, hr => exact ⟨[v, u], [v, u, v], rest, rfl, hw v u (e_one hr.1 hb.1) (e_one hr.2.1 hb.2), hr.1, hr.2.1, hr.1, hr.2.2⟩
  · cases h
theorem ef_dupx2_ok (hw : ∀ v u w : Value, v.category = 1 → u.category = 1 → w.category = 1 → x_Stk cc own nL pc nx [v, u, w] [v, u, w, v]) : e_Snd ft cl lay cc own nL nm MC MS pc (ei_stk ef_dupx2 nx) := ei_stk_ok fun ad st st' stk h hr => by
  unfold ef_dupx2 at h
  split at h
  · rename_i x y z r
    cases hb : (Nat.beq (e_ty x) 1 || (Nat.beq (e_ty y) 1 || Nat.beq (e_ty z) 1)) with
    | true => rw [hb] at h; cases h
    | false =>
      rw [hb] at h
      cases h
      simp only [Bool.or_eq_false_iff] at hb
      match stk, hr with
      | v :: u :: w :: rest, hr => exact ⟨[v, u, w], [v, u, w, v], rest, rfl, hw v u w (e_one hr.1 hb.1) (e_one hr.2.1 hb.2.1) (e_one hr.2.2.1 hb.2.2), hr.1, hr.2.1, hr.2.2.1, hr.1, hr.2.2.2⟩
  · cases h
theorem er_dup (d : decode cc pc = .ok (.dup, 1)) : e_Snd ft cl lay cc own nL nm MC MS pc (ei_stk ef_dup (pc + 1)) := ef_dup_ok (fun v h => (fun S => fun k => lv_dup S.1 S.2.1 d h k))
theorem er_pop (d : decode cc pc = .ok (.pop, 1)) : e_Snd ft cl lay cc own nL nm MC MS pc (ei_stk ef_pop (pc + 1)) := ef_pop_ok (fun v h => (fun S => fun k => lv_pop S.1 S.2.1 d h k))
theorem er_dup2 (d : decode cc pc = .ok (.dup2, 1)) : e_Snd ft cl lay cc own nL nm MC MS pc (ei_stk ef_dup2 (pc + 1)) := ef_dup2_ok (fun v u h h' => (fun S => fun k => lv_dup2_11 S.1 S.2.1 d h h' k))
theorem er_dup_x1 (d : decode cc pc = .ok (.dup_x1, 1)) : e_Snd ft cl lay cc own nL nm MC MS pc (ei_stk ef_dupx1 (pc + 1)) := ef_dupx1_ok (fun v u h h' => (fun S => fun k => lv_dup_x1 S.1 S.2.1 d h h' k))
theorem er_dup_x2 (d : decode cc pc = .ok (.dup_x2, 1)) : e_Snd ft cl lay cc own nL nm MC MS pc (ei_stk ef_dupx2 (pc + 1)) := ef_dupx2_ok (fun v u w h h' h'' => (fun S => fun k => lv_dup_x2 S.1 S.2.1 d h h' h'' k))
/-- calls that the machine knows -/
def ei_m2 (F : Int → Int → Int) (nx : Nat) : eS → Option eS := fun t => match t.2.2.1 with
  | (0, y) :: (0, x) :: r => bif Nat.ble (e_cats r) 8 then some (nx, t.2.1, (0, F x y) :: r, t.2.2.2) else none
  | _ => none
def ei_abs (nx : Nat) : eS → Option eS := fun t => match t.2.2.1 with
  | (0, x) :: r => bif Nat.ble (e_cats r) 8 then some (nx, t.2.1, (0, bif decide (0 ≤ x) then x else e32 (-x)) :: r, t.2.2.2) else none
  | _ => none
def eM_min (x y : Int) : Int := bif decide (y < x) then y else x
def eM_max (x y : Int) : Int := bif decide (x < y) then y else x
theorem er_min {ix : Nat} (hl : Cond.methodLink own ix Lib.Math.min.name ∈ x_tbl) (hst : Cond.static Lib.Math.min.name ∈ x_tbl) (hi : Cond.initialized "java/lang/Math" ∈ x_tbl) (hc : Cond.code Lib.Math.min.name Lib.Math.min.code 2 (some .int) ∈ x_tbl) (d : decode cc pc = .ok (.invokestatic ix, 3)) : e_Snd ft cl lay cc own nL nm MC MS pc (ei_m2 eM_min (pc + 3)) := by
  intro ad ce sl p l e R s m args below meth c D A H0 Q C hce hsl hA t t' hpc hf hg
  unfold ei_m2 at hf
  split at hf
  · rename_i y x r hst'
    cases hb : Nat.ble (e_cats r) 8 with
    | false => rw [hb] at hf; cases hf
    | true =>
      rw [hb] at hf
      cases hf
      have b1 := Nat.le_of_ble_eq_true hb
      subst hpc
      intro ls stk H locs ⟨lv, ws, tys, h1, h2, h3, h4⟩
      rw [hst'] at h3
      match stk, h3 with
      | v1 :: v2 :: rest, h3 =>
        obtain ⟨ny, rfl, rfl⟩ := e_int h3.1
        obtain ⟨nx', rfl, rfl⟩ := e_int h3.2.1
        have hcat := (e_cats_ok h3.2.2).1
        have hts := C.1.2.2.2.2
        refine va_mmin C.1.1 C.1.2.1 (by rw [C.1.2.2.1, h1.1]) C.1.2.2.2.1 (hts _ hl) (hts _ hst) (hts _ hi) (hts _ hc) C.2.2.2.2.1 (by have := C.2.2.2.2.2.1; omega) (by rw [C.2.2.1]; exact hce) (by rw [C.2.2.2.1]; exact hsl) d (hg ls (.int (if ny < nx' then ny else nx') :: rest) H locs ⟨lv, ws, tys, h1, h2, ⟨⟨_, rfl, ?_⟩, h3.2.2⟩, h4⟩)
        show _ = eM_min _ _
        unfold eM_min
        by_cases hlt : ny < nx'
        · rw [if_pos hlt, decide_eq_true (x_lt32.mp hlt)]; rfl
        · rw [if_neg hlt, decide_eq_false (fun q => hlt (x_lt32.mpr q))]; rfl
  · cases hf
theorem er_max {ix : Nat} (hl : Cond.methodLink own ix Lib.Math.max.name ∈ x_tbl) (hst : Cond.static Lib.Math.max.name ∈ x_tbl) (hi : Cond.initialized "java/lang/Math" ∈ x_tbl) (hc : Cond.code Lib.Math.max.name Lib.Math.max.code 2 (some .int) ∈ x_tbl) (d : decode cc pc = .ok (.invokestatic ix, 3)) : e_Snd ft cl lay cc own nL nm MC MS pc (ei_m2 eM_max (pc + 3)) := by
  intro ad ce sl p l e R s m args below meth c D A H0 Q C hce hsl hA t t' hpc hf hg
  unfold ei_m2 at hf
  split at hf
  · rename_i y x r hst'
    cases hb : Nat.ble (e_cats r) 8 with
    | false => rw [hb] at hf; cases hf
    | true =>
      rw [hb] at hf
      cases hf
      have b1 := Nat.le_of_ble_eq_true hb
      subst hpc
      intro ls stk H locs ⟨lv, ws, tys, h1, h2, h3, h4⟩
      rw [hst'] at h3
      match stk, h3 with
      | v1 :: v2 :: rest, h3 =>
        obtain ⟨ny, rfl, rfl⟩ := e_int h3.1
        obtain ⟨nx', rfl, rfl⟩ := e_int h3.2.1
        have hcat := (e_cats_ok h3.2.2).1
        have hts := C.1.2.2.2.2
        refine va_mmax C.1.1 C.1.2.1 (by rw [C.1.2.2.1, h1.1]) C.1.2.2.2.1 (hts _ hl) (hts _ hst) (hts _ hi) (hts _ hc) C.2.2.2.2.1 (by have := C.2.2.2.2.2.1; omega) (by rw [C.2.2.1]; exact hce) (by rw [C.2.2.2.1]; exact hsl) d (hg ls (.int (if nx' < ny then ny else nx') :: rest) H locs ⟨lv, ws, tys, h1, h2, ⟨⟨_, rfl, ?_⟩, h3.2.2⟩, h4⟩)
        show _ = eM_max _ _
        unfold eM_max
        by_cases hlt : nx' < ny
        · rw [if_pos hlt, decide_eq_true (x_lt32.mp hlt)]; rfl
        · rw [if_neg hlt, decide_eq_false (fun q => hlt (x_lt32.mpr q))]; rfl
  · cases hf
theorem er_abs {ix : Nat} (hl : Cond.methodLink own ix Lib.Math.abs.name ∈ x_tbl) (hst : Cond.static Lib.Math.abs.name ∈ x_tbl) (hi : Cond.initialized "java/lang/Math" ∈ x_tbl) (hc : Cond.code Lib.Math.abs.name Lib.Math.abs.code 1 (some .int) ∈ x_tbl) (d : decode cc pc = .ok (.invokestatic ix, 3)) : e_Snd ft cl lay cc own nL nm MC MS pc (ei_abs (pc + 3)) := by
  intro ad ce sl p l e R s m args below meth c D A H0 Q C hce hsl hA t t' hpc hf hg
  unfold ei_abs at hf
  split at hf
  · rename_i x r hst'
    cases hb : Nat.ble (e_cats r) 8 with
    | false => rw [hb] at hf; cases hf
    | true =>
      rw [hb] at hf
      cases hf
      have b1 := Nat.le_of_ble_eq_true hb
      subst hpc
      intro ls stk H locs ⟨lv, ws, tys, h1, h2, h3, h4⟩
      rw [hst'] at h3
      match stk, h3 with
      | v2 :: rest, h3 =>
        obtain ⟨nx', rfl, rfl⟩ := e_int h3.1
        have hcat := (e_cats_ok h3.2).1
        have hts := C.1.2.2.2.2
        refine va_mabs C.1.1 C.1.2.1 (by rw [C.1.2.2.1, h1.1]) C.1.2.2.2.1 (hts _ hl) (hts _ hst) (hts _ hi) (hts _ hc) C.2.2.2.2.1 (by have := C.2.2.2.2.2.1; omega) (by rw [C.2.2.1]; exact hce) (by rw [C.2.2.2.1]; exact hsl) d (hg ls (.int (if 0 ≤ nx' then nx' else 0 - nx') :: rest) H locs ⟨lv, ws, tys, h1, h2, ⟨⟨_, rfl, ?_⟩, h3.2⟩, h4⟩)
        show _ = bif decide (0 ≤ nx'.toInt) then nx'.toInt else e32 (-nx'.toInt)
        by_cases hle : 0 ≤ nx'
        · rw [if_pos hle, decide_eq_true (x_ge0.mp hle)]; rfl
        · rw [if_neg hle, decide_eq_false (fun q => hle (x_ge0.mpr q))]
          rw [Int32.toInt_sub, x_z, Int.zero_sub]
          rfl
  · cases hf
/-- null, or a cell -/
def ei_null (tg nx : Nat) : eS → Option eS := fun t => match t.2.2.1 with
  | (2, _) :: r => some (tg, t.2.1, r, t.2.2.2)
  | (1, _) :: r => some (nx, t.2.1, r, t.2.2.2)
  | _ => none
theorem er_ifnull {off : Int} {tg : Nat} (d : decode cc pc = .ok (.ifnull off, 3)) (ht : (pc : Int) + off = (tg : Int)) : e_Snd ft cl lay cc own nL nm MC MS pc (ei_null tg (pc + 3)) := by
  intro ad ce sl p l e R s m args below meth c D A H0 Q C hce hsl hA t t' hpc hf hg
  unfold ei_null at hf
  split at hf
  · rename_i b r hst
    cases hf
    subst hpc
    intro ls stk H locs ⟨lv, ws, tys, h1, h2, h3, h4⟩
    rw [hst] at h3
    match stk, h3 with
    | v :: rest, h3 =>
      have hv : v = .null := h3.1
      subst hv
      exact lv_ifnullN C.1.1 C.1.2.1 d ht (hg ls rest H locs ⟨lv, ws, tys, h1, h2, h3.2, h4⟩)
  · rename_i b r hst
    cases hf
    subst hpc
    intro ls stk H locs ⟨lv, ws, tys, h1, h2, h3, h4⟩
    rw [hst] at h3
    match stk, h3 with
    | v :: rest, h3 =>
      obtain ⟨a, -, rfl⟩ := h3.1
      exact lv_ifnull C.1.1 C.1.2.1 d (hg ls rest H locs ⟨lv, ws, tys, h1, h2, h3.2, h4⟩)
  · cases hf
theorem er_i2c (d : decode cc pc = .ok (.i2c, 1)) : e_Snd ft cl lay cc own nL nm MC MS pc (ei_un (fun x => (0, ((Int32.ofInt x).toUInt32 % 65536).toInt32.toInt)) (pc + 1)) := ei_un_ok (g := fun x => .int (x.toUInt32 % 65536).toInt32) (fun x => (fun S => fun k => lv_i2c S.1 S.2.1 d rfl k)) (fun x ad => e_c (z := ((Int32.ofInt x.toInt).toUInt32 % 65536).toInt32.toInt) (by rw [Int32.ofInt_toInt]) ad)
def eG_and (x y : Int) : Option eV := some (4, (Int64.ofInt x &&& Int64.ofInt y).toInt)
theorem er_land (d : decode cc pc = .ok (.land, 1)) : e_Snd ft cl lay cc own nL nm MC MS pc (ei_binL eG_and (pc + 1)) := ei_binL_ok (g := fun x y => .long (x &&& y)) (fun _ => True) (fun x y _ => (fun S => fun k => lv_land S.1 S.2.1 d k)) (fun x y z h => ⟨trivial, fun ad => by
  unfold eG_and at h
  rw [Int64.ofInt_toInt, Int64.ofInt_toInt] at h
  cases h
  exact e_cL rfl ad⟩)
def eG_div (x y : Int) : Option eV := bif decide (y = 0) then none else some (4, e64 (x.tdiv y))
theorem er_ldiv (d : decode cc pc = .ok (.ldiv, 1)) : e_Snd ft cl lay cc own nL nm MC MS pc (ei_binL eG_div (pc + 1)) := ei_binL_ok (g := fun x y => .long (x / y)) (fun y => ¬ y = 0) (fun x y hy => (fun S => fun k => lv_ldiv S.1 S.2.1 d hy k)) (fun x y z h => by
  unfold eG_div at h
  cases hb : decide (y.toInt = 0) with
  | true => rw [hb] at h; cases h
  | false =>
    rw [hb] at h
    cases h
    refine ⟨fun e => ?_, fun ad => e_cL (Int64.toInt_div x y) ad⟩
    subst e
    have : (0 : Int64).toInt = 0 := by decide
    simp [this] at hb)
end E35
end
end
section
noncomputable section
/-! helps for contracts: a reference of an object; a branch by its two ways -/
theorem e_getr {lay : List eY} {ft : Nat → Nat → Nat} {ci k nx p n : Nat} {l : eL} {r : List eV} {w : eW} {j jj : Nat} (hy : lay[j]? = some (0, ci, n)) (hk : k < n) (hf : ft ci k = 1) (hw : w j k = (jj : Int)) : ei_getf ft lay ci k nx (p, l, (1, (j : Int)) :: r, w) = some (nx, l, (1, (jj : Int)) :: r, w) := by
  unfold ei_getf
  simp only [Int.toNat_natCast, hy, Nat.beq_refl, Nat.ble_eq_true_of_le (show k + 1 ≤ n from hk), Bool.and_self, cond_true, hf, hw, e_rd]
  rw [decide_eq_false (by omega)]
  rfl
section E43
variable {fd : Nat} {lay : List eY} {code : Nat → Nat → eE} {I : Nat → xM} {d M k tg nx a b p : Nat} {l : eL} {r : List eV} {w : eW} {Q : List eV → eW → Prop}
theorem e_Ok.if2 {x y : Int} (hc : code M p = (0, ei_if2 k tg nx, a, b)) (ht : x_cnd k x y → e_Ok fd lay code I d M (tg, l, r, w) Q) (hf : ¬ x_cnd k x y → e_Ok fd lay code I d M (nx, l, r, w) Q) : e_Ok fd lay code I d M (p, l, (0, y) :: (0, x) :: r, w) Q := by
  by_cases h : x_cnd k x y
  · exact e_Ok.step hc (e_if2_t h) (ht h)
  · exact e_Ok.step hc (e_if2_f h) (hf h)
theorem e_Ok.if1 {x : Int} (hc : code M p = (0, ei_if1 k tg nx, a, b)) (ht : x_cnd k x 0 → e_Ok fd lay code I d M (tg, l, r, w) Q) (hf : ¬ x_cnd k x 0 → e_Ok fd lay code I d M (nx, l, r, w) Q) : e_Ok fd lay code I d M (p, l, (0, x) :: r, w) Q := by
  by_cases h : x_cnd k x 0
  · exact e_Ok.step hc (e_if1_t h) (ht h)
  · exact e_Ok.step hc (e_if1_f h) (hf h)
end E43
end
end
section
noncomputable section
/-! from a picture to exact contents -/
/-- what a picture's value says of a number -/
def e_of (x : xV) (z : Int) : Prop := match x.1 with
  | 0 => x.2.1 ≤ z ∧ z ≤ x.2.2
  | 1 => z = x.2.1
  | 2 => z = -1
  | _ => False
/-- a picture's value fits a slot of kind fk -/
def e_fit (fk : Nat) (x : xV) : Bool := match fk with
  | 0 => Nat.beq x.1 0
  | _ => Nat.beq x.1 2 || (Nat.beq x.1 1 && decide (0 ≤ x.2.1))
theorem e_fit_ok {ad : List Nat} {V : List Int} {sc : Nat × Nat × List Nat} {fk : Nat} {x : xV} {v : Value} (h : e_fit fk x = true) (hr : x_rel ad V sc x v) : ∃ z, e_slot ad fk z v ∧ e_of x z := by
  obtain ⟨t, a, b⟩ := x
  unfold e_fit at h
  unfold e_slot
  split at h
  · have e := Nat.eq_of_beq_eq_true h
    simp only at e
    subst e
    obtain ⟨n, rfl, h1, h2⟩ := hr
    exact ⟨n.toInt, ⟨n, rfl, rfl⟩, h1, h2⟩
  · rename_i n0
    simp only [Bool.or_eq_true, Bool.and_eq_true, decide_eq_true_eq] at h
    rcases h with h | ⟨h, h0⟩
    · have e := Nat.eq_of_beq_eq_true h
      subst e
      refine ⟨-1, ?_, rfl⟩
      split
      · exact (n0 rfl).elim
      · exact Or.inl ⟨rfl, hr⟩
    · have e := Nat.eq_of_beq_eq_true h
      subst e
      obtain ⟨a', h1, h2⟩ := hr
      refine ⟨a, ?_, rfl⟩
      split
      · exact (n0 rfl).elim
      · exact Or.inr ⟨h0, a', h1, h2⟩
/-- a cell's picture fits -/
def e_fitC (ft : Nat → Nat → Nat) (c : xC) : Bool := match c.1 with
  | 0 => (List.range c.2.2.1).all (fun k => e_fit (ft c.2.1 k) (x_get c.2.2.2.1 c.2.2.2.2 k))
  | 1 => Nat.beq c.2.2.2.1.1 0 && c.2.2.2.2.all (fun q => Nat.beq q.2.1 0)
  | 2 => Nat.beq c.2.2.2.1.1 0 && c.2.2.2.2.all (fun q => Nat.beq q.2.1 0)
  | 3 => Nat.beq c.2.2.2.1.1 0 && c.2.2.2.2.all (fun q => Nat.beq q.2.1 0)
  | _ => e_fit 1 c.2.2.2.1 && c.2.2.2.2.all (fun q => e_fit 1 q.2)
theorem e_get_all {P : xV → Prop} {d : xV} (hd : P d) : ∀ {o : xA}, (∀ q ∈ o, P q.2) → ∀ k, P (x_get d o k)
  | [], _, k => hd
  | q :: r, h, k => by
    rw [x_get_cons]
    cases Nat.beq q.1 k with
    | true => exact h q List.mem_cons_self
    | false => exact e_get_all hd (fun p hp => h p (List.mem_cons_of_mem _ hp)) k
theorem e_of_rel {ad : List Nat} {V : List Int} {sc : Nat × Nat × List Nat} {x : xV} {n : Int32} (h : Nat.beq x.1 0 = true) (hr : x_rel ad V sc x (.int n)) : e_of x n.toInt := by
  obtain ⟨t, a, b⟩ := x
  have e := Nat.eq_of_beq_eq_true h
  simp only at e
  subst e
  obtain ⟨m, hm, h1, h2⟩ := hr
  cases hm
  exact ⟨h1, h2⟩
theorem e_cell_of {ft : Nat → Nat → Nat} {cl : List vw_C} {ad : List Nat} {V : List Int} {sc : Nat × Nat × List Nat} {tys : List (ClassId × FieldType)} {c : xC} {e : va_E} (hf : e_fitC ft c = true) (h : x_cell cl ad V sc tys c e) : ∃ g : Nat → Int, e_cell ft cl ad tys (c.1, c.2.1, c.2.2.1) g e ∧ ∀ k, k < c.2.2.1 → e_of (x_get c.2.2.2.1 c.2.2.2.2 k) (g k) := by
  obtain ⟨kd, ci, n, d, o⟩ := c
  unfold e_fitC at hf
  unfold x_cell at h
  unfold e_cell
  split at h
  · rename_i h0
    simp only at h0
    subst h0
    simp only at hf h ⊢
    obtain ⟨fs, g1, g2, g3⟩ := h
    have key : ∀ k, ∃ z, k < n → ∃ v, fs[k]? = some v ∧ e_slot ad (ft ci k) z v ∧ e_of (x_get d o k) z := fun k => by
      by_cases hk : k < n
      · obtain ⟨v, v1, v2⟩ := g3 k hk
        obtain ⟨z, z1, z2⟩ := e_fit_ok (List.all_eq_true.mp hf k (List.mem_range.mpr hk)) v2
        exact ⟨z, fun _ => ⟨v, v1, z1, z2⟩⟩
      · exact ⟨0, fun h => absurd h hk⟩
    refine ⟨fun k => (key k).choose, ⟨fs, g1, g2, fun k hk => ?_⟩, fun k hk => ?_⟩
    · obtain ⟨v, v1, v2, v3⟩ := (key k).choose_spec hk
      exact ⟨v, v1, v2⟩
    · obtain ⟨v, v1, v2, v3⟩ := (key k).choose_spec hk
      exact v3
  · rename_i h0
    simp only at h0
    subst h0
    simp only [Bool.and_eq_true] at hf
    obtain ⟨t0, cA, f, g1, g2, g3, g4⟩ := h
    have hz := fun k => e_get_all (P := fun x => Nat.beq x.1 0 = true) hf.1 (fun q hq => List.all_eq_true.mp hf.2 q hq) k
    exact ⟨fun k => (f k).toInt, ⟨t0, cA, f, g1, g2, g3, fun k hk => rfl⟩, fun k hk => e_of_rel (hz k) (g4 k hk)⟩
  · rename_i h0
    simp only at h0
    subst h0
    simp only [Bool.and_eq_true] at hf
    obtain ⟨t0, cA, f, g1, g2, g3, g4⟩ := h
    have hz := fun k => e_get_all (P := fun x => Nat.beq x.1 0 = true) hf.1 (fun q hq => List.all_eq_true.mp hf.2 q hq) k
    exact ⟨fun k => (f k).toInt, ⟨t0, cA, f, g1, g2, g3, fun k hk => rfl⟩, fun k hk => e_of_rel (hz k) (g4 k hk)⟩
  · rename_i h0
    simp only at h0
    subst h0
    simp only [Bool.and_eq_true] at hf
    obtain ⟨t0, cA, f, g1, g2, g3, g4⟩ := h
    have hz := fun k => e_get_all (P := fun x => Nat.beq x.1 0 = true) hf.1 (fun q hq => List.all_eq_true.mp hf.2 q hq) k
    exact ⟨fun k => (f k).toInt, ⟨t0, cA, f, g1, g2, g3, fun k hk => rfl⟩, fun k hk => e_of_rel (hz k) (g4 k hk)⟩
  · rename_i h0
    simp only at h0
    subst h0
    simp only [Bool.and_eq_true] at hf
    obtain ⟨t0, cA, r, f, g0, g1, g2, g3, g4⟩ := h
    have hz := fun k => e_get_all (P := fun x => e_fit 1 x = true) hf.1 (fun q hq => List.all_eq_true.mp hf.2 q hq) k
    have key : ∀ k, ∃ z, k < n → e_slot ad 1 z (va_rf (f k)) ∧ e_of (x_get d o k) z := fun k => by
      by_cases hk : k < n
      · obtain ⟨z, z1, z2⟩ := e_fit_ok (hz k) (g4 k hk)
        exact ⟨z, fun _ => ⟨z1, z2⟩⟩
      · exact ⟨0, fun h => absurd h hk⟩
    exact ⟨fun k => (key k).choose, ⟨t0, cA, r, f, g0, g1, g2, g3, fun k hk => ((key k).choose_spec hk).1⟩, fun k hk => ((key k).choose_spec hk).2⟩
  · rename_i h0
    simp only at h0
    subst h0
    simp only [Bool.and_eq_true] at hf
    obtain ⟨t0, cA, f, g1, g2, g3, g4⟩ := h
    have hz := fun k => e_get_all (P := fun x => e_fit 1 x = true) hf.1 (fun q hq => List.all_eq_true.mp hf.2 q hq) k
    have key : ∀ k, ∃ z, k < n → e_slot ad 1 z (va_rf (f k)) ∧ e_of (x_get d o k) z := fun k => by
      by_cases hk : k < n
      · obtain ⟨z, z1, z2⟩ := e_fit_ok (hz k) (g4 k hk)
        exact ⟨z, fun _ => ⟨z1, z2⟩⟩
      · exact ⟨0, fun h => absurd h hk⟩
    exact ⟨fun k => (key k).choose, ⟨t0, cA, f, g1, g2, g3, fun k hk => ((key k).choose_spec hk).1⟩, fun k hk => ((key k).choose_spec hk).2⟩
  · exact h.elim
/-- all cells at once -/
theorem e_world_of {ft : Nat → Nat → Nat} {cl : List vw_C} {V : List Int} {sc : Nat × Nat × List Nat} {tys : List (ClassId × FieldType)} {wx : List xC} {ws : va_W} (hf : wx.all (e_fitC ft) = true) (h : x_world cl V sc tys wx ws) : ∃ w : eW, e_world ft cl (wx.map (fun c => (c.1, c.2.1, c.2.2.1))) (ws.map Prod.fst) tys w ws ∧ ∀ (j : Nat) (c : xC), wx[j]? = some c → ∀ k, k < c.2.2.1 → e_of (x_get c.2.2.2.1 c.2.2.2.2 k) (w j k) := by
  have key : ∀ j : Nat, ∃ g : Nat → Int, ∀ (c : xC) (q : Nat × va_E), wx[j]? = some c → ws[j]? = some q → e_cell ft cl (ws.map Prod.fst) tys (c.1, c.2.1, c.2.2.1) g q.2 ∧ ∀ k, k < c.2.2.1 → e_of (x_get c.2.2.2.1 c.2.2.2.2 k) (g k) := fun j => by
    cases hc : wx[j]? with
    | none => exact ⟨fun _ => 0, fun c q h => by cases h⟩
    | some c =>
      cases hq : ws[j]? with
      | none => exact ⟨fun _ => 0, fun c q h h' => by cases h'⟩
      | some q =>
        obtain ⟨g, g1, g2⟩ := e_cell_of (List.all_eq_true.mp hf c (List.mem_of_getElem? hc)) (h.2.2 j c q hc hq)
        exact ⟨g, fun c' q' h1 h2 => by cases h1; cases h2; exact ⟨g1, g2⟩⟩
  refine ⟨fun j => (key j).choose, ⟨rfl, by rw [List.length_map]; exact h.1, fun j y q hy hq => ?_⟩, fun j c hc k hk => ?_⟩
  · rw [List.getElem?_map, Option.map_eq_some_iff] at hy
    obtain ⟨c, hc, rfl⟩ := hy
    exact ((key j).choose_spec c q hc hq).1
  · have hlt : j < ws.length := by rw [← h.1]; exact (List.getElem?_eq_some_iff.mp hc).1
    exact ((key j).choose_spec c ws[j] hc (List.getElem?_eq_getElem hlt)).2 k hk
end
end
section
noncomputable section
/-! the cells that stand, the kinds of their fields, the methods by number; tables as trees -/
def x_nth (l : List Nat) (k : Nat) : Nat := match x_at l k with
  | some x => x
  | none => 0
def elay : List eY := [(0, 11, 15), (0, 8, 17), (0, 1, 5), (1, 0, 32), (1, 0, 4000), (2, 0, 4000), (1, 0, 32), (1, 0, 500), (0, 3, 12), (5, 0, 4), (0, 7, 8), (1, 0, 64), (1, 0, 64), (1, 0, 64), (1, 0, 64), (1, 0, 64), (3, 0, 64), (3, 0, 64), (1, 0, 64), (0, 4, 20), (1, 0, 4), (1, 0, 4), (1, 0, 4), (1, 0, 4), (1, 0, 4), (1, 0, 4), (1, 0, 4), (1, 0, 4), (1, 0, 4), (1, 0, 4), (6, 0, 4), (1, 0, 32), (1, 0, 32), (1, 0, 32), (1, 0, 32), (1, 0, 4), (1, 0, 32), (1, 0, 32), (1, 0, 32), (1, 0, 32), (1, 0, 32), (6, 0, 32), (1, 0, 4), (1, 0, 4), (1, 0, 4), (1, 0, 4), (1, 0, 4), (1, 0, 4), (1, 0, 4), (1, 0, 4), (1, 0, 4), (1, 0, 4), (1, 0, 4), (1, 0, 4), (1, 0, 4), (1, 0, 4), (1, 0, 4), (1, 0, 4), (1, 0, 4), (1, 0, 4), (1, 0, 4), (1, 0, 4), (1, 0, 4), (1, 0, 4), (1, 0, 4), (1, 0, 4), (1, 0, 4), (1, 0, 4), (1, 0, 4), (1, 0, 4), (1, 0, 4), (1, 0, 4), (1, 0, 4), (1, 0, 4), (0, 2, 15), (1, 0, 8000), (1, 0, 8), (3, 0, 8), (3, 0, 8), (3, 0, 8), (3, 0, 8), (1, 0, 8), (5, 10, 16), (1, 0, 8), (1, 0, 128), (1, 0, 6), (0, 0, 20), (5, 5, 6), (1, 0, 8), (1, 0, 8), (1, 0, 7), (1, 0, 7), (1, 0, 7), (1, 0, 32), (0, 1, 5), (1, 0, 32), (1, 0, 4000), (0, 5, 12), (0, 5, 12), (0, 5, 12), (0, 5, 12), (0, 5, 12), (0, 5, 12), (0, 0, 20), (5, 5, 6), (1, 0, 8), (1, 0, 8), (1, 0, 7), (1, 0, 7), (1, 0, 7), (1, 0, 32), (0, 1, 5), (1, 0, 32), (1, 0, 4000), (0, 5, 12), (0, 5, 12), (0, 5, 12), (0, 5, 12), (0, 5, 12), (0, 5, 12), (0, 0, 20), (5, 5, 6), (1, 0, 8), (1, 0, 8), (1, 0, 7), (1, 0, 7), (1, 0, 7), (1, 0, 32), (0, 1, 5), (1, 0, 32), (1, 0, 4000), (0, 5, 12), (0, 5, 12), (0, 5, 12), (0, 5, 12), (0, 5, 12), (0, 5, 12), (0, 0, 20), (5, 5, 6), (1, 0, 8), (1, 0, 8), (1, 0, 7), (1, 0, 7), (1, 0, 7), (1, 0, 32), (0, 1, 5), (1, 0, 32), (1, 0, 4000), (0, 5, 12), (0, 5, 12), (0, 5, 12), (0, 5, 12), (0, 5, 12), (0, 5, 12), (0, 10, 21), (1, 0, 20), (1, 0, 20), (1, 0, 600), (1, 0, 600), (1, 0, 600), (0, 10, 21), (1, 0, 20), (1, 0, 20), (1, 0, 600), (1, 0, 600), (1, 0, 600), (0, 10, 21), (1, 0, 20), (1, 0, 20), (1, 0, 600), (1, 0, 600), (1, 0, 600), (0, 10, 21), (1, 0, 20), (1, 0, 20), (1, 0, 600), (1, 0, 600), (1, 0, 600), (0, 10, 21), (1, 0, 20), (1, 0, 20), (1, 0, 600), (1, 0, 600), (1, 0, 600), (0, 10, 21), (1, 0, 20), (1, 0, 20), (1, 0, 600), (1, 0, 600), (1, 0, 600), (0, 10, 21), (1, 0, 20), (1, 0, 20), (1, 0, 600), (1, 0, 600), (1, 0, 600), (0, 10, 21), (1, 0, 20), (1, 0, 20), (1, 0, 600), (1, 0, 600), (1, 0, 600), (0, 10, 21), (1, 0, 20), (1, 0, 20), (1, 0, 600), (1, 0, 600), (1, 0, 600), (0, 10, 21), (1, 0, 20), (1, 0, 20), (1, 0, 600), (1, 0, 600), (1, 0, 600), (0, 10, 21), (1, 0, 20), (1, 0, 20), (1, 0, 600), (1, 0, 600), (1, 0, 600), (0, 10, 21), (1, 0, 20), (1, 0, 20), (1, 0, 600), (1, 0, 600), (1, 0, 600), (0, 10, 21), (1, 0, 20), (1, 0, 20), (1, 0, 600), (1, 0, 600), (1, 0, 600), (0, 10, 21), (1, 0, 20), (1, 0, 20), (1, 0, 600), (1, 0, 600), (1, 0, 600), (0, 10, 21), (1, 0, 20), (1, 0, 20), (1, 0, 600), (1, 0, 600), (1, 0, 600), (0, 10, 21), (1, 0, 20), (1, 0, 20), (1, 0, 600), (1, 0, 600), (1, 0, 600), (0, 9, 17), (1, 0, 16), (1, 0, 16), (1, 0, 16), (1, 0, 16), (1, 0, 16), (1, 0, 8), (1, 0, 8), (1, 0, 8), (1, 0, 8), (1, 0, 8), (1, 0, 8), (0, 6, 13), (1, 0, 6), (1, 0, 6), (1, 0, 6), (1, 0, 6), (1, 0, 1000), (1, 0, 1000), (2, 0, 60000), (1, 0, 60), (1, 0, 60), (1, 0, 6), (1, 0, 8000), (1, 0, 4), (0, 12, 119), (1, 0, 33060), (1, 0, 33060), (1, 0, 661200), (1, 0, 8000), (1, 0, 4), (2, 0, 4000), (1, 0, 4), (1, 0, 4), (1, 0, 4), (1, 0, 4), (1, 0, 4), (1, 0, 24), (1, 0, 24), (1, 0, 24), (1, 0, 24), (1, 0, 24), (1, 0, 24), (1, 0, 24), (3, 0, 16), (1, 0, 16), (1, 0, 16), (1, 0, 16), (1, 0, 16), (3, 0, 448), (1, 0, 4), (1, 0, 4), (1, 0, 4), (1, 0, 4), (1, 0, 4), (1, 0, 4), (1, 0, 4), (1, 0, 4), (1, 0, 4), (1, 0, 32), (1, 0, 8), (1, 0, 8), (1, 0, 8), (1, 0, 8), (1, 0, 8), (1, 0, 8), (1, 0, 8), (3, 0, 8), (1, 0, 64), (3, 0, 64), (1, 0, 1025), (1, 0, 35), (1, 0, 35), (1, 0, 6), (1, 0, 4), (1, 0, 4), (1, 0, 65), (3, 0, 64), (1, 0, 50000), (1, 0, 50000), (1, 0, 50000), (1, 0, 4500), (1, 0, 4500), (1, 0, 4500), (1, 0, 4500), (1, 0, 4500), (1, 0, 4500), (1, 0, 160), (1, 0, 5), (1, 0, 5), (3, 0, 5), (1, 0, 4100), (1, 0, 4100), (1, 0, 4100), (1, 0, 4100), (1, 0, 4200), (1, 0, 24), (1, 0, 6), (1, 0, 6), (1, 0, 1000), (1, 0, 1000), (1, 0, 1000), (1, 0, 6000), (1, 0, 1000), (1, 0, 200000), (1, 0, 2000), (1, 0, 2000)]
def eft (ci k : Nat) : Nat := match ci with
  | 0 => x_nth [1, 1, 1, 1, 1, 1, 1, 1, 0, 0, 0, 0, 0, 0, 0, 0, 0, 0, 0, 0] k
  | 1 => x_nth [0, 0, 0, 1, 1] k
  | 2 => x_nth [0, 0, 0, 0, 0, 0, 0, 0, 1, 1, 1, 1, 1, 1, 1] k
  | 3 => x_nth [1, 1, 1, 1, 1, 1, 1, 1, 0, 0, 0, 0] k
  | 4 => x_nth [0, 0, 1, 1, 1, 1, 1, 1, 1, 1, 1, 1, 1, 1, 1, 1, 1, 1, 1, 1] k
  | 5 => x_nth [0, 0, 0, 0, 0, 0, 0, 0, 0, 0, 0, 0] k
  | 6 => x_nth [0, 0, 0, 0, 1, 1, 1, 1, 1, 1, 1, 1, 1] k
  | 7 => x_nth [1, 1, 1, 1, 1, 1, 1, 1] k
  | 8 => x_nth [0, 0, 0, 1, 1, 0, 0, 0, 0, 0, 0, 0, 0, 0, 0, 1, 1] k
  | 9 => x_nth [0, 0, 1, 1, 1, 1, 1, 1, 1, 1, 1, 1, 1, 0, 0, 0, 0] k
  | 10 => x_nth [0, 0, 0, 0, 0, 0, 0, 0, 0, 0, 0, 0, 0, 0, 0, 0, 1, 1, 1, 1, 1] k
  | 11 => x_nth [1, 1, 1, 1, 1, 1, 1, 1, 1, 1, 1, 0, 0, 0, 0] k
  | 12 => x_nth [1, 1, 1, 0, 1, 0, 0, 1, 1, 0, 0, 1, 1, 1, 1, 1, 1, 1, 1, 1, 1, 1, 1, 0, 1, 1, 1, 1, 1, 1, 0, 1, 1, 1, 1, 1, 1, 1, 1, 1, 0, 1, 0, 1, 1, 1, 1, 1, 1, 0, 1, 1, 1, 1, 1, 1, 1, 1, 0, 0, 0, 1, 1, 1, 1, 1, 1, 1, 1, 1, 1, 1, 1, 1, 1, 1, 1, 1, 0, 0, 0, 0, 0, 0, 0, 0, 0, 0, 0, 0, 1, 1, 1, 1, 0, 0, 0, 0, 0, 0, 0, 1, 0, 1, 1, 1, 1, 1, 1, 1, 0, 0, 0, 1, 1, 1, 1, 0, 0] k
  | _ => 0
def n_0 : xM := (x, code, 4, some .boolean, 60000, 8922250, 999)
def n_1 : xM := (⟨"RobotCellHouse$Arm", "make", "(IIII)V"⟩, prog_2_method_2_code, 5, none, 0, 0, 0)
def n_2 : xM := (⟨"RobotCellHouse$Arm", "addJoint", "(IIII)I"⟩, prog_2_method_3_code, 6, (some .int), 0, 0, 0)
def n_3 : xM := (⟨"RobotCellHouse$Arm", "rewind", "()V"⟩, prog_2_method_4_code, 2, none, 0, 0, 0)
def n_4 : xM := (⟨"RobotCellHouse$Arm", "exchange", "(LRobotCellHouse$Code;)LRobotCellHouse$Code;"⟩, prog_2_method_5_code, 3, (some (.object "RobotCellHouse$Code")), 0, 0, 0)
def n_5 : xM := (⟨"RobotCellHouse$Arm", "longest", "()I"⟩, prog_2_method_6_code, 3, (some .int), 0, 0, 0)
def n_6 : xM := (⟨"RobotCellHouse$Arm", "spares", "(II)Z"⟩, prog_2_method_7_code, 3, (some .boolean), 0, 0, 0)
def n_7 : xM := (⟨"RobotCellHouse$Arm", "bodies", "()I"⟩, prog_2_method_8_code, 1, (some .int), 0, 0, 0)
def n_8 : xM := (⟨"RobotCellHouse$Arm", "bodyRadius", "(I)I"⟩, prog_2_method_9_code, 2, (some .int), 0, 0, 0)
def n_9 : xM := (⟨"RobotCellHouse$Arm", "isFresh", "()Z"⟩, prog_2_method_10_code, 1, (some .boolean), 0, 0, 0)
def n_10 : xM := (⟨"RobotCellHouse$Arm", "place", "()V"⟩, prog_2_method_11_code, 8, none, 0, 0, 0)
def n_11 : xM := (⟨"RobotCellHouse$Arm", "keepPoints", "()V"⟩, prog_2_method_12_code, 2, none, 0, 0, 0)
def n_12 : xM := (⟨"RobotCellHouse$Arm", "keepSteps", "()V"⟩, prog_2_method_13_code, 2, none, 0, 0, 0)
def n_13 : xM := (⟨"RobotCellHouse$Arm", "beginMove", "(I)V"⟩, prog_2_method_14_code, 3, none, 0, 0, 0)
def n_14 : xM := (⟨"RobotCellHouse$Arm", "goOn", "()Z"⟩, prog_2_method_15_code, 4, (some .boolean), 0, 0, 0)
def n_15 : xM := (⟨"RobotCellHouse$Arm", "isStill", "()Z"⟩, prog_2_method_16_code, 2, (some .boolean), 0, 0, 0)
def n_16 : xM := (⟨"RobotCellHouse$Arm", "isThere", "()Z"⟩, prog_2_method_17_code, 2, (some .boolean), 0, 0, 0)
def n_17 : xM := (⟨"RobotCellHouse$Arm", "stand", "()V"⟩, prog_2_method_18_code, 2, none, 0, 0, 0)
def n_18 : xM := (⟨"RobotCellHouse$Arm", "fewestTicks", "()I"⟩, prog_2_method_19_code, 3, (some .int), 0, 0, 0)
def n_19 : xM := (⟨"RobotCellHouse$Arm", "breaches", "(Z)I"⟩, prog_2_method_20_code, 4, (some .int), 0, 0, 0)
def n_20 : xM := (⟨"RobotCellHouse$Code", "clear", "()V"⟩, prog_3_method_2_code, 1, none, 0, 0, 1)
def n_21 : xM := (⟨"RobotCellHouse$Code", "emit", "(II)I"⟩, prog_3_method_3_code, 3, (some .int), 0, 0, 1)
def n_22 : xM := (⟨"RobotCellHouse$Code", "patch", "(II)V"⟩, prog_3_method_4_code, 3, none, 0, 0, 1)
def n_23 : xM := (⟨"RobotCellHouse$Code", "op", "(I)I"⟩, prog_3_method_5_code, 2, (some .int), 0, 0, 1)
def n_24 : xM := (⟨"RobotCellHouse$Code", "operand", "(I)I"⟩, prog_3_method_6_code, 2, (some .int), 0, 0, 1)
def n_25 : xM := (⟨"RobotCellHouse$Core", "clear", "()V"⟩, prog_4_method_2_code, 2, none, 0, 0, 2)
def n_26 : xM := (⟨"RobotCellHouse$Core", "rewind", "()V"⟩, prog_4_method_3_code, 2, none, 0, 0, 2)
def n_27 : xM := (⟨"RobotCellHouse$Core", "add", "(III)V"⟩, prog_4_method_4_code, 5, none, 0, 0, 2)
def n_28 : xM := (⟨"RobotCellHouse$Core", "switchChannels", "(IZZ)I"⟩, prog_4_method_5_code, 4, (some .int), 0, 0, 2)
def n_29 : xM := (⟨"RobotCellHouse$Core", "isWell", "(I)Z"⟩, prog_4_method_6_code, 2, (some .boolean), 0, 0, 2)
def n_30 : xM := (⟨"RobotCellHouse$Core", "health", "(I)I"⟩, prog_4_method_7_code, 2, (some .int), 0, 0, 2)
def n_31 : xM := (⟨"RobotCellHouse$Core", "allConnected", "()Z"⟩, prog_4_method_8_code, 2, (some .boolean), 0, 0, 2)
def n_32 : xM := (⟨"RobotCellHouse$Core", "lookAtInputs", "()I"⟩, prog_4_method_9_code, 3, (some .int), 0, 0, 2)
def n_33 : xM := (⟨"RobotCellHouse$Core", "powerOn", "(I)I"⟩, prog_4_method_10_code, 3, (some .int), 0, 0, 2)
def n_34 : xM := (⟨"RobotCellHouse$Core", "trip", "(II)V"⟩, prog_4_method_11_code, 3, none, 0, 0, 2)
def n_35 : xM := (⟨"RobotCellHouse$Doer", "rewind", "()V"⟩, prog_5_method_2_code, 2, none, 0, 0, 3)
def n_36 : xM := (⟨"RobotCellHouse$Doer", "unusedTask", "()I"⟩, prog_5_method_3_code, 2, (some .int), 0, 0, 3)
def n_37 : xM := (⟨"RobotCellHouse$Doer", "begin", "(II)I"⟩, prog_5_method_4_code, 4, (some .int), 0, 0, 3)
def n_38 : xM := (⟨"RobotCellHouse$Doer", "excuse", "(I)I"⟩, prog_5_method_5_code, 3, (some .int), 0, 0, 3)
def n_39 : xM := (⟨"RobotCellHouse$Doer", "stale", "(I)V"⟩, prog_5_method_6_code, 3, none, 0, 0, 3)
def n_40 : xM := (⟨"RobotCellHouse$Doer", "brake", "(I)V"⟩, prog_5_method_7_code, 2, none, 0, 0, 3)
def n_41 : xM := (⟨"RobotCellHouse$Doer", "breakMove", "(I)V"⟩, prog_5_method_8_code, 2, none, 0, 0, 3)
def n_42 : xM := (⟨"RobotCellHouse$Doer", "hasTurn", "(I)Z"⟩, prog_5_method_9_code, 2, (some .boolean), 0, 0, 3)
def n_43 : xM := (⟨"RobotCellHouse$Doer", "turn", "(LRobotCellHouse$Task;)V"⟩, prog_5_method_10_code, 7, none, 0, 0, 3)
def n_44 : xM := (⟨"RobotCellHouse$Doer", "leaveByError", "(LRobotCellHouse$Task;LRobotCellHouse$Code;)V"⟩, prog_5_method_11_code, 3, none, 0, 0, 3)
def n_45 : xM := (⟨"RobotCellHouse$Doer", "goOn", "(LRobotCellHouse$Task;)V"⟩, prog_5_method_12_code, 3, none, 0, 0, 3)
def n_46 : xM := (⟨"RobotCellHouse$Doer", "raise", "(I)V"⟩, prog_5_method_13_code, 2, none, 0, 0, 3)
def n_47 : xM := (⟨"RobotCellHouse$Doer", "watchCalls", "(LRobotCellHouse$Task;LRobotCellHouse$Code;)Z"⟩, prog_5_method_14_code, 3, (some .boolean), 0, 0, 3)
def n_48 : xM := (⟨"RobotCellHouse$Doer", "failBy", "(LRobotCellHouse$Task;I)V"⟩, prog_5_method_15_code, 3, none, 0, 0, 3)
def n_49 : xM := (⟨"RobotCellHouse$Doer", "endIfLeft", "(LRobotCellHouse$Task;)V"⟩, prog_5_method_16_code, 2, none, 0, 0, 3)
def n_50 : xM := (⟨"RobotCellHouse$Doer", "releaseAll", "(LRobotCellHouse$Task;)V"⟩, prog_5_method_17_code, 3, none, 0, 0, 3)
def n_51 : xM := (⟨"RobotCellHouse$Doer", "release", "(I)V"⟩, prog_5_method_18_code, 4, none, 0, 0, 3)
def n_52 : xM := (⟨"RobotCellHouse$Doer", "push", "(I)V"⟩, prog_5_method_19_code, 2, none, 0, 0, 3)
def n_53 : xM := (⟨"RobotCellHouse$Doer", "pop", "()I"⟩, prog_5_method_20_code, 1, (some .int), 0, 0, 3)
def n_54 : xM := (⟨"RobotCellHouse$Doer", "look", "(LRobotCellHouse$Task;II)V"⟩, prog_5_method_21_code, 5, none, 0, 0, 3)
def n_55 : xM := (⟨"RobotCellHouse$Doer", "pushSignal", "(I)V"⟩, prog_5_method_22_code, 2, none, 0, 0, 3)
def n_56 : xM := (⟨"RobotCellHouse$Doer", "pushJoint", "(LRobotCellHouse$Arm;I)V"⟩, prog_5_method_23_code, 3, none, 0, 0, 3)
def n_57 : xM := (⟨"RobotCellHouse$Doer", "changeTop", "(LRobotCellHouse$Task;II)V"⟩, prog_5_method_24_code, 5, none, 0, 0, 3)
def n_58 : xM := (⟨"RobotCellHouse$Doer", "combine", "(III)V"⟩, prog_5_method_25_code, 4, none, 0, 0, 3)
def n_59 : xM := (⟨"RobotCellHouse$Doer", "act", "(LRobotCellHouse$Task;LRobotCellHouse$Code;II)V"⟩, prog_5_method_26_code, 5, none, 0, 0, 3)
def n_60 : xM := (⟨"RobotCellHouse$Doer", "collect", "(II)V"⟩, prog_5_method_27_code, 3, none, 0, 0, 3)
def n_61 : xM := (⟨"RobotCellHouse$Doer", "moveBy", "(LRobotCellHouse$Task;I)V"⟩, prog_5_method_28_code, 5, none, 0, 0, 3)
def n_62 : xM := (⟨"RobotCellHouse$Doer", "reachesGoals", "(LRobotCellHouse$Arm;)Z"⟩, prog_5_method_29_code, 3, (some .boolean), 0, 0, 3)
def n_63 : xM := (⟨"RobotCellHouse$Doer", "waitFor", "(LRobotCellHouse$Task;I)V"⟩, prog_5_method_30_code, 3, none, 0, 0, 3)
def n_64 : xM := (⟨"RobotCellHouse$Doer", "waitUntil", "(LRobotCellHouse$Task;II)V"⟩, prog_5_method_31_code, 4, none, 0, 0, 3)
def n_65 : xM := (⟨"RobotCellHouse$Doer", "setPoint", "(II)V"⟩, prog_5_method_32_code, 3, none, 0, 0, 3)
def n_66 : xM := (⟨"RobotCellHouse$Doer", "takeLock", "(LRobotCellHouse$Task;I)V"⟩, prog_5_method_33_code, 3, none, 0, 0, 3)
def n_67 : xM := (⟨"RobotCellHouse$Doer", "freeLock", "(LRobotCellHouse$Task;I)V"⟩, prog_5_method_34_code, 3, none, 0, 0, 3)
def n_68 : xM := (⟨"RobotCellHouse$Doer", "grip", "(I)V"⟩, prog_5_method_35_code, 4, none, 0, 0, 3)
def n_69 : xM := (⟨"RobotCellHouse$Doer", "drop", "(I)V"⟩, prog_5_method_36_code, 4, none, 0, 0, 3)
def n_70 : xM := (⟨"RobotCellHouse$Doer", "watch", "(LRobotCellHouse$Task;II)V"⟩, prog_5_method_37_code, 4, none, 0, 0, 3)
def n_71 : xM := (⟨"RobotCellHouse$Doer", "lead", "(LRobotCellHouse$Task;LRobotCellHouse$Code;II)V"⟩, prog_5_method_38_code, 5, none, 0, 0, 3)
def n_72 : xM := (⟨"RobotCellHouse$Doer", "leaveFurther", "(LRobotCellHouse$Task;LRobotCellHouse$Code;I)V"⟩, prog_5_method_39_code, 4, none, 0, 0, 3)
def n_73 : xM := (⟨"RobotCellHouse$Floor", "along", "(I)I"⟩, prog_6_method_2_code, 1, (some .int), 0, 0, 999)
def n_74 : xM := (⟨"RobotCellHouse$Floor", "up", "(I)I"⟩, prog_6_method_3_code, 1, (some .int), 0, 0, 999)
def n_75 : xM := (⟨"RobotCellHouse$Floor", "addBelt", "(IIIII)I"⟩, prog_6_method_4_code, 7, (some .int), 0, 0, 4)
def n_76 : xM := (⟨"RobotCellHouse$Floor", "addPart", "(IIIII)I"⟩, prog_6_method_5_code, 7, (some .int), 0, 0, 4)
def n_77 : xM := (⟨"RobotCellHouse$Floor", "rewind", "()V"⟩, prog_6_method_6_code, 2, none, 0, 0, 4)
def n_78 : xM := (⟨"RobotCellHouse$Floor", "putBack", "(I)V"⟩, prog_6_method_7_code, 2, none, 0, 0, 4)
def n_79 : xM := (⟨"RobotCellHouse$Floor", "lieAt", "(III)V"⟩, prog_6_method_8_code, 4, none, 0, 0, 4)
def n_80 : xM := (⟨"RobotCellHouse$Floor", "comeTo", "(III)V"⟩, prog_6_method_9_code, 5, none, 0, 0, 4)
def n_81 : xM := (⟨"RobotCellHouse$Floor", "xOf", "(I)I"⟩, prog_6_method_10_code, 3, (some .int), 0, 0, 4)
def n_82 : xM := (⟨"RobotCellHouse$Floor", "yOf", "(I)I"⟩, prog_6_method_11_code, 3, (some .int), 0, 0, 4)
def n_83 : xM := (⟨"RobotCellHouse$Floor", "nearest", "(III)I"⟩, prog_6_method_12_code, 10, (some .int), 0, 0, 4)
def n_84 : xM := (⟨"RobotCellHouse$Floor", "gripBy", "(II)V"⟩, prog_6_method_13_code, 6, none, 0, 0, 4)
def n_85 : xM := (⟨"RobotCellHouse$Floor", "dropAt", "(III)V"⟩, prog_6_method_14_code, 9, none, 0, 0, 4)
def n_86 : xM := (⟨"RobotCellHouse$Floor", "goOn", "(I)V"⟩, prog_6_method_15_code, 6, none, 0, 0, 4)
def n_87 : xM := (⟨"RobotCellHouse$Floor", "senses", "(I)Z"⟩, prog_6_method_16_code, 3, (some .boolean), 0, 0, 4)
def n_88 : xM := (⟨"RobotCellHouse$Floor", "strays", "([LRobotCellHouse$Arm;I)I"⟩, prog_6_method_17_code, 8, (some .int), 0, 0, 4)
def n_89 : xM := (⟨"RobotCellHouse$Joint", "reaches", "(I)Z"⟩, prog_7_method_2_code, 2, (some .boolean), 0, 0, 5)
def n_90 : xM := (⟨"RobotCellHouse$Joint", "goingStep", "()I"⟩, prog_7_method_3_code, 7, (some .int), 0, 0, 5)
def n_91 : xM := (⟨"RobotCellHouse$Joint", "brakingStep", "()I"⟩, prog_7_method_4_code, 1, (some .int), 0, 0, 5)
def n_92 : xM := (⟨"RobotCellHouse$Joint", "wayToRest", "(I)I"⟩, prog_7_method_5_code, 3, (some .int), 0, 0, 5)
def n_93 : xM := (⟨"RobotCellHouse$Joint", "fewestSteps", "()I"⟩, prog_7_method_6_code, 4, (some .int), 0, 0, 5)
def n_94 : xM := (⟨"RobotCellHouse$Joint", "breaks", "(Z)Z"⟩, prog_7_method_7_code, 2, (some .boolean), 0, 0, 5)
def n_95 : xM := (⟨"RobotCellHouse$Planner", "stepsOf", "(I)I"⟩, prog_8_method_2_code, 2, (some .int), 0, 0, 6)
def n_96 : xM := (⟨"RobotCellHouse$Planner", "stepAt", "(II)I"⟩, prog_8_method_3_code, 3, (some .int), 0, 0, 6)
def n_97 : xM := (⟨"RobotCellHouse$Planner", "give", "(LRobotCellHouse$Arm;I)I"⟩, prog_8_method_4_code, 3, (some .int), 0, 0, 6)
def n_98 : xM := (⟨"RobotCellHouse$Planner", "layOut", "(LRobotCellHouse$Arm;II)Z"⟩, prog_8_method_5_code, 7, (some .boolean), 0, 0, 6)
def n_99 : xM := (⟨"RobotCellHouse$Planner", "nodeOf", "(LRobotCellHouse$Arm;[I)I"⟩, prog_8_method_6_code, 6, (some .int), 0, 0, 6)
def n_100 : xM := (⟨"RobotCellHouse$Planner", "search", "([LRobotCellHouse$Arm;ILRobotCellHouse$Shapes;II)Z"⟩, prog_8_method_7_code, 11, (some .boolean), 0, 0, 6)
def n_101 : xM := (⟨"RobotCellHouse$Planner", "digit", "(II)I"⟩, prog_8_method_8_code, 3, (some .int), 0, 0, 6)
def n_102 : xM := (⟨"RobotCellHouse$Planner", "takeValues", "(LRobotCellHouse$Arm;I)V"⟩, prog_8_method_9_code, 4, none, 0, 0, 6)
def n_103 : xM := (⟨"RobotCellHouse$Planner", "neighbour", "(II)I"⟩, prog_8_method_10_code, 5, (some .int), 0, 0, 6)
def n_104 : xM := (⟨"RobotCellHouse$Planner", "passes", "([LRobotCellHouse$Arm;ILRobotCellHouse$Shapes;III)Z"⟩, prog_8_method_11_code, 11, (some .boolean), 0, 0, 6)
def n_105 : xM := (⟨"RobotCellHouse$Planner", "keep", "(II)V"⟩, prog_8_method_12_code, 6, none, 0, 0, 6)
def n_106 : xM := (⟨"RobotCellHouse$Planner", "before", "(I)I"⟩, prog_8_method_13_code, 3, (some .int), 0, 0, 6)
def n_107 : xM := (⟨"RobotCellHouse$Planner", "depart", "(LRobotCellHouse$Arm;)I"⟩, prog_8_method_14_code, 5, (some .int), 0, 0, 6)
def n_108 : xM := (⟨"RobotCellHouse$Planner", "goFurther", "(LRobotCellHouse$Arm;)Z"⟩, prog_8_method_15_code, 5, (some .boolean), 0, 0, 6)
def n_109 : xM := (⟨"RobotCellHouse$Points", "clear", "()V"⟩, prog_9_method_2_code, 1, none, 0, 0, 7)
def n_110 : xM := (⟨"RobotCellHouse$Points", "rewind", "()V"⟩, prog_9_method_3_code, 2, none, 0, 0, 7)
def n_111 : xM := (⟨"RobotCellHouse$Points", "canWire", "(II)Z"⟩, prog_9_method_4_code, 5, (some .boolean), 0, 0, 7)
def n_112 : xM := (⟨"RobotCellHouse$Points", "connect", "(IIZ)V"⟩, prog_9_method_5_code, 4, none, 0, 0, 7)
def n_113 : xM := (⟨"RobotCellHouse$Points", "give", "(II)I"⟩, prog_9_method_6_code, 4, (some .int), 0, 0, 7)
def n_114 : xM := (⟨"RobotCellHouse$Points", "press", "(IIZ)I"⟩, prog_9_method_7_code, 5, (some .int), 0, 0, 7)
def n_115 : xM := (⟨"RobotCellHouse$Points", "arrange", "()V"⟩, prog_9_method_8_code, 4, none, 0, 0, 7)
def n_116 : xM := (⟨"RobotCellHouse$Points", "settle", "()V"⟩, prog_9_method_9_code, 4, none, 0, 0, 7)
def n_117 : xM := (⟨"RobotCellHouse$Points", "reckon", "(I)I"⟩, prog_9_method_10_code, 3, (some .int), 0, 0, 7)
def n_118 : xM := (⟨"RobotCellHouse$Reader", "append", "(I)V"⟩, prog_10_method_2_code, 3, none, 0, 0, 8)
def n_119 : xM := (⟨"RobotCellHouse$Reader", "readText", "()V"⟩, prog_10_method_3_code, 2, none, 0, 0, 8)
def n_120 : xM := (⟨"RobotCellHouse$Reader", "byteAt", "(I)I"⟩, prog_10_method_4_code, 2, (some .int), 0, 0, 8)
def n_121 : xM := (⟨"RobotCellHouse$Reader", "isDigit", "(I)Z"⟩, prog_10_method_5_code, 1, (some .boolean), 0, 0, 999)
def n_122 : xM := (⟨"RobotCellHouse$Reader", "isOfName", "(I)Z"⟩, prog_10_method_6_code, 1, (some .boolean), 0, 0, 999)
def n_123 : xM := (⟨"RobotCellHouse$Reader", "advance", "()V"⟩, prog_10_method_7_code, 2, none, 0, 0, 8)
def n_124 : xM := (⟨"RobotCellHouse$Reader", "skipBlanks", "()V"⟩, prog_10_method_8_code, 3, none, 0, 0, 8)
def n_125 : xM := (⟨"RobotCellHouse$Reader", "readWord", "()V"⟩, prog_10_method_9_code, 1, none, 0, 0, 8)
def n_126 : xM := (⟨"RobotCellHouse$Reader", "wordKind", "()I"⟩, prog_10_method_10_code, 6, (some .int), 0, 0, 8)
def n_127 : xM := (⟨"RobotCellHouse$Reader", "readNumber", "()V"⟩, prog_10_method_11_code, 3, none, 0, 0, 8)
def n_128 : xM := (⟨"RobotCellHouse$Reader", "readSign", "(I)V"⟩, prog_10_method_12_code, 3, none, 0, 0, 8)
def n_129 : xM := (⟨"RobotCellHouse$Reader", "accept", "(I)V"⟩, prog_10_method_13_code, 2, none, 0, 0, 8)
def n_130 : xM := (⟨"RobotCellHouse$Reader", "refuse", "()V"⟩, prog_10_method_14_code, 1, none, 0, 0, 8)
def n_131 : xM := (⟨"RobotCellHouse$Reader", "stick", "(I)V"⟩, prog_10_method_15_code, 2, none, 0, 0, 8)
def n_132 : xM := (⟨"RobotCellHouse$Reader", "opens", "()Z"⟩, prog_10_method_16_code, 1, (some .boolean), 0, 0, 8)
def n_133 : xM := (⟨"RobotCellHouse$Reader", "complain", "(II)V"⟩, prog_10_method_17_code, 4, none, 0, 0, 8)
def n_134 : xM := (⟨"RobotCellHouse$Reader", "isSameName", "(II)Z"⟩, prog_10_method_18_code, 4, (some .boolean), 0, 0, 8)
def n_135 : xM := (⟨"RobotCellHouse$Reader", "findVariable", "(I)I"⟩, prog_10_method_19_code, 3, (some .int), 0, 0, 8)
def n_136 : xM := (⟨"RobotCellHouse$Reader", "findRoutine", "(I)I"⟩, prog_10_method_20_code, 3, (some .int), 0, 0, 8)
def n_137 : xM := (⟨"RobotCellHouse$Reader", "variableHere", "()I"⟩, prog_10_method_21_code, 2, (some .int), 0, 0, 8)
def n_138 : xM := (⟨"RobotCellHouse$Reader", "findRoutines", "()V"⟩, prog_10_method_22_code, 4, none, 0, 0, 8)
def n_139 : xM := (⟨"RobotCellHouse$Reader", "checkNewName", "()V"⟩, prog_10_method_23_code, 1, none, 0, 0, 8)
def n_140 : xM := (⟨"RobotCellHouse$Reader", "declarations", "()V"⟩, prog_10_method_24_code, 2, none, 0, 0, 8)
def n_141 : xM := (⟨"RobotCellHouse$Reader", "declareVariable", "()V"⟩, prog_10_method_25_code, 1, none, 0, 0, 8)
def n_142 : xM := (⟨"RobotCellHouse$Reader", "routine", "()V"⟩, prog_10_method_26_code, 1, none, 0, 0, 8)
def n_143 : xM := (⟨"RobotCellHouse$Reader", "isStatement", "()Z"⟩, prog_10_method_27_code, 1, (some .boolean), 0, 0, 8)
def n_144 : xM := (⟨"RobotCellHouse$Reader", "block", "()V"⟩, prog_10_method_28_code, 2, none, 0, 0, 8)
def n_145 : xM := (⟨"RobotCellHouse$Reader", "statement", "()V"⟩, prog_10_method_29_code, 1, none, 0, 0, 8)
def n_146 : xM := (⟨"RobotCellHouse$Reader", "bare", "(I)V"⟩, prog_10_method_30_code, 2, none, 0, 0, 8)
def n_147 : xM := (⟨"RobotCellHouse$Reader", "withNumber", "(I)V"⟩, prog_10_method_31_code, 3, none, 0, 0, 8)
def n_148 : xM := (⟨"RobotCellHouse$Reader", "withRoutine", "(I)V"⟩, prog_10_method_32_code, 3, none, 0, 0, 8)
def n_149 : xM := (⟨"RobotCellHouse$Reader", "assignment", "()V"⟩, prog_10_method_33_code, 2, none, 0, 0, 8)
def n_150 : xM := (⟨"RobotCellHouse$Reader", "movement", "()V"⟩, prog_10_method_34_code, 2, none, 0, 0, 8)
def n_151 : xM := (⟨"RobotCellHouse$Reader", "setting", "()V"⟩, prog_10_method_35_code, 1, none, 0, 0, 8)
def n_152 : xM := (⟨"RobotCellHouse$Reader", "watching", "()V"⟩, prog_10_method_36_code, 2, none, 0, 0, 8)
def n_153 : xM := (⟨"RobotCellHouse$Reader", "breaking", "()V"⟩, prog_10_method_37_code, 1, none, 0, 0, 8)
def n_154 : xM := (⟨"RobotCellHouse$Reader", "choice", "()V"⟩, prog_10_method_38_code, 3, none, 0, 0, 8)
def n_155 : xM := (⟨"RobotCellHouse$Reader", "repetition", "()V"⟩, prog_10_method_39_code, 5, none, 0, 0, 8)
def n_156 : xM := (⟨"RobotCellHouse$Reader", "attempt", "()V"⟩, prog_10_method_40_code, 2, none, 0, 0, 8)
def n_157 : xM := (⟨"RobotCellHouse$Reader", "laterPart", "(I)V"⟩, prog_10_method_41_code, 2, none, 0, 0, 8)
def n_158 : xM := (⟨"RobotCellHouse$Reader", "exp", "()V"⟩, prog_10_method_42_code, 3, none, 0, 0, 8)
def n_159 : xM := (⟨"RobotCellHouse$Reader", "all", "()V"⟩, prog_10_method_43_code, 3, none, 0, 0, 8)
def n_160 : xM := (⟨"RobotCellHouse$Reader", "fact", "()V"⟩, prog_10_method_44_code, 2, none, 0, 0, 8)
def n_161 : xM := (⟨"RobotCellHouse$Reader", "comparison", "()I"⟩, prog_10_method_45_code, 1, (some .int), 0, 0, 8)
def n_162 : xM := (⟨"RobotCellHouse$Reader", "sum", "()V"⟩, prog_10_method_46_code, 3, none, 0, 0, 8)
def n_163 : xM := (⟨"RobotCellHouse$Reader", "product", "()V"⟩, prog_10_method_47_code, 3, none, 0, 0, 8)
def n_164 : xM := (⟨"RobotCellHouse$Reader", "one", "()V"⟩, prog_10_method_48_code, 2, none, 0, 0, 8)
def n_165 : xM := (⟨"RobotCellHouse$Reader", "inParentheses", "()V"⟩, prog_10_method_49_code, 1, none, 0, 0, 8)
def n_166 : xM := (⟨"RobotCellHouse$Reader", "emitNumber", "()V"⟩, prog_10_method_50_code, 2, none, 0, 0, 8)
def n_167 : xM := (⟨"RobotCellHouse$Shapes", "addSolid", "(IIIII)I"⟩, prog_11_method_2_code, 6, (some .int), 0, 0, 9)
def n_168 : xM := (⟨"RobotCellHouse$Shapes", "addZone", "(IIIII)I"⟩, prog_11_method_3_code, 6, (some .int), 0, 0, 9)
def n_169 : xM := (⟨"RobotCellHouse$Shapes", "brokenZone", "([LRobotCellHouse$Arm;)I"⟩, prog_11_method_4_code, 5, (some .int), 0, 0, 9)
def n_170 : xM := (⟨"RobotCellHouse$Shapes", "breaksZone", "(ILRobotCellHouse$Arm;I)Z"⟩, prog_11_method_5_code, 6, (some .boolean), 0, 0, 9)
def n_171 : xM := (⟨"RobotCellHouse$Shapes", "touching", "([LRobotCellHouse$Arm;IIII)Z"⟩, prog_11_method_6_code, 11, (some .boolean), 0, 0, 9)
def n_172 : xM := (⟨"RobotCellHouse$Shapes", "nearBodies", "(LRobotCellHouse$Arm;II)Z"⟩, prog_11_method_7_code, 6, (some .boolean), 0, 0, 9)
def n_173 : xM := (⟨"RobotCellHouse$Shapes", "nearSolid", "(II)Z"⟩, prog_11_method_8_code, 7, (some .boolean), 0, 0, 9)
def n_174 : xM := (⟨"RobotCellHouse$Shapes", "isBeyond", "(IIIII)Z"⟩, prog_11_method_9_code, 6, (some .boolean), 0, 0, 9)
def n_175 : xM := (⟨"RobotCellHouse$Shapes", "nearLine", "(IIIII)Z"⟩, prog_11_method_10_code, 14, (some .boolean), 0, 0, 9)
def n_176 : xM := (⟨"RobotCellHouse$Shapes", "nearPlace", "(IIIII)Z"⟩, prog_11_method_11_code, 15, (some .boolean), 0, 0, 999)
def n_177 : xM := (⟨"RobotCellHouse$Shapes", "side", "(IIII)J"⟩, prog_11_method_12_code, 4, (some .long), 0, 0, 999)
def n_178 : xM := (⟨"RobotCellHouse$Shapes", "square", "(II)J"⟩, prog_11_method_13_code, 2, (some .long), 0, 0, 999)
def n_179 : xM := (⟨"RobotCellHouse$Task", "vanish", "()V"⟩, prog_12_method_2_code, 1, none, 0, 0, 10)
def n_180 : xM := (⟨"RobotCellHouse$Task", "begin", "(III)V"⟩, prog_12_method_3_code, 4, none, 0, 0, 10)
def n_181 : xM := (⟨"RobotCellHouse$Task", "finish", "(I)V"⟩, prog_12_method_4_code, 2, none, 0, 0, 10)
def n_182 : xM := (⟨"RobotCellHouse$Task", "enter", "(I)Z"⟩, prog_12_method_5_code, 2, (some .boolean), 0, 0, 10)
def n_183 : xM := (⟨"RobotCellHouse$Task", "leaveRoutine", "()V"⟩, prog_12_method_6_code, 1, none, 0, 0, 10)
def n_184 : xM := (⟨"RobotCellHouse$Task", "openTry", "(I)V"⟩, prog_12_method_7_code, 2, none, 0, 0, 10)
def n_185 : xM := (⟨"RobotCellHouse$Task", "endPart", "(LRobotCellHouse$Code;)V"⟩, prog_12_method_8_code, 4, none, 0, 0, 10)
def n_186 : xM := (⟨"RobotCellHouse$Task", "closeTry", "()I"⟩, prog_12_method_9_code, 1, (some .int), 0, 0, 10)
def n_187 : xM := (⟨"RobotCellHouse$Task", "leftBy", "()I"⟩, prog_12_method_10_code, 1, (some .int), 0, 0, 10)
def n_188 : xM := (⟨"RobotCellHouse$Task", "leave", "(LRobotCellHouse$Code;II)Z"⟩, prog_12_method_11_code, 7, (some .boolean), 0, 0, 10)
def n_189 : xM := (⟨"RobotCellHouse$Task", "goToPart", "(II)V"⟩, prog_12_method_12_code, 3, none, 0, 0, 10)
def n_190 : xM := (⟨"RobotCellHouse", "feed", "(IIIII)I"⟩, prog_1_method_2_code, 6, (some .int), 0, 0, 11)
def n_191 : xM := (⟨"RobotCellHouse", "cut", "(I)I"⟩, prog_1_method_3_code, 2, (some .int), 0, 0, 11)
def n_192 : xM := (⟨"RobotCellHouse", "build", "()I"⟩, prog_1_method_4_code, 2, (some .int), 0, 0, 11)
def n_193 : xM := (⟨"RobotCellHouse", "arm", "(IIII)I"⟩, prog_1_method_5_code, 5, (some .int), 0, 0, 11)
def n_194 : xM := (⟨"RobotCellHouse", "joint", "(IIIII)I"⟩, prog_1_method_6_code, 8, (some .int), 0, 0, 11)
def n_195 : xM := (⟨"RobotCellHouse", "pace", "(IIII)I"⟩, prog_1_method_7_code, 5, (some .int), 0, 0, 11)
def n_196 : xM := (⟨"RobotCellHouse", "radius", "(III)I"⟩, prog_1_method_8_code, 5, (some .int), 0, 0, 11)
def n_197 : xM := (⟨"RobotCellHouse", "ball", "(III)I"⟩, prog_1_method_9_code, 4, (some .int), 0, 0, 11)
def n_198 : xM := (⟨"RobotCellHouse", "box", "(IIII)I"⟩, prog_1_method_10_code, 5, (some .int), 0, 0, 11)
def n_199 : xM := (⟨"RobotCellHouse", "spare", "(III)I"⟩, prog_1_method_11_code, 4, (some .int), 0, 0, 11)
def n_200 : xM := (⟨"RobotCellHouse", "belt", "(IIIII)I"⟩, prog_1_method_12_code, 6, (some .int), 0, 0, 11)
def n_201 : xM := (⟨"RobotCellHouse", "drive", "(II)I"⟩, prog_1_method_13_code, 4, (some .int), 0, 0, 11)
def n_202 : xM := (⟨"RobotCellHouse", "sensor", "(IIII)I"⟩, prog_1_method_14_code, 5, (some .int), 0, 0, 11)
def n_203 : xM := (⟨"RobotCellHouse", "part", "(III)I"⟩, prog_1_method_15_code, 4, (some .int), 0, 0, 11)
def n_204 : xM := (⟨"RobotCellHouse", "lay", "(III)I"⟩, prog_1_method_16_code, 4, (some .int), 0, 0, 11)
def n_205 : xM := (⟨"RobotCellHouse", "zone", "(IIIII)I"⟩, prog_1_method_17_code, 6, (some .int), 0, 0, 11)
def n_206 : xM := (⟨"RobotCellHouse", "most", "(II)I"⟩, prog_1_method_18_code, 4, (some .int), 0, 0, 11)
def n_207 : xM := (⟨"RobotCellHouse", "input", "(I)I"⟩, prog_1_method_19_code, 2, (some .int), 0, 0, 11)
def n_208 : xM := (⟨"RobotCellHouse", "person", "(IZ)I"⟩, prog_1_method_20_code, 3, (some .int), 0, 0, 11)
def n_209 : xM := (⟨"RobotCellHouse", "wire", "(IIZ)I"⟩, prog_1_method_21_code, 4, (some .int), 0, 0, 11)
def n_210 : xM := (⟨"RobotCellHouse", "program", "(I)I"⟩, prog_1_method_22_code, 2, (some .int), 0, 0, 11)
def n_211 : xM := (⟨"RobotCellHouse", "fault", "(I)I"⟩, prog_1_method_23_code, 2, (some .int), 0, 0, 11)
def n_212 : xM := (⟨"RobotCellHouse", "open", "()I"⟩, prog_1_method_24_code, 1, (some .int), 0, 0, 11)
def n_213 : xM := (⟨"RobotCellHouse", "start", "(II)I"⟩, prog_1_method_25_code, 3, (some .int), 0, 0, 11)
def n_214 : xM := (⟨"RobotCellHouse", "run", "(I)I"⟩, prog_1_method_26_code, 4, (some .int), 0, 0, 11)
def n_215 : xM := (⟨"RobotCellHouse", "set", "(II)I"⟩, prog_1_method_27_code, 3, (some .int), 0, 0, 11)
def n_216 : xM := (⟨"RobotCellHouse", "force", "(IIZ)I"⟩, prog_1_method_28_code, 4, (some .int), 0, 0, 11)
def n_217 : xM := (⟨"RobotCellHouse", "channel", "(IZZ)I"⟩, prog_1_method_29_code, 4, (some .int), 0, 0, 11)
def n_218 : xM := (⟨"RobotCellHouse", "reset", "(I)I"⟩, prog_1_method_30_code, 2, (some .int), 0, 0, 11)
def n_219 : xM := (⟨"RobotCellHouse", "stop", "(I)I"⟩, prog_1_method_31_code, 2, (some .int), 0, 0, 11)
def n_220 : xM := (⟨"RobotCellHouse", "acknowledge", "(I)I"⟩, prog_1_method_32_code, 2, (some .int), 0, 0, 11)
def n_221 : xM := (⟨"RobotCellHouse", "hand", "(III)I"⟩, prog_1_method_33_code, 4, (some .int), 0, 0, 11)
def n_222 : xM := (⟨"RobotCellHouse", "aim", "(II)I"⟩, prog_1_method_34_code, 3, (some .int), 0, 0, 11)
def n_223 : xM := (⟨"RobotCellHouse", "plan", "(III)I"⟩, prog_1_method_35_code, 6, (some .int), 0, 0, 11)
def n_224 : xM := (⟨"RobotCellHouse", "travel", "(I)I"⟩, prog_1_method_36_code, 2, (some .int), 0, 0, 11)
def n_225 : xM := (⟨"RobotCellHouse", "back", "(I)I"⟩, prog_1_method_37_code, 5, (some .int), 0, 0, 11)
def n_226 : xM := (⟨"RobotCellHouse", "time", "()I"⟩, prog_1_method_38_code, 1, (some .int), 0, 0, 11)
def n_227 : xM := (⟨"RobotCellHouse", "state", "(II)I"⟩, prog_1_method_39_code, 4, (some .int), 0, 0, 11)
def n_228 : xM := (⟨"RobotCellHouse", "value", "(II)I"⟩, prog_1_method_40_code, 3, (some .int), 0, 0, 11)
def n_229 : xM := (⟨"RobotCellHouse", "point", "(III)I"⟩, prog_1_method_41_code, 4, (some .int), 0, 0, 11)
def n_230 : xM := (⟨"RobotCellHouse", "step", "(II)I"⟩, prog_1_method_42_code, 3, (some .int), 0, 0, 11)
def n_231 : xM := (⟨"RobotCellHouse", "task", "(II)I"⟩, prog_1_method_43_code, 4, (some .int), 0, 0, 11)
def n_232 : xM := (⟨"RobotCellHouse", "variable", "(II)I"⟩, prog_1_method_44_code, 3, (some .int), 0, 0, 11)
def n_233 : xM := (⟨"RobotCellHouse", "signal", "(II)I"⟩, prog_1_method_45_code, 3, (some .int), 0, 0, 11)
def n_234 : xM := (⟨"RobotCellHouse", "lock", "(I)I"⟩, prog_1_method_46_code, 2, (some .int), 0, 0, 11)
def n_235 : xM := (⟨"RobotCellHouse", "about", "(II)I"⟩, prog_1_method_47_code, 5, (some .int), 0, 0, 11)
def n_236 : xM := (⟨"RobotCellHouse", "safety", "(I)I"⟩, prog_1_method_48_code, 2, (some .int), 0, 0, 11)
def n_237 : xM := (⟨"RobotCellHouse", "events", "()I"⟩, prog_1_method_49_code, 1, (some .int), 0, 0, 11)
def n_238 : xM := (⟨"RobotCellHouse", "event", "(II)I"⟩, prog_1_method_50_code, 3, (some .int), 0, 0, 11)
def n_239 : xM := (⟨"RobotCellHouse", "touches", "(II)I"⟩, prog_1_method_51_code, 3, (some .int), 0, 0, 11)
def n_240 : xM := (⟨"RobotCellHouse", "count", "(I)I"⟩, prog_1_method_52_code, 2, (some .int), 0, 0, 11)
def n_241 : xM := (⟨"RobotCellHouse", "never", "(I)I"⟩, prog_1_method_53_code, 2, (some .int), 0, 0, 11)
def n_242 : xM := (⟨"RobotCellHouse", "within", "(III)Z"⟩, prog_1_method_54_code, 3, (some .boolean), 0, 0, 999)
def n_243 : xM := (⟨"RobotCellHouse", "isPlace", "(II)Z"⟩, prog_1_method_55_code, 2, (some .boolean), 0, 0, 999)
def n_244 : xM := (⟨"RobotCellHouse", "isBox", "(IIII)Z"⟩, prog_1_method_56_code, 4, (some .boolean), 0, 0, 999)
def n_245 : xM := (⟨"RobotCellHouse", "isPoint", "(I)Z"⟩, prog_1_method_57_code, 1, (some .boolean), 0, 0, 999)
def n_246 : xM := (⟨"RobotCellHouse", "isArm", "(I)Z"⟩, prog_1_method_58_code, 2, (some .boolean), 0, 0, 11)
def n_247 : xM := (⟨"RobotCellHouse", "isJoint", "(II)Z"⟩, prog_1_method_59_code, 3, (some .boolean), 0, 0, 11)
def n_248 : xM := (⟨"RobotCellHouse", "isBelt", "(I)Z"⟩, prog_1_method_60_code, 2, (some .boolean), 0, 0, 11)
def n_249 : xM := (⟨"RobotCellHouse", "sine", "(I)I"⟩, prog_1_method_61_code, 2, (some .int), 0, 0, 999)
def n_250 : xM := (⟨"RobotCellHouse", "cosine", "(I)I"⟩, prog_1_method_62_code, 1, (some .int), 0, 0, 999)
def n_251 : xM := (⟨"RobotCellHouse", "clear", "()V"⟩, prog_1_method_63_code, 2, none, 0, 0, 11)
def n_252 : xM := (⟨"RobotCellHouse", "rewind", "()V"⟩, prog_1_method_64_code, 2, none, 0, 0, 11)
def n_253 : xM := (⟨"RobotCellHouse", "isBookOpen", "()Z"⟩, prog_1_method_65_code, 1, (some .boolean), 0, 0, 11)
def n_254 : xM := (⟨"RobotCellHouse", "write", "(IIII)V"⟩, prog_1_method_66_code, 6, none, 0, 0, 11)
def n_255 : xM := (⟨"RobotCellHouse", "enter", "(IIII)I"⟩, prog_1_method_67_code, 5, (some .int), 0, 0, 11)
def n_256 : xM := (⟨"RobotCellHouse", "carryOut", "(IIII)I"⟩, prog_1_method_68_code, 5, (some .int), 0, 0, 11)
def n_257 : xM := (⟨"RobotCellHouse", "halt", "(I)I"⟩, prog_1_method_69_code, 3, (some .int), 0, 0, 11)
def n_258 : xM := (⟨"RobotCellHouse", "lead", "(III)I"⟩, prog_1_method_70_code, 5, (some .int), 0, 0, 11)
def n_259 : xM := (⟨"RobotCellHouse", "tick", "()V"⟩, prog_1_method_71_code, 3, none, 0, 0, 11)
def n_260 : xM := (⟨"RobotCellHouse", "goOn", "(I)V"⟩, prog_1_method_72_code, 3, none, 0, 0, 11)
def n_261 : xM := (⟨"RobotCellHouse", "endMove", "(I)V"⟩, prog_1_method_73_code, 3, none, 0, 0, 11)
def n_262 : xM := (⟨"RobotCellHouse", "guard", "()V"⟩, prog_1_method_74_code, 3, none, 0, 0, 11)
def n_263 : xM := (⟨"RobotCellHouse", "firstTouching", "()I"⟩, prog_1_method_75_code, 2, (some .int), 0, 0, 11)
def n_264 : xM := (⟨"RobotCellHouse", "countTravellers", "()V"⟩, prog_1_method_76_code, 3, none, 0, 0, 11)
def n_265 : xM := (⟨"RobotCellHouse", "trip", "(II)V"⟩, prog_1_method_77_code, 4, none, 0, 0, 11)
def n_266 : xM := (⟨"RobotCellHouseModel", "within", "(JJJ)Z"⟩, prog_14_method_2_code, 6, (some .boolean), 0, 0, 999)
def n_267 : xM := (⟨"RobotCellHouseModel", "renew", "()V"⟩, prog_14_method_3_code, 2, none, 0, 0, 12)
def n_268 : xM := (⟨"RobotCellHouseModel", "armAt", "(I)I"⟩, prog_14_method_4_code, 1, (some .int), 0, 0, 999)
def n_269 : xM := (⟨"RobotCellHouseModel", "taskAt", "(I)I"⟩, prog_14_method_5_code, 1, (some .int), 0, 0, 999)
def n_270 : xM := (⟨"RobotCellHouseModel", "isArm", "(I)Z"⟩, prog_14_method_6_code, 2, (some .boolean), 0, 0, 12)
def n_271 : xM := (⟨"RobotCellHouseModel", "isJoint", "(II)Z"⟩, prog_14_method_7_code, 3, (some .boolean), 0, 0, 12)
def n_272 : xM := (⟨"RobotCellHouseModel", "isPlace", "(II)Z"⟩, prog_14_method_8_code, 2, (some .boolean), 0, 0, 999)
def n_273 : xM := (⟨"RobotCellHouseModel", "isArea", "(IIII)Z"⟩, prog_14_method_9_code, 4, (some .boolean), 0, 0, 999)
def n_274 : xM := (⟨"RobotCellHouseModel", "feed", "(IIIII)I"⟩, prog_14_method_10_code, 6, (some .int), 0, 0, 12)
def n_275 : xM := (⟨"RobotCellHouseModel", "word", "(I)V"⟩, prog_14_method_11_code, 3, none, 0, 0, 12)
def n_276 : xM := (⟨"RobotCellHouseModel", "cut", "(I)I"⟩, prog_14_method_12_code, 2, (some .int), 0, 0, 12)
def n_277 : xM := (⟨"RobotCellHouseModel", "build", "()I"⟩, prog_14_method_13_code, 2, (some .int), 0, 0, 12)
def n_278 : xM := (⟨"RobotCellHouseModel", "arm", "(IIII)I"⟩, prog_14_method_14_code, 5, (some .int), 0, 0, 12)
def n_279 : xM := (⟨"RobotCellHouseModel", "joint", "(IIIII)I"⟩, prog_14_method_15_code, 9, (some .int), 0, 0, 12)
def n_280 : xM := (⟨"RobotCellHouseModel", "radius", "(III)I"⟩, prog_14_method_16_code, 5, (some .int), 0, 0, 12)
def n_281 : xM := (⟨"RobotCellHouseModel", "pace", "(IIII)I"⟩, prog_14_method_17_code, 5, (some .int), 0, 0, 12)
def n_282 : xM := (⟨"RobotCellHouseModel", "solid", "(ZIIII)I"⟩, prog_14_method_18_code, 6, (some .int), 0, 0, 12)
def n_283 : xM := (⟨"RobotCellHouseModel", "ball", "(III)I"⟩, prog_14_method_19_code, 4, (some .int), 0, 0, 12)
def n_284 : xM := (⟨"RobotCellHouseModel", "box", "(IIII)I"⟩, prog_14_method_20_code, 5, (some .int), 0, 0, 12)
def n_285 : xM := (⟨"RobotCellHouseModel", "spare", "(III)I"⟩, prog_14_method_21_code, 6, (some .int), 0, 0, 12)
def n_286 : xM := (⟨"RobotCellHouseModel", "belt", "(IIIII)I"⟩, prog_14_method_22_code, 7, (some .int), 0, 0, 12)
def n_287 : xM := (⟨"RobotCellHouseModel", "drive", "(II)I"⟩, prog_14_method_23_code, 4, (some .int), 0, 0, 12)
def n_288 : xM := (⟨"RobotCellHouseModel", "sensor", "(IIII)I"⟩, prog_14_method_24_code, 5, (some .int), 0, 0, 12)
def n_289 : xM := (⟨"RobotCellHouseModel", "part", "(III)I"⟩, prog_14_method_25_code, 4, (some .int), 0, 0, 12)
def n_290 : xM := (⟨"RobotCellHouseModel", "lay", "(III)I"⟩, prog_14_method_26_code, 4, (some .int), 0, 0, 12)
def n_291 : xM := (⟨"RobotCellHouseModel", "zone", "(IIIII)I"⟩, prog_14_method_27_code, 6, (some .int), 0, 0, 12)
def n_292 : xM := (⟨"RobotCellHouseModel", "most", "(II)I"⟩, prog_14_method_28_code, 4, (some .int), 0, 0, 12)
def n_293 : xM := (⟨"RobotCellHouseModel", "input", "(I)I"⟩, prog_14_method_29_code, 2, (some .int), 0, 0, 12)
def n_294 : xM := (⟨"RobotCellHouseModel", "person", "(IZ)I"⟩, prog_14_method_30_code, 3, (some .int), 0, 0, 12)
def n_295 : xM := (⟨"RobotCellHouseModel", "wire", "(IIZ)I"⟩, prog_14_method_31_code, 6, (some .int), 0, 0, 12)
def n_296 : xM := (⟨"RobotCellHouseModel", "open", "()I"⟩, prog_14_method_32_code, 2, (some .int), 0, 0, 12)
def n_297 : xM := (⟨"RobotCellHouseModel", "times", "(JJ)J"⟩, prog_14_method_33_code, 12, (some .long), 0, 0, 999)
def n_298 : xM := (⟨"RobotCellHouseModel", "series", "(JI)J"⟩, prog_14_method_34_code, 11, (some .long), 0, 0, 999)
def n_299 : xM := (⟨"RobotCellHouseModel", "makeSines", "()V"⟩, prog_14_method_35_code, 4, none, 0, 0, 12)
def n_300 : xM := (⟨"RobotCellHouseModel", "sine", "(I)I"⟩, prog_14_method_36_code, 3, (some .int), 0, 0, 12)
def n_301 : xM := (⟨"RobotCellHouseModel", "points", "(IZ)V"⟩, prog_14_method_37_code, 12, none, 0, 0, 12)
def n_302 : xM := (⟨"RobotCellHouseModel", "allPoints", "()V"⟩, prog_14_method_38_code, 2, none, 0, 0, 12)
def n_303 : xM := (⟨"RobotCellHouseModel", "keepPoints", "()V"⟩, prog_14_method_39_code, 3, none, 0, 0, 12)
def n_304 : xM := (⟨"RobotCellHouseModel", "bodies", "(I)I"⟩, prog_14_method_40_code, 2, (some .int), 0, 0, 12)
def n_305 : xM := (⟨"RobotCellHouseModel", "body", "(III)V"⟩, prog_14_method_41_code, 5, none, 0, 0, 12)
def n_306 : xM := (⟨"RobotCellHouseModel", "near", "(JJJ)Z"⟩, prog_14_method_42_code, 6, (some .boolean), 0, 0, 999)
def n_307 : xM := (⟨"RobotCellHouseModel", "nearLine", "(JJJJJJJ)Z"⟩, prog_14_method_43_code, 28, (some .boolean), 0, 0, 999)
def n_308 : xM := (⟨"RobotCellHouseModel", "side", "(JJJJJJ)I"⟩, prog_14_method_44_code, 14, (some .int), 0, 0, 999)
def n_309 : xM := (⟨"RobotCellHouseModel", "apart", "(JJJJJ)Z"⟩, prog_14_method_45_code, 10, (some .boolean), 0, 0, 999)
def n_310 : xM := (⟨"RobotCellHouseModel", "nearLines", "([I[IJ)Z"⟩, prog_14_method_46_code, 5, (some .boolean), 0, 0, 999)
def n_311 : xM := (⟨"RobotCellHouseModel", "line", "([IIIII)V"⟩, prog_14_method_47_code, 6, none, 0, 0, 12)
def n_312 : xM := (⟨"RobotCellHouseModel", "bodyLine", "([I)V"⟩, prog_14_method_48_code, 2, none, 0, 0, 12)
def n_313 : xM := (⟨"RobotCellHouseModel", "touchBodies", "(IIIIIII)Z"⟩, prog_14_method_49_code, 9, (some .boolean), 0, 0, 12)
def n_314 : xM := (⟨"RobotCellHouseModel", "touchSolid", "(IIIII)Z"⟩, prog_14_method_50_code, 14, (some .boolean), 0, 0, 12)
def n_315 : xM := (⟨"RobotCellHouseModel", "alone", "(III)Z"⟩, prog_14_method_51_code, 7, (some .boolean), 0, 0, 12)
def n_316 : xM := (⟨"RobotCellHouseModel", "both", "(IIII)Z"⟩, prog_14_method_52_code, 7, (some .boolean), 0, 0, 12)
def n_317 : xM := (⟨"RobotCellHouseModel", "any", "(III)Z"⟩, prog_14_method_53_code, 6, (some .boolean), 0, 0, 12)
def n_318 : xM := (⟨"RobotCellHouseModel", "touches", "(II)I"⟩, prog_14_method_54_code, 3, (some .int), 0, 0, 12)
def n_319 : xM := (⟨"RobotCellHouseModel", "note", "(III)V"⟩, prog_14_method_55_code, 5, none, 0, 0, 12)
def n_320 : xM := (⟨"RobotCellHouseModel", "valueOf", "(I)I"⟩, prog_14_method_56_code, 6, (some .int), 0, 0, 12)
def n_321 : xM := (⟨"RobotCellHouseModel", "beforeChange", "()V"⟩, prog_14_method_57_code, 2, none, 0, 0, 12)
def n_322 : xM := (⟨"RobotCellHouseModel", "behindChange", "()V"⟩, prog_14_method_58_code, 2, none, 0, 0, 12)
def n_323 : xM := (⟨"RobotCellHouseModel", "setOwn", "(II)V"⟩, prog_14_method_59_code, 3, none, 0, 0, 12)
def n_324 : xM := (⟨"RobotCellHouseModel", "isLetter", "(I)Z"⟩, prog_14_method_60_code, 1, (some .boolean), 0, 0, 999)
def n_325 : xM := (⟨"RobotCellHouseModel", "isDigit", "(I)Z"⟩, prog_14_method_61_code, 1, (some .boolean), 0, 0, 999)
def n_326 : xM := (⟨"RobotCellHouseModel", "byteAt", "(I)I"⟩, prog_14_method_62_code, 2, (some .int), 0, 0, 12)
def n_327 : xM := (⟨"RobotCellHouseModel", "nextToken", "()V"⟩, prog_14_method_63_code, 4, none, 0, 0, 12)
def n_328 : xM := (⟨"RobotCellHouseModel", "readWord", "()V"⟩, prog_14_method_64_code, 5, none, 0, 0, 12)
def n_329 : xM := (⟨"RobotCellHouseModel", "readNumber", "()V"⟩, prog_14_method_65_code, 4, none, 0, 0, 12)
def n_330 : xM := (⟨"RobotCellHouseModel", "readSign", "(I)V"⟩, prog_14_method_66_code, 3, none, 0, 0, 12)
def n_331 : xM := (⟨"RobotCellHouseModel", "isSign", "(I)Z"⟩, prog_14_method_67_code, 2, (some .boolean), 0, 0, 12)
def n_332 : xM := (⟨"RobotCellHouseModel", "isKey", "(I)Z"⟩, prog_14_method_68_code, 2, (some .boolean), 0, 0, 12)
def n_333 : xM := (⟨"RobotCellHouseModel", "refuse", "(I)V"⟩, prog_14_method_69_code, 2, none, 0, 0, 12)
def n_334 : xM := (⟨"RobotCellHouseModel", "must", "(Z)V"⟩, prog_14_method_70_code, 2, none, 0, 0, 12)
def n_335 : xM := (⟨"RobotCellHouseModel", "opened", "()V"⟩, prog_14_method_71_code, 1, none, 0, 0, 12)
def n_336 : xM := (⟨"RobotCellHouseModel", "emit", "(II)I"⟩, prog_14_method_72_code, 4, (some .int), 0, 0, 12)
def n_337 : xM := (⟨"RobotCellHouseModel", "patch", "(I)V"⟩, prog_14_method_73_code, 2, none, 0, 0, 12)
def n_338 : xM := (⟨"RobotCellHouseModel", "name", "(II)V"⟩, prog_14_method_74_code, 3, none, 0, 0, 12)
def n_339 : xM := (⟨"RobotCellHouseModel", "exp", "()V"⟩, prog_14_method_75_code, 2, none, 0, 0, 12)
def n_340 : xM := (⟨"RobotCellHouseModel", "all", "()V"⟩, prog_14_method_76_code, 2, none, 0, 0, 12)
def n_341 : xM := (⟨"RobotCellHouseModel", "closeChain", "(I)V"⟩, prog_14_method_77_code, 4, none, 0, 0, 12)
def n_342 : xM := (⟨"RobotCellHouseModel", "fact", "()V"⟩, prog_14_method_78_code, 2, none, 0, 0, 12)
def n_343 : xM := (⟨"RobotCellHouseModel", "sum", "()V"⟩, prog_14_method_79_code, 2, none, 0, 0, 12)
def n_344 : xM := (⟨"RobotCellHouseModel", "product", "()V"⟩, prog_14_method_80_code, 2, none, 0, 0, 12)
def n_345 : xM := (⟨"RobotCellHouseModel", "bracket", "()V"⟩, prog_14_method_81_code, 1, none, 0, 0, 12)
def n_346 : xM := (⟨"RobotCellHouseModel", "single", "()V"⟩, prog_14_method_82_code, 2, none, 0, 0, 12)
def n_347 : xM := (⟨"RobotCellHouseModel", "begins", "()Z"⟩, prog_14_method_83_code, 1, (some .boolean), 0, 0, 12)
def n_348 : xM := (⟨"RobotCellHouseModel", "stats", "()V"⟩, prog_14_method_84_code, 2, none, 0, 0, 12)
def n_349 : xM := (⟨"RobotCellHouseModel", "plain", "(I)V"⟩, prog_14_method_85_code, 4, none, 0, 0, 12)
def n_350 : xM := (⟨"RobotCellHouseModel", "branch", "()V"⟩, prog_14_method_86_code, 3, none, 0, 0, 12)
def n_351 : xM := (⟨"RobotCellHouseModel", "again", "()V"⟩, prog_14_method_87_code, 5, none, 0, 0, 12)
def n_352 : xM := (⟨"RobotCellHouseModel", "attempt", "()V"⟩, prog_14_method_88_code, 4, none, 0, 0, 12)
def n_353 : xM := (⟨"RobotCellHouseModel", "text", "()V"⟩, prog_14_method_89_code, 1, none, 0, 0, 12)
def n_354 : xM := (⟨"RobotCellHouseModel", "isSameName", "(II)Z"⟩, prog_14_method_90_code, 5, (some .boolean), 0, 0, 12)
def n_355 : xM := (⟨"RobotCellHouseModel", "told", "(III)I"⟩, prog_14_method_91_code, 6, (some .int), 0, 0, 12)
def n_356 : xM := (⟨"RobotCellHouseModel", "resolve", "()V"⟩, prog_14_method_92_code, 5, none, 0, 0, 12)
def n_357 : xM := (⟨"RobotCellHouseModel", "program", "(I)I"⟩, prog_14_method_93_code, 3, (some .int), 0, 0, 12)
def n_358 : xM := (⟨"RobotCellHouseModel", "fault", "(I)I"⟩, prog_14_method_94_code, 2, (some .int), 0, 0, 12)
def n_359 : xM := (⟨"RobotCellHouseModel", "newTask", "(II)I"⟩, prog_14_method_95_code, 6, (some .int), 0, 0, 12)
def n_360 : xM := (⟨"RobotCellHouseModel", "freeLock", "(I)V"⟩, prog_14_method_96_code, 5, none, 0, 0, 12)
def n_361 : xM := (⟨"RobotCellHouseModel", "freeAll", "(I)V"⟩, prog_14_method_97_code, 3, none, 0, 0, 12)
def n_362 : xM := (⟨"RobotCellHouseModel", "where", "()I"⟩, prog_14_method_98_code, 1, (some .int), 0, 0, 12)
def n_363 : xM := (⟨"RobotCellHouseModel", "push", "(I)V"⟩, prog_14_method_99_code, 2, none, 0, 0, 12)
def n_364 : xM := (⟨"RobotCellHouseModel", "pop", "()I"⟩, prog_14_method_100_code, 1, (some .int), 0, 0, 12)
def n_365 : xM := (⟨"RobotCellHouseModel", "go", "(I)V"⟩, prog_14_method_101_code, 2, none, 0, 0, 12)
def n_366 : xM := (⟨"RobotCellHouseModel", "turnOf", "(I)V"⟩, prog_14_method_102_code, 2, none, 0, 0, 12)
def n_367 : xM := (⟨"RobotCellHouseModel", "enter", "(II)V"⟩, prog_14_method_103_code, 3, none, 0, 0, 12)
def n_368 : xM := (⟨"RobotCellHouseModel", "doBegin", "()V"⟩, prog_14_method_104_code, 2, none, 0, 0, 12)
def n_369 : xM := (⟨"RobotCellHouseModel", "fails", "(I)V"⟩, prog_14_method_105_code, 2, none, 0, 0, 12)
def n_370 : xM := (⟨"RobotCellHouseModel", "await", "(II)V"⟩, prog_14_method_106_code, 4, none, 0, 0, 12)
def n_371 : xM := (⟨"RobotCellHouseModel", "leave", "(III)V"⟩, prog_14_method_107_code, 8, none, 0, 0, 12)
def n_372 : xM := (⟨"RobotCellHouseModel", "out", "(II)I"⟩, prog_14_method_108_code, 4, (some .int), 0, 0, 12)
def n_373 : xM := (⟨"RobotCellHouseModel", "doAct", "()V"⟩, prog_14_method_109_code, 4, none, 0, 0, 12)
def n_374 : xM := (⟨"RobotCellHouseModel", "reckon", "(III)V"⟩, prog_14_method_110_code, 10, none, 0, 0, 12)
def n_375 : xM := (⟨"RobotCellHouseModel", "reckoned", "(III)I"⟩, prog_14_method_111_code, 3, (some .int), 0, 0, 999)
def n_376 : xM := (⟨"RobotCellHouseModel", "doStatement", "(III)V"⟩, prog_14_method_112_code, 7, none, 0, 0, 12)
def n_377 : xM := (⟨"RobotCellHouseModel", "doFinallyOver", "(I)V"⟩, prog_14_method_113_code, 3, none, 0, 0, 12)
def n_378 : xM := (⟨"RobotCellHouseModel", "doOther", "(II)I"⟩, prog_14_method_114_code, 7, (some .int), 0, 0, 12)
def n_379 : xM := (⟨"RobotCellHouseModel", "doTake", "(I)I"⟩, prog_14_method_115_code, 2, (some .int), 0, 0, 12)
def n_380 : xM := (⟨"RobotCellHouseModel", "doMove", "(II)V"⟩, prog_14_method_116_code, 7, none, 0, 0, 12)
def n_381 : xM := (⟨"RobotCellHouseModel", "beginMove", "(I)V"⟩, prog_14_method_117_code, 7, none, 0, 0, 12)
def n_382 : xM := (⟨"RobotCellHouseModel", "fewest", "(III)I"⟩, prog_14_method_118_code, 9, (some .int), 0, 0, 999)
def n_383 : xM := (⟨"RobotCellHouseModel", "breakMove", "(I)V"⟩, prog_14_method_119_code, 3, none, 0, 0, 12)
def n_384 : xM := (⟨"RobotCellHouseModel", "brake", "(I)V"⟩, prog_14_method_120_code, 2, none, 0, 0, 12)
def n_385 : xM := (⟨"RobotCellHouseModel", "trip", "(II)V"⟩, prog_14_method_121_code, 6, none, 0, 0, 12)
def n_386 : xM := (⟨"RobotCellHouseModel", "greatest", "(IIII)I"⟩, prog_14_method_122_code, 9, (some .int), 0, 0, 999)
def n_387 : xM := (⟨"RobotCellHouseModel", "nearer", "(II)I"⟩, prog_14_method_123_code, 2, (some .int), 0, 0, 999)
def n_388 : xM := (⟨"RobotCellHouseModel", "goOn", "(I)V"⟩, prog_14_method_124_code, 10, none, 0, 0, 12)
def n_389 : xM := (⟨"RobotCellHouseModel", "tally", "(IZ)V"⟩, prog_14_method_125_code, 3, none, 0, 0, 12)
def n_390 : xM := (⟨"RobotCellHouseModel", "stale", "(I)V"⟩, prog_14_method_126_code, 3, none, 0, 0, 12)
def n_391 : xM := (⟨"RobotCellHouseModel", "nextOfWay", "(I)V"⟩, prog_14_method_127_code, 5, none, 0, 0, 12)
def n_392 : xM := (⟨"RobotCellHouseModel", "partAt", "(I)I"⟩, prog_14_method_128_code, 1, (some .int), 0, 0, 999)
def n_393 : xM := (⟨"RobotCellHouseModel", "comes", "(III)V"⟩, prog_14_method_129_code, 7, none, 0, 0, 12)
def n_394 : xM := (⟨"RobotCellHouseModel", "lies", "(III)V"⟩, prog_14_method_130_code, 4, none, 0, 0, 12)
def n_395 : xM := (⟨"RobotCellHouseModel", "middle", "(II)I"⟩, prog_14_method_131_code, 5, (some .int), 0, 0, 12)
def n_396 : xM := (⟨"RobotCellHouseModel", "doGrip", "(I)Z"⟩, prog_14_method_132_code, 15, (some .boolean), 0, 0, 12)
def n_397 : xM := (⟨"RobotCellHouseModel", "doDrop", "(I)Z"⟩, prog_14_method_133_code, 11, (some .boolean), 0, 0, 12)
def n_398 : xM := (⟨"RobotCellHouseModel", "driveBelt", "(I)V"⟩, prog_14_method_134_code, 10, none, 0, 0, 12)
def n_399 : xM := (⟨"RobotCellHouseModel", "isWell", "(I)Z"⟩, prog_14_method_135_code, 3, (some .boolean), 0, 0, 12)
def n_400 : xM := (⟨"RobotCellHouseModel", "firstNotWell", "()I"⟩, prog_14_method_136_code, 2, (some .int), 0, 0, 12)
def n_401 : xM := (⟨"RobotCellHouseModel", "lookAtInputs", "()V"⟩, prog_14_method_137_code, 3, none, 0, 0, 12)
def n_402 : xM := (⟨"RobotCellHouseModel", "armsGoOn", "()V"⟩, prog_14_method_138_code, 3, none, 0, 0, 12)
def n_403 : xM := (⟨"RobotCellHouseModel", "countJoints", "(Z)V"⟩, prog_14_method_139_code, 8, none, 0, 0, 12)
def n_404 : xM := (⟨"RobotCellHouseModel", "firstTouching", "()I"⟩, prog_14_method_140_code, 4, (some .int), 0, 0, 12)
def n_405 : xM := (⟨"RobotCellHouseModel", "firstBroken", "()I"⟩, prog_14_method_141_code, 15, (some .int), 0, 0, 12)
def n_406 : xM := (⟨"RobotCellHouseModel", "look", "()V"⟩, prog_14_method_142_code, 4, none, 0, 0, 12)
def n_407 : xM := (⟨"RobotCellHouseModel", "countParts", "()V"⟩, prog_14_method_143_code, 5, none, 0, 0, 12)
def n_408 : xM := (⟨"RobotCellHouseModel", "tick", "()V"⟩, prog_14_method_144_code, 4, none, 0, 0, 12)
def n_409 : xM := (⟨"RobotCellHouseModel", "nodeCount", "(II)I"⟩, prog_14_method_145_code, 9, (some .int), 0, 0, 12)
def n_410 : xM := (⟨"RobotCellHouseModel", "digit", "(II)I"⟩, prog_14_method_146_code, 5, (some .int), 0, 0, 12)
def n_411 : xM := (⟨"RobotCellHouseModel", "weight", "(I)I"⟩, prog_14_method_147_code, 4, (some .int), 0, 0, 12)
def n_412 : xM := (⟨"RobotCellHouseModel", "tryNode", "(I)V"⟩, prog_14_method_148_code, 3, none, 0, 0, 12)
def n_413 : xM := (⟨"RobotCellHouseModel", "isClear", "()Z"⟩, prog_14_method_149_code, 1, (some .boolean), 0, 0, 12)
def n_414 : xM := (⟨"RobotCellHouseModel", "freeNode", "(I)Z"⟩, prog_14_method_150_code, 2, (some .boolean), 0, 0, 12)
def n_415 : xM := (⟨"RobotCellHouseModel", "freeEdge", "(II)Z"⟩, prog_14_method_151_code, 6, (some .boolean), 0, 0, 12)
def n_416 : xM := (⟨"RobotCellHouseModel", "beside", "(II)I"⟩, prog_14_method_152_code, 5, (some .int), 0, 0, 12)
def n_417 : xM := (⟨"RobotCellHouseModel", "search", "(III)I"⟩, prog_14_method_153_code, 11, (some .int), 0, 0, 12)
def n_418 : xM := (⟨"RobotCellHouseModel", "plan", "(III)I"⟩, prog_14_method_154_code, 10, (some .int), 0, 0, 12)
def n_419 : xM := (⟨"RobotCellHouseModel", "travel", "(I)I"⟩, prog_14_method_155_code, 5, (some .int), 0, 0, 12)
def n_420 : xM := (⟨"RobotCellHouseModel", "keepWay", "(IZ)V"⟩, prog_14_method_156_code, 6, none, 0, 0, 12)
def n_421 : xM := (⟨"RobotCellHouseModel", "keptWay", "(I)I"⟩, prog_14_method_157_code, 4, (some .int), 0, 0, 12)
def n_422 : xM := (⟨"RobotCellHouseModel", "isBookFull", "()Z"⟩, prog_14_method_158_code, 1, (some .boolean), 0, 0, 12)
def n_423 : xM := (⟨"RobotCellHouseModel", "write", "(IIII)V"⟩, prog_14_method_159_code, 7, none, 0, 0, 12)
def n_424 : xM := (⟨"RobotCellHouseModel", "isPoint", "(I)Z"⟩, prog_14_method_160_code, 2, (some .boolean), 0, 0, 12)
def n_425 : xM := (⟨"RobotCellHouseModel", "start", "(II)I"⟩, prog_14_method_161_code, 5, (some .int), 0, 0, 12)
def n_426 : xM := (⟨"RobotCellHouseModel", "run", "(I)I"⟩, prog_14_method_162_code, 4, (some .int), 0, 0, 12)
def n_427 : xM := (⟨"RobotCellHouseModel", "set", "(II)I"⟩, prog_14_method_163_code, 4, (some .int), 0, 0, 12)
def n_428 : xM := (⟨"RobotCellHouseModel", "force", "(IIZ)I"⟩, prog_14_method_164_code, 5, (some .int), 0, 0, 12)
def n_429 : xM := (⟨"RobotCellHouseModel", "channel", "(IZZ)I"⟩, prog_14_method_165_code, 4, (some .int), 0, 0, 12)
def n_430 : xM := (⟨"RobotCellHouseModel", "reset", "(I)I"⟩, prog_14_method_166_code, 3, (some .int), 0, 0, 12)
def n_431 : xM := (⟨"RobotCellHouseModel", "stop", "(I)I"⟩, prog_14_method_167_code, 3, (some .int), 0, 0, 12)
def n_432 : xM := (⟨"RobotCellHouseModel", "acknowledge", "(I)I"⟩, prog_14_method_168_code, 3, (some .int), 0, 0, 12)
def n_433 : xM := (⟨"RobotCellHouseModel", "hand", "(III)I"⟩, prog_14_method_169_code, 5, (some .int), 0, 0, 12)
def n_434 : xM := (⟨"RobotCellHouseModel", "aim", "(II)I"⟩, prog_14_method_170_code, 3, (some .int), 0, 0, 12)
def n_435 : xM := (⟨"RobotCellHouseModel", "done", "(IIII)I"⟩, prog_14_method_171_code, 5, (some .int), 0, 0, 12)
def n_436 : xM := (⟨"RobotCellHouseModel", "back", "(I)I"⟩, prog_14_method_172_code, 5, (some .int), 0, 0, 12)
def n_437 : xM := (⟨"RobotCellHouseModel", "time", "()I"⟩, prog_14_method_173_code, 1, (some .int), 0, 0, 12)
def n_438 : xM := (⟨"RobotCellHouseModel", "state", "(II)I"⟩, prog_14_method_174_code, 4, (some .int), 0, 0, 12)
def n_439 : xM := (⟨"RobotCellHouseModel", "value", "(II)I"⟩, prog_14_method_175_code, 3, (some .int), 0, 0, 12)
def n_440 : xM := (⟨"RobotCellHouseModel", "point", "(III)I"⟩, prog_14_method_176_code, 4, (some .int), 0, 0, 12)
def n_441 : xM := (⟨"RobotCellHouseModel", "step", "(II)I"⟩, prog_14_method_177_code, 3, (some .int), 0, 0, 12)
def n_442 : xM := (⟨"RobotCellHouseModel", "task", "(II)I"⟩, prog_14_method_178_code, 3, (some .int), 0, 0, 12)
def n_443 : xM := (⟨"RobotCellHouseModel", "variable", "(II)I"⟩, prog_14_method_179_code, 3, (some .int), 0, 0, 12)
def n_444 : xM := (⟨"RobotCellHouseModel", "signal", "(II)I"⟩, prog_14_method_180_code, 3, (some .int), 0, 0, 12)
def n_445 : xM := (⟨"RobotCellHouseModel", "lock", "(I)I"⟩, prog_14_method_181_code, 2, (some .int), 0, 0, 12)
def n_446 : xM := (⟨"RobotCellHouseModel", "about", "(II)I"⟩, prog_14_method_182_code, 3, (some .int), 0, 0, 12)
def n_447 : xM := (⟨"RobotCellHouseModel", "safety", "(I)I"⟩, prog_14_method_183_code, 2, (some .int), 0, 0, 12)
def n_448 : xM := (⟨"RobotCellHouseModel", "events", "()I"⟩, prog_14_method_184_code, 1, (some .int), 0, 0, 12)
def n_449 : xM := (⟨"RobotCellHouseModel", "event", "(II)I"⟩, prog_14_method_185_code, 3, (some .int), 0, 0, 12)
def n_450 : xM := (⟨"RobotCellHouseModel", "count", "(I)I"⟩, prog_14_method_186_code, 2, (some .int), 0, 0, 12)
def n_451 : xM := (⟨"RobotCellHouseModel", "never", "(I)I"⟩, prog_14_method_187_code, 2, (some .int), 0, 0, 12)
def n_452 : xM := (⟨"java/util/Arrays", "fill", "([II)V"⟩, prog_20_method_103_code, 4, none, 0, 0, 999)
def eI : Nat → xM := (x_TI 225 (x_TI 112 (x_TI 55 (x_TI 27 (x_TI 13 (x_TI 6 (x_TI 2 (x_TI 0 (fun _ => n_0) (x_TI 1 (fun _ => n_1) (fun _ => n_2))) (x_TI 4 (x_TI 3 (fun _ => n_3) (fun _ => n_4)) (x_TI 5 (fun _ => n_5) (fun _ => n_6)))) (x_TI 9 (x_TI 7 (fun _ => n_7) (x_TI 8 (fun _ => n_8) (fun _ => n_9))) (x_TI 11 (x_TI 10 (fun _ => n_10) (fun _ => n_11)) (x_TI 12 (fun _ => n_12) (fun _ => n_13))))) (x_TI 20 (x_TI 16 (x_TI 14 (fun _ => n_14) (x_TI 15 (fun _ => n_15) (fun _ => n_16))) (x_TI 18 (x_TI 17 (fun _ => n_17) (fun _ => n_18)) (x_TI 19 (fun _ => n_19) (fun _ => n_20)))) (x_TI 23 (x_TI 21 (fun _ => n_21) (x_TI 22 (fun _ => n_22) (fun _ => n_23))) (x_TI 25 (x_TI 24 (fun _ => n_24) (fun _ => n_25)) (x_TI 26 (fun _ => n_26) (fun _ => n_27)))))) (x_TI 41 (x_TI 34 (x_TI 30 (x_TI 28 (fun _ => n_28) (x_TI 29 (fun _ => n_29) (fun _ => n_30))) (x_TI 32 (x_TI 31 (fun _ => n_31) (fun _ => n_32)) (x_TI 33 (fun _ => n_33) (fun _ => n_34)))) (x_TI 37 (x_TI 35 (fun _ => n_35) (x_TI 36 (fun _ => n_36) (fun _ => n_37))) (x_TI 39 (x_TI 38 (fun _ => n_38) (fun _ => n_39)) (x_TI 40 (fun _ => n_40) (fun _ => n_41))))) (x_TI 48 (x_TI 44 (x_TI 42 (fun _ => n_42) (x_TI 43 (fun _ => n_43) (fun _ => n_44))) (x_TI 46 (x_TI 45 (fun _ => n_45) (fun _ => n_46)) (x_TI 47 (fun _ => n_47) (fun _ => n_48)))) (x_TI 51 (x_TI 49 (fun _ => n_49) (x_TI 50 (fun _ => n_50) (fun _ => n_51))) (x_TI 53 (x_TI 52 (fun _ => n_52) (fun _ => n_53)) (x_TI 54 (fun _ => n_54) (fun _ => n_55))))))) (x_TI 83 (x_TI 69 (x_TI 62 (x_TI 58 (x_TI 56 (fun _ => n_56) (x_TI 57 (fun _ => n_57) (fun _ => n_58))) (x_TI 60 (x_TI 59 (fun _ => n_59) (fun _ => n_60)) (x_TI 61 (fun _ => n_61) (fun _ => n_62)))) (x_TI 65 (x_TI 63 (fun _ => n_63) (x_TI 64 (fun _ => n_64) (fun _ => n_65))) (x_TI 67 (x_TI 66 (fun _ => n_66) (fun _ => n_67)) (x_TI 68 (fun _ => n_68) (fun _ => n_69))))) (x_TI 76 (x_TI 72 (x_TI 70 (fun _ => n_70) (x_TI 71 (fun _ => n_71) (fun _ => n_72))) (x_TI 74 (x_TI 73 (fun _ => n_73) (fun _ => n_74)) (x_TI 75 (fun _ => n_75) (fun _ => n_76)))) (x_TI 79 (x_TI 77 (fun _ => n_77) (x_TI 78 (fun _ => n_78) (fun _ => n_79))) (x_TI 81 (x_TI 80 (fun _ => n_80) (fun _ => n_81)) (x_TI 82 (fun _ => n_82) (fun _ => n_83)))))) (x_TI 97 (x_TI 90 (x_TI 86 (x_TI 84 (fun _ => n_84) (x_TI 85 (fun _ => n_85) (fun _ => n_86))) (x_TI 88 (x_TI 87 (fun _ => n_87) (fun _ => n_88)) (x_TI 89 (fun _ => n_89) (fun _ => n_90)))) (x_TI 93 (x_TI 91 (fun _ => n_91) (x_TI 92 (fun _ => n_92) (fun _ => n_93))) (x_TI 95 (x_TI 94 (fun _ => n_94) (fun _ => n_95)) (x_TI 96 (fun _ => n_96) (fun _ => n_97))))) (x_TI 104 (x_TI 100 (x_TI 98 (fun _ => n_98) (x_TI 99 (fun _ => n_99) (fun _ => n_100))) (x_TI 102 (x_TI 101 (fun _ => n_101) (fun _ => n_102)) (x_TI 103 (fun _ => n_103) (fun _ => n_104)))) (x_TI 108 (x_TI 106 (x_TI 105 (fun _ => n_105) (fun _ => n_106)) (x_TI 107 (fun _ => n_107) (fun _ => n_108))) (x_TI 110 (x_TI 109 (fun _ => n_109) (fun _ => n_110)) (x_TI 111 (fun _ => n_111) (fun _ => n_112)))))))) (x_TI 168 (x_TI 140 (x_TI 126 (x_TI 119 (x_TI 115 (x_TI 113 (fun _ => n_113) (x_TI 114 (fun _ => n_114) (fun _ => n_115))) (x_TI 117 (x_TI 116 (fun _ => n_116) (fun _ => n_117)) (x_TI 118 (fun _ => n_118) (fun _ => n_119)))) (x_TI 122 (x_TI 120 (fun _ => n_120) (x_TI 121 (fun _ => n_121) (fun _ => n_122))) (x_TI 124 (x_TI 123 (fun _ => n_123) (fun _ => n_124)) (x_TI 125 (fun _ => n_125) (fun _ => n_126))))) (x_TI 133 (x_TI 129 (x_TI 127 (fun _ => n_127) (x_TI 128 (fun _ => n_128) (fun _ => n_129))) (x_TI 131 (x_TI 130 (fun _ => n_130) (fun _ => n_131)) (x_TI 132 (fun _ => n_132) (fun _ => n_133)))) (x_TI 136 (x_TI 134 (fun _ => n_134) (x_TI 135 (fun _ => n_135) (fun _ => n_136))) (x_TI 138 (x_TI 137 (fun _ => n_137) (fun _ => n_138)) (x_TI 139 (fun _ => n_139) (fun _ => n_140)))))) (x_TI 154 (x_TI 147 (x_TI 143 (x_TI 141 (fun _ => n_141) (x_TI 142 (fun _ => n_142) (fun _ => n_143))) (x_TI 145 (x_TI 144 (fun _ => n_144) (fun _ => n_145)) (x_TI 146 (fun _ => n_146) (fun _ => n_147)))) (x_TI 150 (x_TI 148 (fun _ => n_148) (x_TI 149 (fun _ => n_149) (fun _ => n_150))) (x_TI 152 (x_TI 151 (fun _ => n_151) (fun _ => n_152)) (x_TI 153 (fun _ => n_153) (fun _ => n_154))))) (x_TI 161 (x_TI 157 (x_TI 155 (fun _ => n_155) (x_TI 156 (fun _ => n_156) (fun _ => n_157))) (x_TI 159 (x_TI 158 (fun _ => n_158) (fun _ => n_159)) (x_TI 160 (fun _ => n_160) (fun _ => n_161)))) (x_TI 164 (x_TI 162 (fun _ => n_162) (x_TI 163 (fun _ => n_163) (fun _ => n_164))) (x_TI 166 (x_TI 165 (fun _ => n_165) (fun _ => n_166)) (x_TI 167 (fun _ => n_167) (fun _ => n_168))))))) (x_TI 196 (x_TI 182 (x_TI 175 (x_TI 171 (x_TI 169 (fun _ => n_169) (x_TI 170 (fun _ => n_170) (fun _ => n_171))) (x_TI 173 (x_TI 172 (fun _ => n_172) (fun _ => n_173)) (x_TI 174 (fun _ => n_174) (fun _ => n_175)))) (x_TI 178 (x_TI 176 (fun _ => n_176) (x_TI 177 (fun _ => n_177) (fun _ => n_178))) (x_TI 180 (x_TI 179 (fun _ => n_179) (fun _ => n_180)) (x_TI 181 (fun _ => n_181) (fun _ => n_182))))) (x_TI 189 (x_TI 185 (x_TI 183 (fun _ => n_183) (x_TI 184 (fun _ => n_184) (fun _ => n_185))) (x_TI 187 (x_TI 186 (fun _ => n_186) (fun _ => n_187)) (x_TI 188 (fun _ => n_188) (fun _ => n_189)))) (x_TI 192 (x_TI 190 (fun _ => n_190) (x_TI 191 (fun _ => n_191) (fun _ => n_192))) (x_TI 194 (x_TI 193 (fun _ => n_193) (fun _ => n_194)) (x_TI 195 (fun _ => n_195) (fun _ => n_196)))))) (x_TI 210 (x_TI 203 (x_TI 199 (x_TI 197 (fun _ => n_197) (x_TI 198 (fun _ => n_198) (fun _ => n_199))) (x_TI 201 (x_TI 200 (fun _ => n_200) (fun _ => n_201)) (x_TI 202 (fun _ => n_202) (fun _ => n_203)))) (x_TI 206 (x_TI 204 (fun _ => n_204) (x_TI 205 (fun _ => n_205) (fun _ => n_206))) (x_TI 208 (x_TI 207 (fun _ => n_207) (fun _ => n_208)) (x_TI 209 (fun _ => n_209) (fun _ => n_210))))) (x_TI 217 (x_TI 213 (x_TI 211 (fun _ => n_211) (x_TI 212 (fun _ => n_212) (fun _ => n_213))) (x_TI 215 (x_TI 214 (fun _ => n_214) (fun _ => n_215)) (x_TI 216 (fun _ => n_216) (fun _ => n_217)))) (x_TI 221 (x_TI 219 (x_TI 218 (fun _ => n_218) (fun _ => n_219)) (x_TI 220 (fun _ => n_220) (fun _ => n_221))) (x_TI 223 (x_TI 222 (fun _ => n_222) (fun _ => n_223)) (x_TI 224 (fun _ => n_224) (fun _ => n_225))))))))) (x_TI 338 (x_TI 281 (x_TI 253 (x_TI 239 (x_TI 232 (x_TI 228 (x_TI 226 (fun _ => n_226) (x_TI 227 (fun _ => n_227) (fun _ => n_228))) (x_TI 230 (x_TI 229 (fun _ => n_229) (fun _ => n_230)) (x_TI 231 (fun _ => n_231) (fun _ => n_232)))) (x_TI 235 (x_TI 233 (fun _ => n_233) (x_TI 234 (fun _ => n_234) (fun _ => n_235))) (x_TI 237 (x_TI 236 (fun _ => n_236) (fun _ => n_237)) (x_TI 238 (fun _ => n_238) (fun _ => n_239))))) (x_TI 246 (x_TI 242 (x_TI 240 (fun _ => n_240) (x_TI 241 (fun _ => n_241) (fun _ => n_242))) (x_TI 244 (x_TI 243 (fun _ => n_243) (fun _ => n_244)) (x_TI 245 (fun _ => n_245) (fun _ => n_246)))) (x_TI 249 (x_TI 247 (fun _ => n_247) (x_TI 248 (fun _ => n_248) (fun _ => n_249))) (x_TI 251 (x_TI 250 (fun _ => n_250) (fun _ => n_251)) (x_TI 252 (fun _ => n_252) (fun _ => n_253)))))) (x_TI 267 (x_TI 260 (x_TI 256 (x_TI 254 (fun _ => n_254) (x_TI 255 (fun _ => n_255) (fun _ => n_256))) (x_TI 258 (x_TI 257 (fun _ => n_257) (fun _ => n_258)) (x_TI 259 (fun _ => n_259) (fun _ => n_260)))) (x_TI 263 (x_TI 261 (fun _ => n_261) (x_TI 262 (fun _ => n_262) (fun _ => n_263))) (x_TI 265 (x_TI 264 (fun _ => n_264) (fun _ => n_265)) (x_TI 266 (fun _ => n_266) (fun _ => n_267))))) (x_TI 274 (x_TI 270 (x_TI 268 (fun _ => n_268) (x_TI 269 (fun _ => n_269) (fun _ => n_270))) (x_TI 272 (x_TI 271 (fun _ => n_271) (fun _ => n_272)) (x_TI 273 (fun _ => n_273) (fun _ => n_274)))) (x_TI 277 (x_TI 275 (fun _ => n_275) (x_TI 276 (fun _ => n_276) (fun _ => n_277))) (x_TI 279 (x_TI 278 (fun _ => n_278) (fun _ => n_279)) (x_TI 280 (fun _ => n_280) (fun _ => n_281))))))) (x_TI 309 (x_TI 295 (x_TI 288 (x_TI 284 (x_TI 282 (fun _ => n_282) (x_TI 283 (fun _ => n_283) (fun _ => n_284))) (x_TI 286 (x_TI 285 (fun _ => n_285) (fun _ => n_286)) (x_TI 287 (fun _ => n_287) (fun _ => n_288)))) (x_TI 291 (x_TI 289 (fun _ => n_289) (x_TI 290 (fun _ => n_290) (fun _ => n_291))) (x_TI 293 (x_TI 292 (fun _ => n_292) (fun _ => n_293)) (x_TI 294 (fun _ => n_294) (fun _ => n_295))))) (x_TI 302 (x_TI 298 (x_TI 296 (fun _ => n_296) (x_TI 297 (fun _ => n_297) (fun _ => n_298))) (x_TI 300 (x_TI 299 (fun _ => n_299) (fun _ => n_300)) (x_TI 301 (fun _ => n_301) (fun _ => n_302)))) (x_TI 305 (x_TI 303 (fun _ => n_303) (x_TI 304 (fun _ => n_304) (fun _ => n_305))) (x_TI 307 (x_TI 306 (fun _ => n_306) (fun _ => n_307)) (x_TI 308 (fun _ => n_308) (fun _ => n_309)))))) (x_TI 323 (x_TI 316 (x_TI 312 (x_TI 310 (fun _ => n_310) (x_TI 311 (fun _ => n_311) (fun _ => n_312))) (x_TI 314 (x_TI 313 (fun _ => n_313) (fun _ => n_314)) (x_TI 315 (fun _ => n_315) (fun _ => n_316)))) (x_TI 319 (x_TI 317 (fun _ => n_317) (x_TI 318 (fun _ => n_318) (fun _ => n_319))) (x_TI 321 (x_TI 320 (fun _ => n_320) (fun _ => n_321)) (x_TI 322 (fun _ => n_322) (fun _ => n_323))))) (x_TI 330 (x_TI 326 (x_TI 324 (fun _ => n_324) (x_TI 325 (fun _ => n_325) (fun _ => n_326))) (x_TI 328 (x_TI 327 (fun _ => n_327) (fun _ => n_328)) (x_TI 329 (fun _ => n_329) (fun _ => n_330)))) (x_TI 334 (x_TI 332 (x_TI 331 (fun _ => n_331) (fun _ => n_332)) (x_TI 333 (fun _ => n_333) (fun _ => n_334))) (x_TI 336 (x_TI 335 (fun _ => n_335) (fun _ => n_336)) (x_TI 337 (fun _ => n_337) (fun _ => n_338)))))))) (x_TI 395 (x_TI 366 (x_TI 352 (x_TI 345 (x_TI 341 (x_TI 339 (fun _ => n_339) (x_TI 340 (fun _ => n_340) (fun _ => n_341))) (x_TI 343 (x_TI 342 (fun _ => n_342) (fun _ => n_343)) (x_TI 344 (fun _ => n_344) (fun _ => n_345)))) (x_TI 348 (x_TI 346 (fun _ => n_346) (x_TI 347 (fun _ => n_347) (fun _ => n_348))) (x_TI 350 (x_TI 349 (fun _ => n_349) (fun _ => n_350)) (x_TI 351 (fun _ => n_351) (fun _ => n_352))))) (x_TI 359 (x_TI 355 (x_TI 353 (fun _ => n_353) (x_TI 354 (fun _ => n_354) (fun _ => n_355))) (x_TI 357 (x_TI 356 (fun _ => n_356) (fun _ => n_357)) (x_TI 358 (fun _ => n_358) (fun _ => n_359)))) (x_TI 362 (x_TI 360 (fun _ => n_360) (x_TI 361 (fun _ => n_361) (fun _ => n_362))) (x_TI 364 (x_TI 363 (fun _ => n_363) (fun _ => n_364)) (x_TI 365 (fun _ => n_365) (fun _ => n_366)))))) (x_TI 380 (x_TI 373 (x_TI 369 (x_TI 367 (fun _ => n_367) (x_TI 368 (fun _ => n_368) (fun _ => n_369))) (x_TI 371 (x_TI 370 (fun _ => n_370) (fun _ => n_371)) (x_TI 372 (fun _ => n_372) (fun _ => n_373)))) (x_TI 376 (x_TI 374 (fun _ => n_374) (x_TI 375 (fun _ => n_375) (fun _ => n_376))) (x_TI 378 (x_TI 377 (fun _ => n_377) (fun _ => n_378)) (x_TI 379 (fun _ => n_379) (fun _ => n_380))))) (x_TI 387 (x_TI 383 (x_TI 381 (fun _ => n_381) (x_TI 382 (fun _ => n_382) (fun _ => n_383))) (x_TI 385 (x_TI 384 (fun _ => n_384) (fun _ => n_385)) (x_TI 386 (fun _ => n_386) (fun _ => n_387)))) (x_TI 391 (x_TI 389 (x_TI 388 (fun _ => n_388) (fun _ => n_389)) (x_TI 390 (fun _ => n_390) (fun _ => n_391))) (x_TI 393 (x_TI 392 (fun _ => n_392) (fun _ => n_393)) (x_TI 394 (fun _ => n_394) (fun _ => n_395))))))) (x_TI 423 (x_TI 409 (x_TI 402 (x_TI 398 (x_TI 396 (fun _ => n_396) (x_TI 397 (fun _ => n_397) (fun _ => n_398))) (x_TI 400 (x_TI 399 (fun _ => n_399) (fun _ => n_400)) (x_TI 401 (fun _ => n_401) (fun _ => n_402)))) (x_TI 405 (x_TI 403 (fun _ => n_403) (x_TI 404 (fun _ => n_404) (fun _ => n_405))) (x_TI 407 (x_TI 406 (fun _ => n_406) (fun _ => n_407)) (x_TI 408 (fun _ => n_408) (fun _ => n_409))))) (x_TI 416 (x_TI 412 (x_TI 410 (fun _ => n_410) (x_TI 411 (fun _ => n_411) (fun _ => n_412))) (x_TI 414 (x_TI 413 (fun _ => n_413) (fun _ => n_414)) (x_TI 415 (fun _ => n_415) (fun _ => n_416)))) (x_TI 419 (x_TI 417 (fun _ => n_417) (x_TI 418 (fun _ => n_418) (fun _ => n_419))) (x_TI 421 (x_TI 420 (fun _ => n_420) (fun _ => n_421)) (x_TI 422 (fun _ => n_422) (fun _ => n_423)))))) (x_TI 437 (x_TI 430 (x_TI 426 (x_TI 424 (fun _ => n_424) (x_TI 425 (fun _ => n_425) (fun _ => n_426))) (x_TI 428 (x_TI 427 (fun _ => n_427) (fun _ => n_428)) (x_TI 429 (fun _ => n_429) (fun _ => n_430)))) (x_TI 433 (x_TI 431 (fun _ => n_431) (x_TI 432 (fun _ => n_432) (fun _ => n_433))) (x_TI 435 (x_TI 434 (fun _ => n_434) (fun _ => n_435)) (x_TI 436 (fun _ => n_436) (fun _ => n_437))))) (x_TI 444 (x_TI 440 (x_TI 438 (fun _ => n_438) (x_TI 439 (fun _ => n_439) (fun _ => n_440))) (x_TI 442 (x_TI 441 (fun _ => n_441) (fun _ => n_442)) (x_TI 443 (fun _ => n_443) (fun _ => n_444)))) (x_TI 448 (x_TI 446 (x_TI 445 (fun _ => n_445) (fun _ => n_446)) (x_TI 447 (fun _ => n_447) (fun _ => n_448))) (x_TI 450 (x_TI 449 (fun _ => n_449) (fun _ => n_450)) (x_TI 451 (fun _ => n_451) (fun _ => n_452))))))))))
def e_nof : eS → Option eS := fun _ => none
def e_e7 : eE := (7, e_nof, 0, 0)
def e_T (k : Nat) (a b : Nat → eE) : Nat → eE := fun pc => bif Nat.ble pc k then a pc else b pc
def e_L (k : Nat) (e : eE) : Nat → eE := fun pc => bif Nat.beq pc k then e else e_e7
theorem e_Lok {ft : Nat → Nat → Nat} {cl : List vw_C} {lay : List eY} {I : Nat → xM} {q : xM} {k : Nat} {e : eE} (h : e_EOq ft cl lay I q k e) : ∀ pc, e_EOq ft cl lay I q pc (e_L k e pc) := fun pc => by
  unfold e_L
  cases hb : Nat.beq pc k with
  | true =>
    have := Nat.eq_of_beq_eq_true hb
    subst this
    exact h
  | false => exact trivial
theorem e_Tok2 {ft : Nat → Nat → Nat} {cl : List vw_C} {lay : List eY} {I : Nat → xM} {q : xM} {k : Nat} {a b : Nat → eE} (ha : ∀ pc, e_EOq ft cl lay I q pc (a pc)) (hb : ∀ pc, e_EOq ft cl lay I q pc (b pc)) : ∀ pc, e_EOq ft cl lay I q pc (e_T k a b pc) := fun pc => by
  unfold e_T
  cases Nat.ble pc k with
  | true => exact ha pc
  | false => exact hb pc
theorem e_st {ft : Nat → Nat → Nat} {cl : List vw_C} {lay : List eY} {I : Nat → xM} {q : xM} {pc : Nat} {f : eS → Option eS} (h : e_Snd ft cl lay (xm_b q) (xm_y q).cls (xm_l q) (xm_y q).name (xm_c q) (xm_s q) pc f) : e_EOq ft cl lay I q pc (0, f, 0, 0) := h
theorem e_rt {ft : Nat → Nat → Nat} {cl : List vw_C} {lay : List eY} {I : Nat → xM} {q : xM} {pc k : Nat} (h : x_Rt (xm_b q) (xm_r q) pc k) : e_EOq ft cl lay I q pc (1, e_nof, k, 0) := h
theorem e_ca {ft : Nat → Nat → Nat} {cl : List vw_C} {lay : List eY} {I : Nat → xM} {q q' : xM} {pc M' na : Nat} (e : I M' = q') (h : x_Cl (xm_b q) (xm_y q).cls (xm_l q) (xm_y q).name (xm_c q) (xm_s q) pc q' na) : e_EOq ft cl lay I q pc (2, e_nof, M', na) := by
  show x_Cl _ _ _ _ _ _ _ (I M') na
  rw [e]
  exact h
end
end
