-- part 44
section
noncomputable section
theorem ho_126 : (xm_y n_126).cls = "RobotCellHouse$Reader" := rfl
def dn_126_0_0 : List (Nat × Instr × Nat) := [(0, .bipush 21, 2), (2, .istore_n 1, 1), (3, .aload_n 0, 1), (4, .getfield 78, 3), (7, .istore_n 2, 1), (8, .iconst 1, 1), (9, .istore_n 3, 1), (10, .iconst 0, 1), (11, .istore 4, 2), (13, .iload 4, 2), (15, .ldc 106, 2), (17, .invokevirtual 108, 3), (20, .if_icmp .ge 84, 3), (23, .ldc 106, 2), (25, .iload 4, 2), (27, .invokevirtual 112, 3), (30, .istore 5, 2), (32, .iload 5, 2), (34, .bipush 32, 2), (36, .if_icmp .eq 38, 3), (39, .iload_n 3, 1), (40, .ifCond .eq 26, 3), (43, .iload_n 2, 1), (44, .aload_n 0, 1), (45, .getfield 48, 3)]
set_option maxRecDepth 20000 in
theorem dn_126_0_0_ok : dn_126_0_0.all (fun q => decide (decode (xm_b n_126) q.1 = .ok (q.2.1, q.2.2))) = true := xa_g_ok (by decide +kernel)
def dn_126_0_1 : List (Nat × Instr × Nat) := [(48, .if_icmp .ge 18, 3), (51, .aload_n 0, 1), (52, .getfield 25, 3), (55, .iload_n 2, 1), (56, .baload, 1), (57, .iload 5, 2), (59, .if_icmp .ne 7, 3), (62, .iconst 1, 1), (63, .goto 4, 3), (66, .iconst 0, 1), (67, .istore_n 3, 1), (68, .iinc 2 1, 3), (71, .goto 27, 3), (74, .iload_n 3, 1), (75, .ifCond .eq 13, 3), (78, .iload_n 2, 1), (79, .aload_n 0, 1), (80, .getfield 48, 3), (83, .if_icmp .ne 5, 3), (86, .iload_n 1, 1), (87, .ireturn, 1), (88, .iinc 1 1, 3), (91, .aload_n 0, 1), (92, .getfield 78, 3), (95, .istore_n 2, 1)]
set_option maxRecDepth 20000 in
theorem dn_126_0_1_ok : dn_126_0_1.all (fun q => decide (decode (xm_b n_126) q.1 = .ok (q.2.1, q.2.2))) = true := xa_g_ok (by decide +kernel)
def dn_126_0_2 : List (Nat × Instr × Nat) := [(96, .iconst 1, 1), (97, .istore_n 3, 1), (98, .iinc 4 1, 3), (101, .goto (-88), 3), (104, .iconst 1, 1), (105, .ireturn, 1)]
set_option maxRecDepth 20000 in
theorem dn_126_0_2_ok : dn_126_0_2.all (fun q => decide (decode (xm_b n_126) q.1 = .ok (q.2.1, q.2.2))) = true := xa_g_ok (by decide +kernel)
def te_126_0 : Nat → eE := (e_T 30 (e_T 8 (e_T 3 (e_T 0 (e_L 0 (0, ei_push (0, 21) 2, 0, 0)) (e_T 2 (e_L 2 (0, ei_stor 1 0 3, 0, 0)) (e_L 3 (0, ei_load 0 2 4, 0, 0)))) (e_T 4 (e_L 4 (0, ei_getf eft elay 8 6 7, 0, 0)) (e_T 7 (e_L 7 (0, ei_stor 2 0 8, 0, 0)) (e_L 8 (0, ei_push (0, 1) 9, 0, 0))))) (e_T 11 (e_T 9 (e_L 9 (0, ei_stor 3 0 10, 0, 0)) (e_T 10 (e_L 10 (0, ei_push (0, 0) 11, 0, 0)) (e_L 11 (0, ei_stor 4 0 13, 0, 0)))) (e_T 20 (e_T 13 (e_L 13 (0, ei_load 4 0 15, 0, 0)) (e_L 20 (0, ei_if2 3 104 23, 0, 0))) (e_T 25 (e_L 25 (0, ei_load 4 0 27, 0, 0)) (e_L 30 (0, ei_stor 5 0 32, 0, 0)))))) (e_T 43 (e_T 36 (e_T 32 (e_L 32 (0, ei_load 5 0 34, 0, 0)) (e_T 34 (e_L 34 (0, ei_push (0, 32) 36, 0, 0)) (e_L 36 (0, ei_if2 0 74 39, 0, 0)))) (e_T 39 (e_L 39 (0, ei_load 3 0 40, 0, 0)) (e_T 40 (e_L 40 (0, ei_if1 0 66 43, 0, 0)) (e_L 43 (0, ei_load 2 0 44, 0, 0))))) (e_T 48 (e_T 44 (e_L 44 (0, ei_load 0 2 45, 0, 0)) (e_T 45 (e_L 45 (0, ei_getf eft elay 8 7 48, 0, 0)) (e_L 48 (0, ei_if2 3 66 51, 0, 0)))) (e_T 52 (e_T 51 (e_L 51 (0, ei_load 0 2 52, 0, 0)) (e_L 52 (0, ei_getf eft elay 8 4 55, 0, 0))) (e_T 55 (e_L 55 (0, ei_load 2 0 56, 0, 0)) (e_L 56 (0, ei_ald elay true 57, 0, 0)))))))
set_option maxRecDepth 20000 in
set_option maxHeartbeats 4000000 in
theorem te_126_0_ok : ∀ pc, e_EOq eft cls elay eI n_126 pc (te_126_0 pc) :=
  (e_Tok2
  (e_Tok2
  (e_Tok2
  (e_Tok2
  (e_Lok (ps_bipush_21 (x_dk dn_126_0_0_ok 0 rfl)))
  (e_Tok2
  (e_Lok (e_st (I := eI) (er_istore_n (i := 1) (x_dk dn_126_0_0_ok 1 rfl) (by decide +kernel)) nx_stor))
  (e_Lok (ld_aload_n_0 (x_dk dn_126_0_0_ok 2 rfl)))))
  (e_Tok2
  (e_Lok (lk_8_78g ho_126 (x_dk dn_126_0_0_ok 3 rfl)))
  (e_Tok2
  (e_Lok (e_st (I := eI) (er_istore_n (i := 2) (x_dk dn_126_0_0_ok 4 rfl) (by decide +kernel)) nx_stor))
  (e_Lok (ps_iconst_1 (x_dk dn_126_0_0_ok 5 rfl))))))
  (e_Tok2
  (e_Tok2
  (e_Lok (e_st (I := eI) (er_istore_n (i := 3) (x_dk dn_126_0_0_ok 6 rfl) (by decide +kernel)) nx_stor))
  (e_Tok2
  (e_Lok (ps_iconst_0 (x_dk dn_126_0_0_ok 7 rfl)))
  (e_Lok (e_st (I := eI) (er_istore (i := 4) (x_dk dn_126_0_0_ok 8 rfl) (by decide +kernel)) nx_stor))))
  (e_Tok2
  (e_Tok2
  (e_Lok (ld_iload_4 (x_dk dn_126_0_0_ok 9 rfl)))
  (e_Lok (e_st (I := eI) (er_icmpge (off := 84) (tg := 104) (x_dk dn_126_0_0_ok 12 rfl) (by decide)) nx_if2)))
  (e_Tok2
  (e_Lok (ld_iload_4 (x_dk dn_126_0_0_ok 14 rfl)))
  (e_Lok (e_st (I := eI) (er_istore (i := 5) (x_dk dn_126_0_0_ok 16 rfl) (by decide +kernel)) nx_stor))))))
  (e_Tok2
  (e_Tok2
  (e_Tok2
  (e_Lok (ld_iload_5 (x_dk dn_126_0_0_ok 17 rfl)))
  (e_Tok2
  (e_Lok (ps_bipush_32 (x_dk dn_126_0_0_ok 18 rfl)))
  (e_Lok (e_st (I := eI) (er_icmpeq (off := 38) (tg := 74) (x_dk dn_126_0_0_ok 19 rfl) (by decide)) nx_if2))))
  (e_Tok2
  (e_Lok (ld_iload_n_3 (x_dk dn_126_0_0_ok 20 rfl)))
  (e_Tok2
  (e_Lok (e_st (I := eI) (er_ifeq (off := 26) (tg := 66) (x_dk dn_126_0_0_ok 21 rfl) (by decide)) nx_if1))
  (e_Lok (ld_iload_n_2 (x_dk dn_126_0_0_ok 22 rfl))))))
  (e_Tok2
  (e_Tok2
  (e_Lok (ld_aload_n_0 (x_dk dn_126_0_0_ok 23 rfl)))
  (e_Tok2
  (e_Lok (lk_8_48g ho_126 (x_dk dn_126_0_0_ok 24 rfl)))
  (e_Lok (e_st (I := eI) (er_icmpge (off := 18) (tg := 66) (x_dk dn_126_0_1_ok 0 rfl) (by decide)) nx_if2))))
  (e_Tok2
  (e_Tok2
  (e_Lok (ld_aload_n_0 (x_dk dn_126_0_1_ok 1 rfl)))
  (e_Lok (lk_8_25g ho_126 (x_dk dn_126_0_1_ok 2 rfl))))
  (e_Tok2
  (e_Lok (ld_iload_n_2 (x_dk dn_126_0_1_ok 3 rfl)))
  (e_Lok (e_st (I := eI) (er_baload (x_dk dn_126_0_1_ok 4 rfl)) nx_ald)))))))
def te_126_26 : Nat → eE := (e_T 80 (e_T 67 (e_T 62 (e_T 57 (e_L 57 (0, ei_load 5 0 59, 0, 0)) (e_T 59 (e_L 59 (0, ei_if2 1 66 62, 0, 0)) (e_L 62 (0, ei_push (0, 1) 63, 0, 0)))) (e_T 63 (e_L 63 (0, ei_goto 67, 0, 0)) (e_T 66 (e_L 66 (0, ei_push (0, 0) 67, 0, 0)) (e_L 67 (0, ei_stor 3 0 68, 0, 0))))) (e_T 74 (e_T 68 (e_L 68 (0, ei_inc 2 1 71, 0, 0)) (e_T 71 (e_L 71 (0, ei_goto 98, 0, 0)) (e_L 74 (0, ei_load 3 0 75, 0, 0)))) (e_T 78 (e_T 75 (e_L 75 (0, ei_if1 0 88 78, 0, 0)) (e_L 78 (0, ei_load 2 0 79, 0, 0))) (e_T 79 (e_L 79 (0, ei_load 0 2 80, 0, 0)) (e_L 80 (0, ei_getf eft elay 8 7 83, 0, 0)))))) (e_T 92 (e_T 87 (e_T 83 (e_L 83 (0, ei_if2 1 88 86, 0, 0)) (e_T 86 (e_L 86 (0, ei_load 1 0 87, 0, 0)) (e_L 87 (1, e_nof, 1, 0)))) (e_T 88 (e_L 88 (0, ei_inc 1 1 91, 0, 0)) (e_T 91 (e_L 91 (0, ei_load 0 2 92, 0, 0)) (e_L 92 (0, ei_getf eft elay 8 6 95, 0, 0))))) (e_T 97 (e_T 95 (e_L 95 (0, ei_stor 2 0 96, 0, 0)) (e_T 96 (e_L 96 (0, ei_push (0, 1) 97, 0, 0)) (e_L 97 (0, ei_stor 3 0 98, 0, 0)))) (e_T 101 (e_T 98 (e_L 98 (0, ei_inc 4 1 101, 0, 0)) (e_L 101 (0, ei_goto 13, 0, 0))) (e_T 104 (e_L 104 (0, ei_push (0, 1) 105, 0, 0)) (e_L 105 (1, e_nof, 1, 0)))))))
set_option maxRecDepth 20000 in
set_option maxHeartbeats 4000000 in
theorem te_126_26_ok : ∀ pc, e_EOq eft cls elay eI n_126 pc (te_126_26 pc) :=
  (e_Tok2
  (e_Tok2
  (e_Tok2
  (e_Tok2
  (e_Lok (ld_iload_5 (x_dk dn_126_0_1_ok 5 rfl)))
  (e_Tok2
  (e_Lok (e_st (I := eI) (er_icmpne (off := 7) (tg := 66) (x_dk dn_126_0_1_ok 6 rfl) (by decide)) nx_if2))
  (e_Lok (ps_iconst_1 (x_dk dn_126_0_1_ok 7 rfl)))))
  (e_Tok2
  (e_Lok (e_st (I := eI) (er_goto (off := 4) (tg := 67) (x_dk dn_126_0_1_ok 8 rfl) (by decide)) nx_goto))
  (e_Tok2
  (e_Lok (ps_iconst_0 (x_dk dn_126_0_1_ok 9 rfl)))
  (e_Lok (e_st (I := eI) (er_istore_n (i := 3) (x_dk dn_126_0_1_ok 10 rfl) (by decide +kernel)) nx_stor)))))
  (e_Tok2
  (e_Tok2
  (e_Lok (e_st (I := eI) (er_iinc (i := 2) (n := 1) (x_dk dn_126_0_1_ok 11 rfl) (by decide +kernel) (by decide)) nx_inc))
  (e_Tok2
  (e_Lok (e_st (I := eI) (er_goto (off := 27) (tg := 98) (x_dk dn_126_0_1_ok 12 rfl) (by decide)) nx_goto))
  (e_Lok (ld_iload_n_3 (x_dk dn_126_0_1_ok 13 rfl)))))
  (e_Tok2
  (e_Tok2
  (e_Lok (e_st (I := eI) (er_ifeq (off := 13) (tg := 88) (x_dk dn_126_0_1_ok 14 rfl) (by decide)) nx_if1))
  (e_Lok (ld_iload_n_2 (x_dk dn_126_0_1_ok 15 rfl))))
  (e_Tok2
  (e_Lok (ld_aload_n_0 (x_dk dn_126_0_1_ok 16 rfl)))
  (e_Lok (lk_8_48g ho_126 (x_dk dn_126_0_1_ok 17 rfl)))))))
  (e_Tok2
  (e_Tok2
  (e_Tok2
  (e_Lok (e_st (I := eI) (er_icmpne (off := 5) (tg := 88) (x_dk dn_126_0_1_ok 18 rfl) (by decide)) nx_if2))
  (e_Tok2
  (e_Lok (ld_iload_n_1 (x_dk dn_126_0_1_ok 19 rfl)))
  (e_Lok (e_rt (I := eI) (k := 1) ⟨(x_dk dn_126_0_1_ok 20 rfl), rfl⟩))))
  (e_Tok2
  (e_Lok (e_st (I := eI) (er_iinc (i := 1) (n := 1) (x_dk dn_126_0_1_ok 21 rfl) (by decide +kernel) (by decide)) nx_inc))
  (e_Tok2
  (e_Lok (ld_aload_n_0 (x_dk dn_126_0_1_ok 22 rfl)))
  (e_Lok (lk_8_78g ho_126 (x_dk dn_126_0_1_ok 23 rfl))))))
  (e_Tok2
  (e_Tok2
  (e_Lok (e_st (I := eI) (er_istore_n (i := 2) (x_dk dn_126_0_1_ok 24 rfl) (by decide +kernel)) nx_stor))
  (e_Tok2
  (e_Lok (ps_iconst_1 (x_dk dn_126_0_2_ok 0 rfl)))
  (e_Lok (e_st (I := eI) (er_istore_n (i := 3) (x_dk dn_126_0_2_ok 1 rfl) (by decide +kernel)) nx_stor))))
  (e_Tok2
  (e_Tok2
  (e_Lok (e_st (I := eI) (er_iinc (i := 4) (n := 1) (x_dk dn_126_0_2_ok 2 rfl) (by decide +kernel) (by decide)) nx_inc))
  (e_Lok (e_st (I := eI) (er_goto (off := (-88)) (tg := 13) (x_dk dn_126_0_2_ok 3 rfl) (by decide)) nx_goto)))
  (e_Tok2
  (e_Lok (ps_iconst_1 (x_dk dn_126_0_2_ok 4 rfl)))
  (e_Lok (e_rt (I := eI) (k := 1) ⟨(x_dk dn_126_0_2_ok 5 rfl), rfl⟩)))))))
def te_126 : Nat → eE := (e_T 56 te_126_0 te_126_26)
theorem te_126_ok : ∀ pc, e_EOq eft cls elay eI n_126 pc (te_126 pc) := (e_Tok2 (te_126_0_ok) (te_126_26_ok))
theorem ho_127 : (xm_y n_127).cls = "RobotCellHouse$Reader" := rfl
def dn_127_0_0 : List (Nat × Instr × Nat) := [(0, .lconst 0, 1), (1, .lstore_n 1, 1), (2, .aload_n 0, 1), (3, .getfield 48, 3), (6, .aload_n 0, 1), (7, .getfield 36, 3), (10, .if_icmp .ge 56, 3), (13, .aload_n 0, 1), (14, .aload_n 0, 1), (15, .getfield 48, 3), (18, .invokevirtual 81, 3), (21, .invokestatic 85, 3), (24, .ifCond .eq 42, 3), (27, .lload_n 1, 1), (28, .ldc2_w 116, 3), (31, .lmul, 1), (32, .aload_n 0, 1), (33, .aload_n 0, 1), (34, .getfield 48, 3), (37, .invokevirtual 81, 3), (40, .i2l, 1), (41, .ladd, 1), (42, .ldc2_w 118, 3), (45, .lsub, 1), (46, .ldc2_w 120, 3)]
set_option maxRecDepth 20000 in
theorem dn_127_0_0_ok : dn_127_0_0.all (fun q => decide (decode (xm_b n_127) q.1 = .ok (q.2.1, q.2.2))) = true := xa_g_ok (by decide +kernel)
def dn_127_0_1 : List (Nat × Instr × Nat) := [(49, .invokestatic 122, 3), (52, .lstore_n 1, 1), (53, .aload_n 0, 1), (54, .dup, 1), (55, .getfield 48, 3), (58, .iconst 1, 1), (59, .iadd, 1), (60, .putfield 48, 3), (63, .goto (-61), 3), (66, .aload_n 0, 1), (67, .lload_n 1, 1), (68, .ldc2_w 130, 3), (71, .lcmp, 1), (72, .ifCond .le 7, 3), (75, .iconst 3, 1), (76, .goto 4, 3), (79, .iconst 2, 1), (80, .putfield 57, 3), (83, .aload_n 0, 1), (84, .lload_n 1, 1), (85, .l2i, 1), (86, .putfield 132, 3), (89, .return_, 1)]
set_option maxRecDepth 20000 in
theorem dn_127_0_1_ok : dn_127_0_1.all (fun q => decide (decode (xm_b n_127) q.1 = .ok (q.2.1, q.2.2))) = true := xa_g_ok (by decide +kernel)
def te_127_0 : Nat → eE := (e_T 18 (e_T 6 (e_T 1 (e_T 0 (e_L 0 (0, ei_push (4, 0) 1, 0, 0)) (e_L 1 (0, ei_stor 1 1 2, 0, 0))) (e_T 2 (e_L 2 (0, ei_load 0 2 3, 0, 0)) (e_T 3 (e_L 3 (0, ei_getf eft elay 8 7 6, 0, 0)) (e_L 6 (0, ei_load 0 2 7, 0, 0))))) (e_T 13 (e_T 7 (e_L 7 (0, ei_getf eft elay 8 0 10, 0, 0)) (e_T 10 (e_L 10 (0, ei_if2 3 66 13, 0, 0)) (e_L 13 (0, ei_load 0 2 14, 0, 0)))) (e_T 14 (e_L 14 (0, ei_load 0 2 15, 0, 0)) (e_T 15 (e_L 15 (0, ei_getf eft elay 8 7 18, 0, 0)) (e_L 18 (2, e_nof, 120, 2)))))) (e_T 32 (e_T 27 (e_T 21 (e_L 21 (2, e_nof, 121, 1)) (e_T 24 (e_L 24 (0, ei_if1 0 66 27, 0, 0)) (e_L 27 (0, ei_load 1 1 28, 0, 0)))) (e_T 28 (e_L 28 (0, ei_push (4, 10) 31, 0, 0)) (e_T 31 (e_L 31 (0, ei_binL eG_mul 32, 0, 0)) (e_L 32 (0, ei_load 0 2 33, 0, 0))))) (e_T 37 (e_T 33 (e_L 33 (0, ei_load 0 2 34, 0, 0)) (e_T 34 (e_L 34 (0, ei_getf eft elay 8 7 37, 0, 0)) (e_L 37 (2, e_nof, 120, 2)))) (e_T 40 (e_L 40 (0, ei_un (fun x => (4, x)) 41, 0, 0)) (e_T 41 (e_L 41 (0, ei_binL eG_add 42, 0, 0)) (e_L 42 (0, ei_push (4, 48) 45, 0, 0)))))))
set_option maxRecDepth 20000 in
set_option maxHeartbeats 4000000 in
theorem te_127_0_ok : ∀ pc, e_EOq eft cls elay eI n_127 pc (te_127_0 pc) :=
  (e_Tok2
  (e_Tok2
  (e_Tok2
  (e_Tok2
  (e_Lok (ps_lconst_0 (x_dk dn_127_0_0_ok 0 rfl)))
  (e_Lok (e_st (I := eI) (er_lstore_n (i := 1) (x_dk dn_127_0_0_ok 1 rfl) (by decide +kernel)) nx_stor)))
  (e_Tok2
  (e_Lok (ld_aload_n_0 (x_dk dn_127_0_0_ok 2 rfl)))
  (e_Tok2
  (e_Lok (lk_8_48g ho_127 (x_dk dn_127_0_0_ok 3 rfl)))
  (e_Lok (ld_aload_n_0 (x_dk dn_127_0_0_ok 4 rfl))))))
  (e_Tok2
  (e_Tok2
  (e_Lok (lk_8_36g ho_127 (x_dk dn_127_0_0_ok 5 rfl)))
  (e_Tok2
  (e_Lok (e_st (I := eI) (er_icmpge (off := 56) (tg := 66) (x_dk dn_127_0_0_ok 6 rfl) (by decide)) nx_if2))
  (e_Lok (ld_aload_n_0 (x_dk dn_127_0_0_ok 7 rfl)))))
  (e_Tok2
  (e_Lok (ld_aload_n_0 (x_dk dn_127_0_0_ok 8 rfl)))
  (e_Tok2
  (e_Lok (lk_8_48g ho_127 (x_dk dn_127_0_0_ok 9 rfl)))
  (e_Lok (lk_8_81 ho_127 (x_dk dn_127_0_0_ok 10 rfl)))))))
  (e_Tok2
  (e_Tok2
  (e_Tok2
  (e_Lok (lk_8_85 ho_127 (x_dk dn_127_0_0_ok 11 rfl)))
  (e_Tok2
  (e_Lok (e_st (I := eI) (er_ifeq (off := 42) (tg := 66) (x_dk dn_127_0_0_ok 12 rfl) (by decide)) nx_if1))
  (e_Lok (ld_lload_n_1 (x_dk dn_127_0_0_ok 13 rfl)))))
  (e_Tok2
  (e_Lok (e_st (I := eI) (er_ldc2 (ix := 116) (z := 10) (v := 10) (x_dk dn_127_0_0_ok 14 rfl) (in_t5 (List.mem_of_getElem? (i := 96) rfl) rfl) (by decide)) (nx_push (Or.inl rfl))))
  (e_Tok2
  (e_Lok (e_st (I := eI) (er_lmul (x_dk dn_127_0_0_ok 15 rfl)) (nx_binL bG_lmul)))
  (e_Lok (ld_aload_n_0 (x_dk dn_127_0_0_ok 16 rfl))))))
  (e_Tok2
  (e_Tok2
  (e_Lok (ld_aload_n_0 (x_dk dn_127_0_0_ok 17 rfl)))
  (e_Tok2
  (e_Lok (lk_8_48g ho_127 (x_dk dn_127_0_0_ok 18 rfl)))
  (e_Lok (lk_8_81 ho_127 (x_dk dn_127_0_0_ok 19 rfl)))))
  (e_Tok2
  (e_Lok (e_st (I := eI) (er_i2l (x_dk dn_127_0_0_ok 20 rfl)) (nx_un (fun _ => rfl))))
  (e_Tok2
  (e_Lok (e_st (I := eI) (er_ladd (x_dk dn_127_0_0_ok 21 rfl)) (nx_binL bG_ladd)))
  (e_Lok (e_st (I := eI) (er_ldc2 (ix := 118) (z := 48) (v := 48) (x_dk dn_127_0_0_ok 22 rfl) (in_t5 (List.mem_of_getElem? (i := 97) rfl) rfl) (by decide)) (nx_push (Or.inl rfl)))))))))
def te_127_23 : Nat → eE := (e_T 67 (e_T 55 (e_T 52 (e_T 45 (e_L 45 (0, ei_binL eG_sub 46, 0, 0)) (e_T 46 (e_L 46 (0, ei_push (4, 4294967296) 49, 0, 0)) (e_L 52 (0, ei_stor 1 1 53, 0, 0)))) (e_T 53 (e_L 53 (0, ei_load 0 2 54, 0, 0)) (e_T 54 (e_L 54 (0, ei_stk ef_dup 55, 0, 0)) (e_L 55 (0, ei_getf eft elay 8 7 58, 0, 0))))) (e_T 60 (e_T 58 (e_L 58 (0, ei_push (0, 1) 59, 0, 0)) (e_T 59 (e_L 59 (0, ei_bin eF_add 60, 0, 0)) (e_L 60 (0, ei_putf eft elay 8 7 0 63, 0, 0)))) (e_T 63 (e_L 63 (0, ei_goto 2, 0, 0)) (e_T 66 (e_L 66 (0, ei_load 0 2 67, 0, 0)) (e_L 67 (0, ei_load 1 1 68, 0, 0)))))) (e_T 79 (e_T 72 (e_T 68 (e_L 68 (0, ei_push (4, 2147483647) 71, 0, 0)) (e_T 71 (e_L 71 (0, ei_binL eG_cmp 72, 0, 0)) (e_L 72 (0, ei_if1 5 79 75, 0, 0)))) (e_T 75 (e_L 75 (0, ei_push (0, 3) 76, 0, 0)) (e_T 76 (e_L 76 (0, ei_goto 80, 0, 0)) (e_L 79 (0, ei_push (0, 2) 80, 0, 0))))) (e_T 84 (e_T 80 (e_L 80 (0, ei_putf eft elay 8 5 0 83, 0, 0)) (e_T 83 (e_L 83 (0, ei_load 0 2 84, 0, 0)) (e_L 84 (0, ei_load 1 1 85, 0, 0)))) (e_T 85 (e_L 85 (0, ei_unL (fun x => (0, e32 x)) 86, 0, 0)) (e_T 86 (e_L 86 (0, ei_putf eft elay 8 8 0 89, 0, 0)) (e_L 89 (1, e_nof, 0, 0)))))))
set_option maxRecDepth 20000 in
set_option maxHeartbeats 4000000 in
theorem te_127_23_ok : ∀ pc, e_EOq eft cls elay eI n_127 pc (te_127_23 pc) :=
  (e_Tok2
  (e_Tok2
  (e_Tok2
  (e_Tok2
  (e_Lok (e_st (I := eI) (er_lsub (x_dk dn_127_0_0_ok 23 rfl)) (nx_binL bG_lsub)))
  (e_Tok2
  (e_Lok (e_st (I := eI) (er_ldc2 (ix := 120) (z := 4294967296) (v := 4294967296) (x_dk dn_127_0_0_ok 24 rfl) (in_t5 (List.mem_of_getElem? (i := 98) rfl) rfl) (by decide)) (nx_push (Or.inl rfl))))
  (e_Lok (e_st (I := eI) (er_lstore_n (i := 1) (x_dk dn_127_0_1_ok 1 rfl) (by decide +kernel)) nx_stor))))
  (e_Tok2
  (e_Lok (ld_aload_n_0 (x_dk dn_127_0_1_ok 2 rfl)))
  (e_Tok2
  (e_Lok (e_st (I := eI) (er_dup (x_dk dn_127_0_1_ok 3 rfl)) (nx_stk bf_dup)))
  (e_Lok (lk_8_48g ho_127 (x_dk dn_127_0_1_ok 4 rfl))))))
  (e_Tok2
  (e_Tok2
  (e_Lok (ps_iconst_1 (x_dk dn_127_0_1_ok 5 rfl)))
  (e_Tok2
  (e_Lok (sm_iadd (x_dk dn_127_0_1_ok 6 rfl)))
  (e_Lok (lk_8_48p ho_127 (x_dk dn_127_0_1_ok 7 rfl)))))
  (e_Tok2
  (e_Lok (e_st (I := eI) (er_goto (off := (-61)) (tg := 2) (x_dk dn_127_0_1_ok 8 rfl) (by decide)) nx_goto))
  (e_Tok2
  (e_Lok (ld_aload_n_0 (x_dk dn_127_0_1_ok 9 rfl)))
  (e_Lok (ld_lload_n_1 (x_dk dn_127_0_1_ok 10 rfl)))))))
  (e_Tok2
  (e_Tok2
  (e_Tok2
  (e_Lok (e_st (I := eI) (er_ldc2 (ix := 130) (z := 2147483647) (v := 2147483647) (x_dk dn_127_0_1_ok 11 rfl) (in_t5 (List.mem_of_getElem? (i := 102) rfl) rfl) (by decide)) (nx_push (Or.inl rfl))))
  (e_Tok2
  (e_Lok (e_st (I := eI) (er_lcmp (x_dk dn_127_0_1_ok 12 rfl)) (nx_binL bG_lcmp)))
  (e_Lok (e_st (I := eI) (er_ifle (off := 7) (tg := 79) (x_dk dn_127_0_1_ok 13 rfl) (by decide)) nx_if1))))
  (e_Tok2
  (e_Lok (ps_iconst_3 (x_dk dn_127_0_1_ok 14 rfl)))
  (e_Tok2
  (e_Lok (e_st (I := eI) (er_goto (off := 4) (tg := 80) (x_dk dn_127_0_1_ok 15 rfl) (by decide)) nx_goto))
  (e_Lok (ps_iconst_2 (x_dk dn_127_0_1_ok 16 rfl))))))
  (e_Tok2
  (e_Tok2
  (e_Lok (lk_8_57p ho_127 (x_dk dn_127_0_1_ok 17 rfl)))
  (e_Tok2
  (e_Lok (ld_aload_n_0 (x_dk dn_127_0_1_ok 18 rfl)))
  (e_Lok (ld_lload_n_1 (x_dk dn_127_0_1_ok 19 rfl)))))
  (e_Tok2
  (e_Lok (e_st (I := eI) (er_l2i (x_dk dn_127_0_1_ok 20 rfl)) (nx_unL (fun _ => rfl))))
  (e_Tok2
  (e_Lok (lk_8_132p ho_127 (x_dk dn_127_0_1_ok 21 rfl)))
  (e_Lok (e_rt (I := eI) (k := 0) ⟨(x_dk dn_127_0_1_ok 22 rfl), rfl⟩)))))))
def te_127 : Nat → eE := (e_T 42 te_127_0 te_127_23)
theorem te_127_ok : ∀ pc, e_EOq eft cls elay eI n_127 pc (te_127 pc) := (e_Tok2 (te_127_0_ok) (te_127_23_ok))
theorem ho_128 : (xm_y n_128).cls = "RobotCellHouse$Reader" := rfl
def dn_128_0_0 : List (Nat × Instr × Nat) := [(0, .aload_n 0, 1), (1, .dup, 1), (2, .getfield 48, 3), (5, .iconst 1, 1), (6, .iadd, 1), (7, .putfield 48, 3), (10, .ldc 135, 2), (12, .iload_n 1, 1), (13, .i2c, 1), (14, .invokevirtual 137, 3), (17, .istore_n 2, 1), (18, .aload_n 0, 1), (19, .iload_n 2, 1), (20, .ifCond .ge 7, 3), (23, .iconst 3, 1), (24, .goto 7, 3), (27, .bipush 8, 2), (29, .iload_n 2, 1), (30, .iadd, 1), (31, .putfield 57, 3), (34, .aload_n 0, 1), (35, .aload_n 0, 1), (36, .getfield 48, 3), (39, .invokevirtual 81, 3), (42, .bipush 61, 2)]
set_option maxRecDepth 20000 in
theorem dn_128_0_0_ok : dn_128_0_0.all (fun q => decide (decode (xm_b n_128) q.1 = .ok (q.2.1, q.2.2))) = true := xa_g_ok (by decide +kernel)
def dn_128_0_1 : List (Nat × Instr × Nat) := [(44, .if_icmp .eq 4, 3), (47, .return_, 1), (48, .iload_n 1, 1), (49, .bipush 33, 2), (51, .if_icmp .ne 11, 3), (54, .aload_n 0, 1), (55, .iconst 5, 1), (56, .putfield 57, 3), (59, .goto 34, 3), (62, .iload_n 1, 1), (63, .bipush 60, 2), (65, .if_icmp .ne 12, 3), (68, .aload_n 0, 1), (69, .bipush 6, 2), (71, .putfield 57, 3), (74, .goto 19, 3), (77, .iload_n 1, 1), (78, .bipush 62, 2), (80, .if_icmp .ne 12, 3), (83, .aload_n 0, 1), (84, .bipush 7, 2), (86, .putfield 57, 3), (89, .goto 4, 3), (92, .return_, 1), (93, .aload_n 0, 1)]
set_option maxRecDepth 20000 in
theorem dn_128_0_1_ok : dn_128_0_1.all (fun q => decide (decode (xm_b n_128) q.1 = .ok (q.2.1, q.2.2))) = true := xa_g_ok (by decide +kernel)
def dn_128_0_2 : List (Nat × Instr × Nat) := [(94, .dup, 1), (95, .getfield 48, 3), (98, .iconst 1, 1), (99, .iadd, 1), (100, .putfield 48, 3), (103, .return_, 1)]
set_option maxRecDepth 20000 in
theorem dn_128_0_2_ok : dn_128_0_2.all (fun q => decide (decode (xm_b n_128) q.1 = .ok (q.2.1, q.2.2))) = true := xa_g_ok (by decide +kernel)
def te_128_0 : Nat → eE := (e_T 23 (e_T 7 (e_T 2 (e_T 0 (e_L 0 (0, ei_load 0 2 1, 0, 0)) (e_T 1 (e_L 1 (0, ei_stk ef_dup 2, 0, 0)) (e_L 2 (0, ei_getf eft elay 8 7 5, 0, 0)))) (e_T 5 (e_L 5 (0, ei_push (0, 1) 6, 0, 0)) (e_T 6 (e_L 6 (0, ei_bin eF_add 7, 0, 0)) (e_L 7 (0, ei_putf eft elay 8 7 0 10, 0, 0))))) (e_T 17 (e_T 12 (e_L 12 (0, ei_load 1 0 13, 0, 0)) (e_T 13 (e_L 13 (0, ei_un (fun x => (0, ((Int32.ofInt x).toUInt32 % 65536).toInt32.toInt)) 14, 0, 0)) (e_L 17 (0, ei_stor 2 0 18, 0, 0)))) (e_T 19 (e_T 18 (e_L 18 (0, ei_load 0 2 19, 0, 0)) (e_L 19 (0, ei_load 2 0 20, 0, 0))) (e_T 20 (e_L 20 (0, ei_if1 3 27 23, 0, 0)) (e_L 23 (0, ei_push (0, 3) 24, 0, 0)))))) (e_T 35 (e_T 29 (e_T 24 (e_L 24 (0, ei_goto 31, 0, 0)) (e_T 27 (e_L 27 (0, ei_push (0, 8) 29, 0, 0)) (e_L 29 (0, ei_load 2 0 30, 0, 0)))) (e_T 31 (e_T 30 (e_L 30 (0, ei_bin eF_add 31, 0, 0)) (e_L 31 (0, ei_putf eft elay 8 5 0 34, 0, 0))) (e_T 34 (e_L 34 (0, ei_load 0 2 35, 0, 0)) (e_L 35 (0, ei_load 0 2 36, 0, 0))))) (e_T 42 (e_T 36 (e_L 36 (0, ei_getf eft elay 8 7 39, 0, 0)) (e_T 39 (e_L 39 (2, e_nof, 120, 2)) (e_L 42 (0, ei_push (0, 61) 44, 0, 0)))) (e_T 47 (e_T 44 (e_L 44 (0, ei_if2 0 48 47, 0, 0)) (e_L 47 (1, e_nof, 0, 0))) (e_T 48 (e_L 48 (0, ei_load 1 0 49, 0, 0)) (e_L 49 (0, ei_push (0, 33) 51, 0, 0)))))))
set_option maxRecDepth 20000 in
set_option maxHeartbeats 4000000 in
theorem te_128_0_ok : ∀ pc, e_EOq eft cls elay eI n_128 pc (te_128_0 pc) :=
  (e_Tok2
  (e_Tok2
  (e_Tok2
  (e_Tok2
  (e_Lok (ld_aload_n_0 (x_dk dn_128_0_0_ok 0 rfl)))
  (e_Tok2
  (e_Lok (e_st (I := eI) (er_dup (x_dk dn_128_0_0_ok 1 rfl)) (nx_stk bf_dup)))
  (e_Lok (lk_8_48g ho_128 (x_dk dn_128_0_0_ok 2 rfl)))))
  (e_Tok2
  (e_Lok (ps_iconst_1 (x_dk dn_128_0_0_ok 3 rfl)))
  (e_Tok2
  (e_Lok (sm_iadd (x_dk dn_128_0_0_ok 4 rfl)))
  (e_Lok (lk_8_48p ho_128 (x_dk dn_128_0_0_ok 5 rfl))))))
  (e_Tok2
  (e_Tok2
  (e_Lok (ld_iload_n_1 (x_dk dn_128_0_0_ok 7 rfl)))
  (e_Tok2
  (e_Lok (e_st (I := eI) (er_i2c (x_dk dn_128_0_0_ok 8 rfl)) (nx_un (fun _ => rfl))))
  (e_Lok (e_st (I := eI) (er_istore_n (i := 2) (x_dk dn_128_0_0_ok 10 rfl) (by decide +kernel)) nx_stor))))
  (e_Tok2
  (e_Tok2
  (e_Lok (ld_aload_n_0 (x_dk dn_128_0_0_ok 11 rfl)))
  (e_Lok (ld_iload_n_2 (x_dk dn_128_0_0_ok 12 rfl))))
  (e_Tok2
  (e_Lok (e_st (I := eI) (er_ifge (off := 7) (tg := 27) (x_dk dn_128_0_0_ok 13 rfl) (by decide)) nx_if1))
  (e_Lok (ps_iconst_3 (x_dk dn_128_0_0_ok 14 rfl)))))))
  (e_Tok2
  (e_Tok2
  (e_Tok2
  (e_Lok (e_st (I := eI) (er_goto (off := 7) (tg := 31) (x_dk dn_128_0_0_ok 15 rfl) (by decide)) nx_goto))
  (e_Tok2
  (e_Lok (ps_bipush_8 (x_dk dn_128_0_0_ok 16 rfl)))
  (e_Lok (ld_iload_n_2 (x_dk dn_128_0_0_ok 17 rfl)))))
  (e_Tok2
  (e_Tok2
  (e_Lok (sm_iadd (x_dk dn_128_0_0_ok 18 rfl)))
  (e_Lok (lk_8_57p ho_128 (x_dk dn_128_0_0_ok 19 rfl))))
  (e_Tok2
  (e_Lok (ld_aload_n_0 (x_dk dn_128_0_0_ok 20 rfl)))
  (e_Lok (ld_aload_n_0 (x_dk dn_128_0_0_ok 21 rfl))))))
  (e_Tok2
  (e_Tok2
  (e_Lok (lk_8_48g ho_128 (x_dk dn_128_0_0_ok 22 rfl)))
  (e_Tok2
  (e_Lok (lk_8_81 ho_128 (x_dk dn_128_0_0_ok 23 rfl)))
  (e_Lok (ps_bipush_61 (x_dk dn_128_0_0_ok 24 rfl)))))
  (e_Tok2
  (e_Tok2
  (e_Lok (e_st (I := eI) (er_icmpeq (off := 4) (tg := 48) (x_dk dn_128_0_1_ok 0 rfl) (by decide)) nx_if2))
  (e_Lok (e_rt (I := eI) (k := 0) ⟨(x_dk dn_128_0_1_ok 1 rfl), rfl⟩)))
  (e_Tok2
  (e_Lok (ld_iload_n_1 (x_dk dn_128_0_1_ok 2 rfl)))
  (e_Lok (ps_bipush_33 (x_dk dn_128_0_1_ok 3 rfl))))))))
def te_128_27 : Nat → eE := (e_T 77 (e_T 62 (e_T 55 (e_T 51 (e_L 51 (0, ei_if2 1 62 54, 0, 0)) (e_T 54 (e_L 54 (0, ei_load 0 2 55, 0, 0)) (e_L 55 (0, ei_push (0, 5) 56, 0, 0)))) (e_T 56 (e_L 56 (0, ei_putf eft elay 8 5 0 59, 0, 0)) (e_T 59 (e_L 59 (0, ei_goto 93, 0, 0)) (e_L 62 (0, ei_load 1 0 63, 0, 0))))) (e_T 68 (e_T 63 (e_L 63 (0, ei_push (0, 60) 65, 0, 0)) (e_T 65 (e_L 65 (0, ei_if2 1 77 68, 0, 0)) (e_L 68 (0, ei_load 0 2 69, 0, 0)))) (e_T 71 (e_T 69 (e_L 69 (0, ei_push (0, 6) 71, 0, 0)) (e_L 71 (0, ei_putf eft elay 8 5 0 74, 0, 0))) (e_T 74 (e_L 74 (0, ei_goto 93, 0, 0)) (e_L 77 (0, ei_load 1 0 78, 0, 0)))))) (e_T 92 (e_T 83 (e_T 78 (e_L 78 (0, ei_push (0, 62) 80, 0, 0)) (e_T 80 (e_L 80 (0, ei_if2 1 92 83, 0, 0)) (e_L 83 (0, ei_load 0 2 84, 0, 0)))) (e_T 86 (e_T 84 (e_L 84 (0, ei_push (0, 7) 86, 0, 0)) (e_L 86 (0, ei_putf eft elay 8 5 0 89, 0, 0))) (e_T 89 (e_L 89 (0, ei_goto 93, 0, 0)) (e_L 92 (1, e_nof, 0, 0))))) (e_T 95 (e_T 93 (e_L 93 (0, ei_load 0 2 94, 0, 0)) (e_T 94 (e_L 94 (0, ei_stk ef_dup 95, 0, 0)) (e_L 95 (0, ei_getf eft elay 8 7 98, 0, 0)))) (e_T 99 (e_T 98 (e_L 98 (0, ei_push (0, 1) 99, 0, 0)) (e_L 99 (0, ei_bin eF_add 100, 0, 0))) (e_T 100 (e_L 100 (0, ei_putf eft elay 8 7 0 103, 0, 0)) (e_L 103 (1, e_nof, 0, 0)))))))
set_option maxRecDepth 20000 in
set_option maxHeartbeats 4000000 in
theorem te_128_27_ok : ∀ pc, e_EOq eft cls elay eI n_128 pc (te_128_27 pc) :=
  (e_Tok2
  (e_Tok2
  (e_Tok2
  (e_Tok2
  (e_Lok (e_st (I := eI) (er_icmpne (off := 11) (tg := 62) (x_dk dn_128_0_1_ok 4 rfl) (by decide)) nx_if2))
  (e_Tok2
  (e_Lok (ld_aload_n_0 (x_dk dn_128_0_1_ok 5 rfl)))
  (e_Lok (ps_iconst_5 (x_dk dn_128_0_1_ok 6 rfl)))))
  (e_Tok2
  (e_Lok (lk_8_57p ho_128 (x_dk dn_128_0_1_ok 7 rfl)))
  (e_Tok2
  (e_Lok (e_st (I := eI) (er_goto (off := 34) (tg := 93) (x_dk dn_128_0_1_ok 8 rfl) (by decide)) nx_goto))
  (e_Lok (ld_iload_n_1 (x_dk dn_128_0_1_ok 9 rfl))))))
  (e_Tok2
  (e_Tok2
  (e_Lok (ps_bipush_60 (x_dk dn_128_0_1_ok 10 rfl)))
  (e_Tok2
  (e_Lok (e_st (I := eI) (er_icmpne (off := 12) (tg := 77) (x_dk dn_128_0_1_ok 11 rfl) (by decide)) nx_if2))
  (e_Lok (ld_aload_n_0 (x_dk dn_128_0_1_ok 12 rfl)))))
  (e_Tok2
  (e_Tok2
  (e_Lok (ps_bipush_6 (x_dk dn_128_0_1_ok 13 rfl)))
  (e_Lok (lk_8_57p ho_128 (x_dk dn_128_0_1_ok 14 rfl))))
  (e_Tok2
  (e_Lok (e_st (I := eI) (er_goto (off := 19) (tg := 93) (x_dk dn_128_0_1_ok 15 rfl) (by decide)) nx_goto))
  (e_Lok (ld_iload_n_1 (x_dk dn_128_0_1_ok 16 rfl)))))))
  (e_Tok2
  (e_Tok2
  (e_Tok2
  (e_Lok (ps_bipush_62 (x_dk dn_128_0_1_ok 17 rfl)))
  (e_Tok2
  (e_Lok (e_st (I := eI) (er_icmpne (off := 12) (tg := 92) (x_dk dn_128_0_1_ok 18 rfl) (by decide)) nx_if2))
  (e_Lok (ld_aload_n_0 (x_dk dn_128_0_1_ok 19 rfl)))))
  (e_Tok2
  (e_Tok2
  (e_Lok (ps_bipush_7 (x_dk dn_128_0_1_ok 20 rfl)))
  (e_Lok (lk_8_57p ho_128 (x_dk dn_128_0_1_ok 21 rfl))))
  (e_Tok2
  (e_Lok (e_st (I := eI) (er_goto (off := 4) (tg := 93) (x_dk dn_128_0_1_ok 22 rfl) (by decide)) nx_goto))
  (e_Lok (e_rt (I := eI) (k := 0) ⟨(x_dk dn_128_0_1_ok 23 rfl), rfl⟩)))))
  (e_Tok2
  (e_Tok2
  (e_Lok (ld_aload_n_0 (x_dk dn_128_0_1_ok 24 rfl)))
  (e_Tok2
  (e_Lok (e_st (I := eI) (er_dup (x_dk dn_128_0_2_ok 0 rfl)) (nx_stk bf_dup)))
  (e_Lok (lk_8_48g ho_128 (x_dk dn_128_0_2_ok 1 rfl)))))
  (e_Tok2
  (e_Tok2
  (e_Lok (ps_iconst_1 (x_dk dn_128_0_2_ok 2 rfl)))
  (e_Lok (sm_iadd (x_dk dn_128_0_2_ok 3 rfl))))
  (e_Tok2
  (e_Lok (lk_8_48p ho_128 (x_dk dn_128_0_2_ok 4 rfl)))
  (e_Lok (e_rt (I := eI) (k := 0) ⟨(x_dk dn_128_0_2_ok 5 rfl), rfl⟩)))))))
def te_128 : Nat → eE := (e_T 49 te_128_0 te_128_27)
theorem te_128_ok : ∀ pc, e_EOq eft cls elay eI n_128 pc (te_128 pc) := (e_Tok2 (te_128_0_ok) (te_128_27_ok))
theorem ho_249 : (xm_y n_249).cls = "RobotCellHouse" := rfl
def dn_249_0_0 : List (Nat × Instr × Nat) := [(0, .iload_n 0, 1), (1, .sipush 4095, 3), (4, .iand, 1), (5, .istore_n 1, 1), (6, .iload_n 1, 1), (7, .sipush 1024, 3), (10, .if_icmp .ge 9, 3), (13, .getstatic 407, 3), (16, .iload_n 1, 1), (17, .iaload, 1), (18, .ireturn, 1), (19, .iload_n 1, 1), (20, .sipush 2048, 3), (23, .if_icmp .ge 13, 3), (26, .getstatic 407, 3), (29, .sipush 2048, 3), (32, .iload_n 1, 1), (33, .isub, 1), (34, .iaload, 1), (35, .ireturn, 1), (36, .iload_n 1, 1), (37, .sipush 3072, 3), (40, .if_icmp .ge 14, 3), (43, .getstatic 407, 3), (46, .iload_n 1, 1)]
set_option maxRecDepth 20000 in
theorem dn_249_0_0_ok : dn_249_0_0.all (fun q => decide (decode (xm_b n_249) q.1 = .ok (q.2.1, q.2.2))) = true := xa_g_ok (by decide +kernel)
def dn_249_0_1 : List (Nat × Instr × Nat) := [(47, .sipush 2048, 3), (50, .isub, 1), (51, .iaload, 1), (52, .ineg, 1), (53, .ireturn, 1), (54, .getstatic 407, 3), (57, .sipush 4096, 3), (60, .iload_n 1, 1), (61, .isub, 1), (62, .iaload, 1), (63, .ineg, 1), (64, .ireturn, 1)]
set_option maxRecDepth 20000 in
theorem dn_249_0_1_ok : dn_249_0_1.all (fun q => decide (decode (xm_b n_249) q.1 = .ok (q.2.1, q.2.2))) = true := xa_g_ok (by decide +kernel)
def te_249_0 : Nat → eE := (e_T 33 (e_T 16 (e_T 5 (e_T 1 (e_T 0 (e_L 0 (0, ei_load 0 0 1, 0, 0)) (e_L 1 (0, ei_push (0, 4095) 4, 0, 0))) (e_T 4 (e_L 4 (0, ei_bin (eB (fun x y => x &&& y)) 5, 0, 0)) (e_L 5 (0, ei_stor 1 0 6, 0, 0)))) (e_T 7 (e_T 6 (e_L 6 (0, ei_load 1 0 7, 0, 0)) (e_L 7 (0, ei_push (0, 1024) 10, 0, 0))) (e_T 10 (e_L 10 (0, ei_if2 3 19 13, 0, 0)) (e_L 16 (0, ei_load 1 0 17, 0, 0))))) (e_T 20 (e_T 18 (e_T 17 (e_L 17 (0, ei_ald elay false 18, 0, 0)) (e_L 18 (1, e_nof, 1, 0))) (e_T 19 (e_L 19 (0, ei_load 1 0 20, 0, 0)) (e_L 20 (0, ei_push (0, 2048) 23, 0, 0)))) (e_T 29 (e_T 23 (e_L 23 (0, ei_if2 3 36 26, 0, 0)) (e_L 29 (0, ei_push (0, 2048) 32, 0, 0))) (e_T 32 (e_L 32 (0, ei_load 1 0 33, 0, 0)) (e_L 33 (0, ei_bin eF_sub 34, 0, 0)))))) (e_T 50 (e_T 37 (e_T 35 (e_T 34 (e_L 34 (0, ei_ald elay false 35, 0, 0)) (e_L 35 (1, e_nof, 1, 0))) (e_T 36 (e_L 36 (0, ei_load 1 0 37, 0, 0)) (e_L 37 (0, ei_push (0, 3072) 40, 0, 0)))) (e_T 46 (e_T 40 (e_L 40 (0, ei_if2 3 54 43, 0, 0)) (e_L 46 (0, ei_load 1 0 47, 0, 0))) (e_T 47 (e_L 47 (0, ei_push (0, 2048) 50, 0, 0)) (e_L 50 (0, ei_bin eF_sub 51, 0, 0))))) (e_T 57 (e_T 52 (e_T 51 (e_L 51 (0, ei_ald elay false 52, 0, 0)) (e_L 52 (0, ei_un (fun x => (0, e32 (-x))) 53, 0, 0))) (e_T 53 (e_L 53 (1, e_nof, 1, 0)) (e_L 57 (0, ei_push (0, 4096) 60, 0, 0)))) (e_T 61 (e_T 60 (e_L 60 (0, ei_load 1 0 61, 0, 0)) (e_L 61 (0, ei_bin eF_sub 62, 0, 0))) (e_T 62 (e_L 62 (0, ei_ald elay false 63, 0, 0)) (e_T 63 (e_L 63 (0, ei_un (fun x => (0, e32 (-x))) 64, 0, 0)) (e_L 64 (1, e_nof, 1, 0))))))))
set_option maxRecDepth 20000 in
set_option maxHeartbeats 4000000 in
theorem te_249_0_ok : ∀ pc, e_EOq eft cls elay eI n_249 pc (te_249_0 pc) :=
  (e_Tok2
  (e_Tok2
  (e_Tok2
  (e_Tok2
  (e_Tok2
  (e_Lok (ld_iload_n_0 (x_dk dn_249_0_0_ok 0 rfl)))
  (e_Lok (ps_sipush_4095 (x_dk dn_249_0_0_ok 1 rfl))))
  (e_Tok2
  (e_Lok (e_st (I := eI) (er_iand (x_dk dn_249_0_0_ok 2 rfl)) nx_bin))
  (e_Lok (e_st (I := eI) (er_istore_n (i := 1) (x_dk dn_249_0_0_ok 3 rfl) (by decide +kernel)) nx_stor))))
  (e_Tok2
  (e_Tok2
  (e_Lok (ld_iload_n_1 (x_dk dn_249_0_0_ok 4 rfl)))
  (e_Lok (ps_sipush_1024 (x_dk dn_249_0_0_ok 5 rfl))))
  (e_Tok2
  (e_Lok (e_st (I := eI) (er_icmpge (off := 9) (tg := 19) (x_dk dn_249_0_0_ok 6 rfl) (by decide)) nx_if2))
  (e_Lok (ld_iload_n_1 (x_dk dn_249_0_0_ok 8 rfl))))))
  (e_Tok2
  (e_Tok2
  (e_Tok2
  (e_Lok (sm_iaload (x_dk dn_249_0_0_ok 9 rfl)))
  (e_Lok (e_rt (I := eI) (k := 1) ⟨(x_dk dn_249_0_0_ok 10 rfl), rfl⟩)))
  (e_Tok2
  (e_Lok (ld_iload_n_1 (x_dk dn_249_0_0_ok 11 rfl)))
  (e_Lok (ps_sipush_2048 (x_dk dn_249_0_0_ok 12 rfl)))))
  (e_Tok2
  (e_Tok2
  (e_Lok (e_st (I := eI) (er_icmpge (off := 13) (tg := 36) (x_dk dn_249_0_0_ok 13 rfl) (by decide)) nx_if2))
  (e_Lok (ps_sipush_2048 (x_dk dn_249_0_0_ok 15 rfl))))
  (e_Tok2
  (e_Lok (ld_iload_n_1 (x_dk dn_249_0_0_ok 16 rfl)))
  (e_Lok (sm_isub (x_dk dn_249_0_0_ok 17 rfl)))))))
  (e_Tok2
  (e_Tok2
  (e_Tok2
  (e_Tok2
  (e_Lok (sm_iaload (x_dk dn_249_0_0_ok 18 rfl)))
  (e_Lok (e_rt (I := eI) (k := 1) ⟨(x_dk dn_249_0_0_ok 19 rfl), rfl⟩)))
  (e_Tok2
  (e_Lok (ld_iload_n_1 (x_dk dn_249_0_0_ok 20 rfl)))
  (e_Lok (ps_sipush_3072 (x_dk dn_249_0_0_ok 21 rfl)))))
  (e_Tok2
  (e_Tok2
  (e_Lok (e_st (I := eI) (er_icmpge (off := 14) (tg := 54) (x_dk dn_249_0_0_ok 22 rfl) (by decide)) nx_if2))
  (e_Lok (ld_iload_n_1 (x_dk dn_249_0_0_ok 24 rfl))))
  (e_Tok2
  (e_Lok (ps_sipush_2048 (x_dk dn_249_0_1_ok 0 rfl)))
  (e_Lok (sm_isub (x_dk dn_249_0_1_ok 1 rfl))))))
  (e_Tok2
  (e_Tok2
  (e_Tok2
  (e_Lok (sm_iaload (x_dk dn_249_0_1_ok 2 rfl)))
  (e_Lok (e_st (I := eI) (er_ineg (x_dk dn_249_0_1_ok 3 rfl)) (nx_un (fun _ => rfl)))))
  (e_Tok2
  (e_Lok (e_rt (I := eI) (k := 1) ⟨(x_dk dn_249_0_1_ok 4 rfl), rfl⟩))
  (e_Lok (ps_sipush_4096 (x_dk dn_249_0_1_ok 6 rfl)))))
  (e_Tok2
  (e_Tok2
  (e_Lok (ld_iload_n_1 (x_dk dn_249_0_1_ok 7 rfl)))
  (e_Lok (sm_isub (x_dk dn_249_0_1_ok 8 rfl))))
  (e_Tok2
  (e_Lok (sm_iaload (x_dk dn_249_0_1_ok 9 rfl)))
  (e_Tok2
  (e_Lok (e_st (I := eI) (er_ineg (x_dk dn_249_0_1_ok 10 rfl)) (nx_un (fun _ => rfl))))
  (e_Lok (e_rt (I := eI) (k := 1) ⟨(x_dk dn_249_0_1_ok 11 rfl), rfl⟩))))))))
def te_249 : Nat → eE := te_249_0
theorem te_249_ok : ∀ pc, e_EOq eft cls elay eI n_249 pc (te_249 pc) := te_249_0_ok
theorem ho_328 : (xm_y n_328).cls = "RobotCellHouseModel" := rfl
def dn_328_0_0 : List (Nat × Instr × Nat) := [(0, .aload_n 0, 1), (1, .getfield 491, 3), (4, .istore_n 1, 1), (5, .aload_n 0, 1), (6, .iload_n 1, 1), (7, .invokevirtual 488, 3), (10, .invokestatic 500, 3), (13, .ifCond .ne 14, 3), (16, .aload_n 0, 1), (17, .iload_n 1, 1), (18, .invokevirtual 488, 3), (21, .invokestatic 506, 3), (24, .ifCond .eq 9, 3), (27, .iinc 1 1, 3), (30, .goto (-25), 3), (33, .aload_n 0, 1), (34, .iload_n 1, 1), (35, .putfield 485, 3), (38, .aload_n 0, 1), (39, .iload_n 1, 1), (40, .aload_n 0, 1), (41, .getfield 491, 3), (44, .isub, 1), (45, .bipush 24, 2), (47, .if_icmp .le 7, 3)]
set_option maxRecDepth 20000 in
theorem dn_328_0_0_ok : dn_328_0_0.all (fun q => decide (decode (xm_b n_328) q.1 = .ok (q.2.1, q.2.2))) = true := xa_g_ok (by decide +kernel)
def dn_328_0_1 : List (Nat × Instr × Nat) := [(50, .iconst 5, 1), (51, .goto 4, 3), (54, .iconst 1, 1), (55, .putfield 497, 3), (58, .iconst 0, 1), (59, .istore_n 2, 1), (60, .iconst 0, 1), (61, .istore_n 3, 1), (62, .iload_n 2, 1), (63, .ldc_w 515, 3), (66, .invokevirtual 517, 3), (69, .if_icmp .ge 117, 3), (72, .iconst 0, 1), (73, .istore 4, 2), (75, .ldc_w 515, 3), (78, .iload_n 2, 1), (79, .iload 4, 2), (81, .iadd, 1), (82, .invokevirtual 522, 3), (85, .bipush 32, 2), (87, .if_icmp .eq 33, 3), (90, .ldc_w 515, 3), (93, .iload_n 2, 1), (94, .iload 4, 2), (96, .iadd, 1)]
set_option maxRecDepth 20000 in
theorem dn_328_0_1_ok : dn_328_0_1.all (fun q => decide (decode (xm_b n_328) q.1 = .ok (q.2.1, q.2.2))) = true := xa_g_ok (by decide +kernel)
def dn_328_0_2 : List (Nat × Instr × Nat) := [(97, .invokevirtual 522, 3), (100, .aload_n 0, 1), (101, .aload_n 0, 1), (102, .getfield 491, 3), (105, .iload 4, 2), (107, .iadd, 1), (108, .invokevirtual 488, 3), (111, .if_icmp .ne 9, 3), (114, .iinc 4 1, 3), (117, .goto (-42), 3), (120, .ldc_w 515, 3), (123, .iload_n 2, 1), (124, .iload 4, 2), (126, .iadd, 1), (127, .invokevirtual 522, 3), (130, .bipush 32, 2), (132, .if_icmp .ne 27, 3), (135, .iload 4, 2), (137, .aload_n 0, 1), (138, .getfield 485, 3), (141, .aload_n 0, 1), (142, .getfield 491, 3), (145, .isub, 1), (146, .if_icmp .ne 13, 3), (149, .aload_n 0, 1)]
set_option maxRecDepth 20000 in
theorem dn_328_0_2_ok : dn_328_0_2.all (fun q => decide (decode (xm_b n_328) q.1 = .ok (q.2.1, q.2.2))) = true := xa_g_ok (by decide +kernel)
def dn_328_0_3 : List (Nat × Instr × Nat) := [(150, .iconst 4, 1), (151, .putfield 497, 3), (154, .aload_n 0, 1), (155, .iload_n 3, 1), (156, .putfield 494, 3), (159, .ldc_w 515, 3), (162, .iload_n 2, 1), (163, .invokevirtual 522, 3), (166, .bipush 32, 2), (168, .if_icmp .eq 9, 3), (171, .iinc 2 1, 3), (174, .goto (-15), 3), (177, .iinc 2 1, 3), (180, .iinc 3 1, 3), (183, .goto (-121), 3), (186, .return_, 1)]
set_option maxRecDepth 20000 in
theorem dn_328_0_3_ok : dn_328_0_3.all (fun q => decide (decode (xm_b n_328) q.1 = .ok (q.2.1, q.2.2))) = true := xa_g_ok (by decide +kernel)
def te_328_0 : Nat → eE := (e_T 39 (e_T 17 (e_T 6 (e_T 1 (e_T 0 (e_L 0 (0, ei_load 0 2 1, 0, 0)) (e_L 1 (0, ei_getf eft elay 12 86 4, 0, 0))) (e_T 4 (e_L 4 (0, ei_stor 1 0 5, 0, 0)) (e_T 5 (e_L 5 (0, ei_load 0 2 6, 0, 0)) (e_L 6 (0, ei_load 1 0 7, 0, 0))))) (e_T 10 (e_T 7 (e_L 7 (2, e_nof, 326, 2)) (e_L 10 (2, e_nof, 324, 1))) (e_T 13 (e_L 13 (0, ei_if1 1 27 16, 0, 0)) (e_T 16 (e_L 16 (0, ei_load 0 2 17, 0, 0)) (e_L 17 (0, ei_load 1 0 18, 0, 0)))))) (e_T 30 (e_T 21 (e_T 18 (e_L 18 (2, e_nof, 326, 2)) (e_L 21 (2, e_nof, 325, 1))) (e_T 24 (e_L 24 (0, ei_if1 0 33 27, 0, 0)) (e_T 27 (e_L 27 (0, ei_inc 1 1 30, 0, 0)) (e_L 30 (0, ei_goto 5, 0, 0))))) (e_T 34 (e_T 33 (e_L 33 (0, ei_load 0 2 34, 0, 0)) (e_L 34 (0, ei_load 1 0 35, 0, 0))) (e_T 35 (e_L 35 (0, ei_putf eft elay 12 87 0 38, 0, 0)) (e_T 38 (e_L 38 (0, ei_load 0 2 39, 0, 0)) (e_L 39 (0, ei_load 1 0 40, 0, 0))))))) (e_T 58 (e_T 47 (e_T 41 (e_T 40 (e_L 40 (0, ei_load 0 2 41, 0, 0)) (e_L 41 (0, ei_getf eft elay 12 86 44, 0, 0))) (e_T 44 (e_L 44 (0, ei_bin eF_sub 45, 0, 0)) (e_T 45 (e_L 45 (0, ei_push (0, 24) 47, 0, 0)) (e_L 47 (0, ei_if2 5 54 50, 0, 0))))) (e_T 51 (e_T 50 (e_L 50 (0, ei_push (0, 5) 51, 0, 0)) (e_L 51 (0, ei_goto 55, 0, 0))) (e_T 54 (e_L 54 (0, ei_push (0, 1) 55, 0, 0)) (e_T 55 (e_L 55 (0, ei_putf eft elay 12 84 0 58, 0, 0)) (e_L 58 (0, ei_push (0, 0) 59, 0, 0)))))) (e_T 69 (e_T 60 (e_T 59 (e_L 59 (0, ei_stor 2 0 60, 0, 0)) (e_L 60 (0, ei_push (0, 0) 61, 0, 0))) (e_T 61 (e_L 61 (0, ei_stor 3 0 62, 0, 0)) (e_T 62 (e_L 62 (0, ei_load 2 0 63, 0, 0)) (e_L 69 (0, ei_if2 3 186 72, 0, 0))))) (e_T 73 (e_T 72 (e_L 72 (0, ei_push (0, 0) 73, 0, 0)) (e_L 73 (0, ei_stor 4 0 75, 0, 0))) (e_T 78 (e_L 78 (0, ei_load 2 0 79, 0, 0)) (e_T 79 (e_L 79 (0, ei_load 4 0 81, 0, 0)) (e_L 81 (0, ei_bin eF_add 82, 0, 0))))))))
set_option maxRecDepth 20000 in
set_option maxHeartbeats 4000000 in
theorem te_328_0_ok : ∀ pc, e_EOq eft cls elay eI n_328 pc (te_328_0 pc) :=
  (e_Tok2
  (e_Tok2
  (e_Tok2
  (e_Tok2
  (e_Tok2
  (e_Lok (ld_aload_n_0 (x_dk dn_328_0_0_ok 0 rfl)))
  (e_Lok (lk_12_491g ho_328 (x_dk dn_328_0_0_ok 1 rfl))))
  (e_Tok2
  (e_Lok (e_st (I := eI) (er_istore_n (i := 1) (x_dk dn_328_0_0_ok 2 rfl) (by decide +kernel)) nx_stor))
  (e_Tok2
  (e_Lok (ld_aload_n_0 (x_dk dn_328_0_0_ok 3 rfl)))
  (e_Lok (ld_iload_n_1 (x_dk dn_328_0_0_ok 4 rfl))))))
  (e_Tok2
  (e_Tok2
  (e_Lok (lk_12_488 ho_328 (x_dk dn_328_0_0_ok 5 rfl)))
  (e_Lok (lk_12_500 ho_328 (x_dk dn_328_0_0_ok 6 rfl))))
  (e_Tok2
  (e_Lok (e_st (I := eI) (er_ifne (off := 14) (tg := 27) (x_dk dn_328_0_0_ok 7 rfl) (by decide)) nx_if1))
  (e_Tok2
  (e_Lok (ld_aload_n_0 (x_dk dn_328_0_0_ok 8 rfl)))
  (e_Lok (ld_iload_n_1 (x_dk dn_328_0_0_ok 9 rfl)))))))
  (e_Tok2
  (e_Tok2
  (e_Tok2
  (e_Lok (lk_12_488 ho_328 (x_dk dn_328_0_0_ok 10 rfl)))
  (e_Lok (lk_12_506 ho_328 (x_dk dn_328_0_0_ok 11 rfl))))
  (e_Tok2
  (e_Lok (e_st (I := eI) (er_ifeq (off := 9) (tg := 33) (x_dk dn_328_0_0_ok 12 rfl) (by decide)) nx_if1))
  (e_Tok2
  (e_Lok (e_st (I := eI) (er_iinc (i := 1) (n := 1) (x_dk dn_328_0_0_ok 13 rfl) (by decide +kernel) (by decide)) nx_inc))
  (e_Lok (e_st (I := eI) (er_goto (off := (-25)) (tg := 5) (x_dk dn_328_0_0_ok 14 rfl) (by decide)) nx_goto)))))
  (e_Tok2
  (e_Tok2
  (e_Lok (ld_aload_n_0 (x_dk dn_328_0_0_ok 15 rfl)))
  (e_Lok (ld_iload_n_1 (x_dk dn_328_0_0_ok 16 rfl))))
  (e_Tok2
  (e_Lok (lk_12_485p ho_328 (x_dk dn_328_0_0_ok 17 rfl)))
  (e_Tok2
  (e_Lok (ld_aload_n_0 (x_dk dn_328_0_0_ok 18 rfl)))
  (e_Lok (ld_iload_n_1 (x_dk dn_328_0_0_ok 19 rfl))))))))
  (e_Tok2
  (e_Tok2
  (e_Tok2
  (e_Tok2
  (e_Lok (ld_aload_n_0 (x_dk dn_328_0_0_ok 20 rfl)))
  (e_Lok (lk_12_491g ho_328 (x_dk dn_328_0_0_ok 21 rfl))))
  (e_Tok2
  (e_Lok (sm_isub (x_dk dn_328_0_0_ok 22 rfl)))
  (e_Tok2
  (e_Lok (ps_bipush_24 (x_dk dn_328_0_0_ok 23 rfl)))
  (e_Lok (e_st (I := eI) (er_icmple (off := 7) (tg := 54) (x_dk dn_328_0_0_ok 24 rfl) (by decide)) nx_if2)))))
  (e_Tok2
  (e_Tok2
  (e_Lok (ps_iconst_5 (x_dk dn_328_0_1_ok 0 rfl)))
  (e_Lok (e_st (I := eI) (er_goto (off := 4) (tg := 55) (x_dk dn_328_0_1_ok 1 rfl) (by decide)) nx_goto)))
  (e_Tok2
  (e_Lok (ps_iconst_1 (x_dk dn_328_0_1_ok 2 rfl)))
  (e_Tok2
  (e_Lok (lk_12_497p ho_328 (x_dk dn_328_0_1_ok 3 rfl)))
  (e_Lok (ps_iconst_0 (x_dk dn_328_0_1_ok 4 rfl)))))))
  (e_Tok2
  (e_Tok2
  (e_Tok2
  (e_Lok (e_st (I := eI) (er_istore_n (i := 2) (x_dk dn_328_0_1_ok 5 rfl) (by decide +kernel)) nx_stor))
  (e_Lok (ps_iconst_0 (x_dk dn_328_0_1_ok 6 rfl))))
  (e_Tok2
  (e_Lok (e_st (I := eI) (er_istore_n (i := 3) (x_dk dn_328_0_1_ok 7 rfl) (by decide +kernel)) nx_stor))
  (e_Tok2
  (e_Lok (ld_iload_n_2 (x_dk dn_328_0_1_ok 8 rfl)))
  (e_Lok (e_st (I := eI) (er_icmpge (off := 117) (tg := 186) (x_dk dn_328_0_1_ok 11 rfl) (by decide)) nx_if2)))))
  (e_Tok2
  (e_Tok2
  (e_Lok (ps_iconst_0 (x_dk dn_328_0_1_ok 12 rfl)))
  (e_Lok (e_st (I := eI) (er_istore (i := 4) (x_dk dn_328_0_1_ok 13 rfl) (by decide +kernel)) nx_stor)))
  (e_Tok2
  (e_Lok (ld_iload_n_2 (x_dk dn_328_0_1_ok 15 rfl)))
  (e_Tok2
  (e_Lok (ld_iload_4 (x_dk dn_328_0_1_ok 16 rfl)))
  (e_Lok (sm_iadd (x_dk dn_328_0_1_ok 17 rfl)))))))))
def te_328_40 : Nat → eE := (e_T 107 (e_T 96 (e_T 87 (e_T 85 (e_L 85 (0, ei_push (0, 32) 87, 0, 0)) (e_L 87 (0, ei_if2 0 120 90, 0, 0))) (e_T 93 (e_L 93 (0, ei_load 2 0 94, 0, 0)) (e_T 94 (e_L 94 (0, ei_load 4 0 96, 0, 0)) (e_L 96 (0, ei_bin eF_add 97, 0, 0))))) (e_T 101 (e_T 100 (e_L 100 (0, ei_load 0 2 101, 0, 0)) (e_L 101 (0, ei_load 0 2 102, 0, 0))) (e_T 102 (e_L 102 (0, ei_getf eft elay 12 86 105, 0, 0)) (e_T 105 (e_L 105 (0, ei_load 4 0 107, 0, 0)) (e_L 107 (0, ei_bin eF_add 108, 0, 0)))))) (e_T 123 (e_T 111 (e_T 108 (e_L 108 (2, e_nof, 326, 2)) (e_L 111 (0, ei_if2 1 120 114, 0, 0))) (e_T 114 (e_L 114 (0, ei_inc 4 1 117, 0, 0)) (e_T 117 (e_L 117 (0, ei_goto 75, 0, 0)) (e_L 123 (0, ei_load 2 0 124, 0, 0))))) (e_T 126 (e_T 124 (e_L 124 (0, ei_load 4 0 126, 0, 0)) (e_L 126 (0, ei_bin eF_add 127, 0, 0))) (e_T 130 (e_L 130 (0, ei_push (0, 32) 132, 0, 0)) (e_T 132 (e_L 132 (0, ei_if2 1 159 135, 0, 0)) (e_L 135 (0, ei_load 4 0 137, 0, 0)))))))
set_option maxRecDepth 20000 in
set_option maxHeartbeats 4000000 in
theorem te_328_40_ok : ∀ pc, e_EOq eft cls elay eI n_328 pc (te_328_40 pc) :=
  (e_Tok2
  (e_Tok2
  (e_Tok2
  (e_Tok2
  (e_Lok (ps_bipush_32 (x_dk dn_328_0_1_ok 19 rfl)))
  (e_Lok (e_st (I := eI) (er_icmpeq (off := 33) (tg := 120) (x_dk dn_328_0_1_ok 20 rfl) (by decide)) nx_if2)))
  (e_Tok2
  (e_Lok (ld_iload_n_2 (x_dk dn_328_0_1_ok 22 rfl)))
  (e_Tok2
  (e_Lok (ld_iload_4 (x_dk dn_328_0_1_ok 23 rfl)))
  (e_Lok (sm_iadd (x_dk dn_328_0_1_ok 24 rfl))))))
  (e_Tok2
  (e_Tok2
  (e_Lok (ld_aload_n_0 (x_dk dn_328_0_2_ok 1 rfl)))
  (e_Lok (ld_aload_n_0 (x_dk dn_328_0_2_ok 2 rfl))))
  (e_Tok2
  (e_Lok (lk_12_491g ho_328 (x_dk dn_328_0_2_ok 3 rfl)))
  (e_Tok2
  (e_Lok (ld_iload_4 (x_dk dn_328_0_2_ok 4 rfl)))
  (e_Lok (sm_iadd (x_dk dn_328_0_2_ok 5 rfl)))))))
  (e_Tok2
  (e_Tok2
  (e_Tok2
  (e_Lok (lk_12_488 ho_328 (x_dk dn_328_0_2_ok 6 rfl)))
  (e_Lok (e_st (I := eI) (er_icmpne (off := 9) (tg := 120) (x_dk dn_328_0_2_ok 7 rfl) (by decide)) nx_if2)))
  (e_Tok2
  (e_Lok (e_st (I := eI) (er_iinc (i := 4) (n := 1) (x_dk dn_328_0_2_ok 8 rfl) (by decide +kernel) (by decide)) nx_inc))
  (e_Tok2
  (e_Lok (e_st (I := eI) (er_goto (off := (-42)) (tg := 75) (x_dk dn_328_0_2_ok 9 rfl) (by decide)) nx_goto))
  (e_Lok (ld_iload_n_2 (x_dk dn_328_0_2_ok 11 rfl))))))
  (e_Tok2
  (e_Tok2
  (e_Lok (ld_iload_4 (x_dk dn_328_0_2_ok 12 rfl)))
  (e_Lok (sm_iadd (x_dk dn_328_0_2_ok 13 rfl))))
  (e_Tok2
  (e_Lok (ps_bipush_32 (x_dk dn_328_0_2_ok 15 rfl)))
  (e_Tok2
  (e_Lok (e_st (I := eI) (er_icmpne (off := 27) (tg := 159) (x_dk dn_328_0_2_ok 16 rfl) (by decide)) nx_if2))
  (e_Lok (ld_iload_4 (x_dk dn_328_0_2_ok 17 rfl))))))))
def te_328_60 : Nat → eE := (e_T 154 (e_T 145 (e_T 138 (e_T 137 (e_L 137 (0, ei_load 0 2 138, 0, 0)) (e_L 138 (0, ei_getf eft elay 12 87 141, 0, 0))) (e_T 141 (e_L 141 (0, ei_load 0 2 142, 0, 0)) (e_T 142 (e_L 142 (0, ei_getf eft elay 12 86 145, 0, 0)) (e_L 145 (0, ei_bin eF_sub 146, 0, 0))))) (e_T 149 (e_T 146 (e_L 146 (0, ei_if2 1 159 149, 0, 0)) (e_L 149 (0, ei_load 0 2 150, 0, 0))) (e_T 150 (e_L 150 (0, ei_push (0, 4) 151, 0, 0)) (e_T 151 (e_L 151 (0, ei_putf eft elay 12 84 0 154, 0, 0)) (e_L 154 (0, ei_load 0 2 155, 0, 0)))))) (e_T 168 (e_T 156 (e_T 155 (e_L 155 (0, ei_load 3 0 156, 0, 0)) (e_L 156 (0, ei_putf eft elay 12 85 0 159, 0, 0))) (e_T 162 (e_L 162 (0, ei_load 2 0 163, 0, 0)) (e_T 166 (e_L 166 (0, ei_push (0, 32) 168, 0, 0)) (e_L 168 (0, ei_if2 0 177 171, 0, 0))))) (e_T 177 (e_T 171 (e_L 171 (0, ei_inc 2 1 174, 0, 0)) (e_T 174 (e_L 174 (0, ei_goto 159, 0, 0)) (e_L 177 (0, ei_inc 2 1 180, 0, 0)))) (e_T 180 (e_L 180 (0, ei_inc 3 1 183, 0, 0)) (e_T 183 (e_L 183 (0, ei_goto 62, 0, 0)) (e_L 186 (1, e_nof, 0, 0)))))))
set_option maxRecDepth 20000 in
set_option maxHeartbeats 4000000 in
theorem te_328_60_ok : ∀ pc, e_EOq eft cls elay eI n_328 pc (te_328_60 pc) :=
  (e_Tok2
  (e_Tok2
  (e_Tok2
  (e_Tok2
  (e_Lok (ld_aload_n_0 (x_dk dn_328_0_2_ok 18 rfl)))
  (e_Lok (lk_12_485g ho_328 (x_dk dn_328_0_2_ok 19 rfl))))
  (e_Tok2
  (e_Lok (ld_aload_n_0 (x_dk dn_328_0_2_ok 20 rfl)))
  (e_Tok2
  (e_Lok (lk_12_491g ho_328 (x_dk dn_328_0_2_ok 21 rfl)))
  (e_Lok (sm_isub (x_dk dn_328_0_2_ok 22 rfl))))))
  (e_Tok2
  (e_Tok2
  (e_Lok (e_st (I := eI) (er_icmpne (off := 13) (tg := 159) (x_dk dn_328_0_2_ok 23 rfl) (by decide)) nx_if2))
  (e_Lok (ld_aload_n_0 (x_dk dn_328_0_2_ok 24 rfl))))
  (e_Tok2
  (e_Lok (ps_iconst_4 (x_dk dn_328_0_3_ok 0 rfl)))
  (e_Tok2
  (e_Lok (lk_12_497p ho_328 (x_dk dn_328_0_3_ok 1 rfl)))
  (e_Lok (ld_aload_n_0 (x_dk dn_328_0_3_ok 2 rfl)))))))
  (e_Tok2
  (e_Tok2
  (e_Tok2
  (e_Lok (ld_iload_n_3 (x_dk dn_328_0_3_ok 3 rfl)))
  (e_Lok (lk_12_494p ho_328 (x_dk dn_328_0_3_ok 4 rfl))))
  (e_Tok2
  (e_Lok (ld_iload_n_2 (x_dk dn_328_0_3_ok 6 rfl)))
  (e_Tok2
  (e_Lok (ps_bipush_32 (x_dk dn_328_0_3_ok 8 rfl)))
  (e_Lok (e_st (I := eI) (er_icmpeq (off := 9) (tg := 177) (x_dk dn_328_0_3_ok 9 rfl) (by decide)) nx_if2)))))
  (e_Tok2
  (e_Tok2
  (e_Lok (e_st (I := eI) (er_iinc (i := 2) (n := 1) (x_dk dn_328_0_3_ok 10 rfl) (by decide +kernel) (by decide)) nx_inc))
  (e_Tok2
  (e_Lok (e_st (I := eI) (er_goto (off := (-15)) (tg := 159) (x_dk dn_328_0_3_ok 11 rfl) (by decide)) nx_goto))
  (e_Lok (e_st (I := eI) (er_iinc (i := 2) (n := 1) (x_dk dn_328_0_3_ok 12 rfl) (by decide +kernel) (by decide)) nx_inc))))
  (e_Tok2
  (e_Lok (e_st (I := eI) (er_iinc (i := 3) (n := 1) (x_dk dn_328_0_3_ok 13 rfl) (by decide +kernel) (by decide)) nx_inc))
  (e_Tok2
  (e_Lok (e_st (I := eI) (er_goto (off := (-121)) (tg := 62) (x_dk dn_328_0_3_ok 14 rfl) (by decide)) nx_goto))
  (e_Lok (e_rt (I := eI) (k := 0) ⟨(x_dk dn_328_0_3_ok 15 rfl), rfl⟩)))))))
def te_328 : Nat → eE := (e_T 81 te_328_0 (e_T 135 te_328_40 te_328_60))
theorem te_328_ok : ∀ pc, e_EOq eft cls elay eI n_328 pc (te_328 pc) := (e_Tok2 (te_328_0_ok) ((e_Tok2 (te_328_40_ok) (te_328_60_ok))))
end
end
-- part 45
section
noncomputable section
/-! the exact tables together -/
def e_TC (k : Nat) (a b : Nat → Nat → eE) : Nat → Nat → eE := fun M => bif Nat.ble M k then a M else b M
def ecode0 : Nat → Nat → eE := (e_TC 225 (e_TC 112 (e_TC 55 (e_TC 27 (e_TC 13 (e_TC 6 (e_TC 2 (e_TC 0 (fun _ => fun _ => e_e7) (e_TC 1 (fun _ => te_1) (fun _ => te_2))) (e_TC 4 (e_TC 3 (fun _ => te_3) (fun _ => te_4)) (e_TC 5 (fun _ => te_5) (fun _ => te_6)))) (e_TC 9 (e_TC 7 (fun _ => te_7) (e_TC 8 (fun _ => te_8) (fun _ => te_9))) (e_TC 11 (e_TC 10 (fun _ => te_10) (fun _ => te_11)) (e_TC 12 (fun _ => te_12) (fun _ => te_13))))) (e_TC 20 (e_TC 16 (e_TC 14 (fun _ => te_14) (e_TC 15 (fun _ => te_15) (fun _ => te_16))) (e_TC 18 (e_TC 17 (fun _ => te_17) (fun _ => te_18)) (e_TC 19 (fun _ => te_19) (fun _ => te_20)))) (e_TC 23 (e_TC 21 (fun _ => te_21) (e_TC 22 (fun _ => te_22) (fun _ => te_23))) (e_TC 25 (e_TC 24 (fun _ => te_24) (fun _ => te_25)) (e_TC 26 (fun _ => te_26) (fun _ => te_27)))))) (e_TC 41 (e_TC 34 (e_TC 30 (e_TC 28 (fun _ => te_28) (e_TC 29 (fun _ => te_29) (fun _ => te_30))) (e_TC 32 (e_TC 31 (fun _ => te_31) (fun _ => te_32)) (e_TC 33 (fun _ => te_33) (fun _ => te_34)))) (e_TC 37 (e_TC 35 (fun _ => te_35) (e_TC 36 (fun _ => te_36) (fun _ => te_37))) (e_TC 39 (e_TC 38 (fun _ => te_38) (fun _ => te_39)) (e_TC 40 (fun _ => te_40) (fun _ => te_41))))) (e_TC 48 (e_TC 44 (e_TC 42 (fun _ => te_42) (e_TC 43 (fun _ => te_43) (fun _ => te_44))) (e_TC 46 (e_TC 45 (fun _ => te_45) (fun _ => te_46)) (e_TC 47 (fun _ => te_47) (fun _ => te_48)))) (e_TC 51 (e_TC 49 (fun _ => te_49) (e_TC 50 (fun _ => te_50) (fun _ => te_51))) (e_TC 53 (e_TC 52 (fun _ => te_52) (fun _ => te_53)) (e_TC 54 (fun _ => te_54) (fun _ => te_55))))))) (e_TC 83 (e_TC 69 (e_TC 62 (e_TC 58 (e_TC 56 (fun _ => te_56) (e_TC 57 (fun _ => te_57) (fun _ => te_58))) (e_TC 60 (e_TC 59 (fun _ => te_59) (fun _ => te_60)) (e_TC 61 (fun _ => te_61) (fun _ => te_62)))) (e_TC 65 (e_TC 63 (fun _ => te_63) (e_TC 64 (fun _ => te_64) (fun _ => te_65))) (e_TC 67 (e_TC 66 (fun _ => te_66) (fun _ => te_67)) (e_TC 68 (fun _ => te_68) (fun _ => te_69))))) (e_TC 76 (e_TC 72 (e_TC 70 (fun _ => te_70) (e_TC 71 (fun _ => te_71) (fun _ => te_72))) (e_TC 74 (e_TC 73 (fun _ => te_73) (fun _ => te_74)) (e_TC 75 (fun _ => te_75) (fun _ => te_76)))) (e_TC 79 (e_TC 77 (fun _ => te_77) (e_TC 78 (fun _ => te_78) (fun _ => te_79))) (e_TC 81 (e_TC 80 (fun _ => te_80) (fun _ => te_81)) (e_TC 82 (fun _ => te_82) (fun _ => te_83)))))) (e_TC 97 (e_TC 90 (e_TC 86 (e_TC 84 (fun _ => te_84) (e_TC 85 (fun _ => te_85) (fun _ => te_86))) (e_TC 88 (e_TC 87 (fun _ => te_87) (fun _ => te_88)) (e_TC 89 (fun _ => te_89) (fun _ => te_90)))) (e_TC 93 (e_TC 91 (fun _ => te_91) (e_TC 92 (fun _ => te_92) (fun _ => te_93))) (e_TC 95 (e_TC 94 (fun _ => te_94) (fun _ => te_95)) (e_TC 96 (fun _ => te_96) (fun _ => te_97))))) (e_TC 104 (e_TC 100 (e_TC 98 (fun _ => te_98) (e_TC 99 (fun _ => te_99) (fun _ => te_100))) (e_TC 102 (e_TC 101 (fun _ => te_101) (fun _ => te_102)) (e_TC 103 (fun _ => te_103) (fun _ => te_104)))) (e_TC 108 (e_TC 106 (e_TC 105 (fun _ => te_105) (fun _ => te_106)) (e_TC 107 (fun _ => te_107) (fun _ => te_108))) (e_TC 110 (e_TC 109 (fun _ => te_109) (fun _ => te_110)) (e_TC 111 (fun _ => te_111) (fun _ => te_112)))))))) (e_TC 168 (e_TC 140 (e_TC 126 (e_TC 119 (e_TC 115 (e_TC 113 (fun _ => te_113) (e_TC 114 (fun _ => te_114) (fun _ => te_115))) (e_TC 117 (e_TC 116 (fun _ => te_116) (fun _ => te_117)) (e_TC 118 (fun _ => te_118) (fun _ => te_119)))) (e_TC 122 (e_TC 120 (fun _ => te_120) (e_TC 121 (fun _ => te_121) (fun _ => te_122))) (e_TC 124 (e_TC 123 (fun _ => te_123) (fun _ => te_124)) (e_TC 125 (fun _ => te_125) (fun _ => te_126))))) (e_TC 133 (e_TC 129 (e_TC 127 (fun _ => te_127) (e_TC 128 (fun _ => te_128) (fun _ => te_129))) (e_TC 131 (e_TC 130 (fun _ => te_130) (fun _ => te_131)) (e_TC 132 (fun _ => te_132) (fun _ => te_133)))) (e_TC 136 (e_TC 134 (fun _ => te_134) (e_TC 135 (fun _ => te_135) (fun _ => te_136))) (e_TC 138 (e_TC 137 (fun _ => te_137) (fun _ => te_138)) (e_TC 139 (fun _ => te_139) (fun _ => te_140)))))) (e_TC 154 (e_TC 147 (e_TC 143 (e_TC 141 (fun _ => te_141) (e_TC 142 (fun _ => te_142) (fun _ => te_143))) (e_TC 145 (e_TC 144 (fun _ => te_144) (fun _ => te_145)) (e_TC 146 (fun _ => te_146) (fun _ => te_147)))) (e_TC 150 (e_TC 148 (fun _ => te_148) (e_TC 149 (fun _ => te_149) (fun _ => te_150))) (e_TC 152 (e_TC 151 (fun _ => te_151) (fun _ => te_152)) (e_TC 153 (fun _ => te_153) (fun _ => te_154))))) (e_TC 161 (e_TC 157 (e_TC 155 (fun _ => te_155) (e_TC 156 (fun _ => te_156) (fun _ => te_157))) (e_TC 159 (e_TC 158 (fun _ => te_158) (fun _ => te_159)) (e_TC 160 (fun _ => te_160) (fun _ => te_161)))) (e_TC 164 (e_TC 162 (fun _ => te_162) (e_TC 163 (fun _ => te_163) (fun _ => te_164))) (e_TC 166 (e_TC 165 (fun _ => te_165) (fun _ => te_166)) (e_TC 167 (fun _ => te_167) (fun _ => te_168))))))) (e_TC 196 (e_TC 182 (e_TC 175 (e_TC 171 (e_TC 169 (fun _ => te_169) (e_TC 170 (fun _ => te_170) (fun _ => te_171))) (e_TC 173 (e_TC 172 (fun _ => te_172) (fun _ => te_173)) (e_TC 174 (fun _ => te_174) (fun _ => te_175)))) (e_TC 178 (e_TC 176 (fun _ => te_176) (e_TC 177 (fun _ => te_177) (fun _ => te_178))) (e_TC 180 (e_TC 179 (fun _ => te_179) (fun _ => te_180)) (e_TC 181 (fun _ => te_181) (fun _ => te_182))))) (e_TC 189 (e_TC 185 (e_TC 183 (fun _ => te_183) (e_TC 184 (fun _ => te_184) (fun _ => te_185))) (e_TC 187 (e_TC 186 (fun _ => te_186) (fun _ => te_187)) (e_TC 188 (fun _ => te_188) (fun _ => te_189)))) (e_TC 192 (e_TC 190 (fun _ => te_190) (e_TC 191 (fun _ => te_191) (fun _ => te_192))) (e_TC 194 (e_TC 193 (fun _ => te_193) (fun _ => te_194)) (e_TC 195 (fun _ => te_195) (fun _ => te_196)))))) (e_TC 210 (e_TC 203 (e_TC 199 (e_TC 197 (fun _ => te_197) (e_TC 198 (fun _ => te_198) (fun _ => te_199))) (e_TC 201 (e_TC 200 (fun _ => te_200) (fun _ => te_201)) (e_TC 202 (fun _ => te_202) (fun _ => te_203)))) (e_TC 206 (e_TC 204 (fun _ => te_204) (e_TC 205 (fun _ => te_205) (fun _ => te_206))) (e_TC 208 (e_TC 207 (fun _ => te_207) (fun _ => te_208)) (e_TC 209 (fun _ => te_209) (fun _ => te_210))))) (e_TC 217 (e_TC 213 (e_TC 211 (fun _ => te_211) (e_TC 212 (fun _ => te_212) (fun _ => te_213))) (e_TC 215 (e_TC 214 (fun _ => te_214) (fun _ => te_215)) (e_TC 216 (fun _ => te_216) (fun _ => te_217)))) (e_TC 221 (e_TC 219 (e_TC 218 (fun _ => te_218) (fun _ => te_219)) (e_TC 220 (fun _ => te_220) (fun _ => te_221))) (e_TC 223 (e_TC 222 (fun _ => te_222) (fun _ => te_223)) (e_TC 224 (fun _ => te_224) (fun _ => te_225))))))))) (e_TC 338 (e_TC 281 (e_TC 253 (e_TC 239 (e_TC 232 (e_TC 228 (e_TC 226 (fun _ => te_226) (e_TC 227 (fun _ => te_227) (fun _ => te_228))) (e_TC 230 (e_TC 229 (fun _ => te_229) (fun _ => te_230)) (e_TC 231 (fun _ => te_231) (fun _ => te_232)))) (e_TC 235 (e_TC 233 (fun _ => te_233) (e_TC 234 (fun _ => te_234) (fun _ => te_235))) (e_TC 237 (e_TC 236 (fun _ => te_236) (fun _ => te_237)) (e_TC 238 (fun _ => te_238) (fun _ => te_239))))) (e_TC 246 (e_TC 242 (e_TC 240 (fun _ => te_240) (e_TC 241 (fun _ => te_241) (fun _ => te_242))) (e_TC 244 (e_TC 243 (fun _ => te_243) (fun _ => te_244)) (e_TC 245 (fun _ => te_245) (fun _ => te_246)))) (e_TC 249 (e_TC 247 (fun _ => te_247) (e_TC 248 (fun _ => te_248) (fun _ => te_249))) (e_TC 251 (e_TC 250 (fun _ => te_250) (fun _ => te_251)) (e_TC 252 (fun _ => te_252) (fun _ => te_253)))))) (e_TC 267 (e_TC 260 (e_TC 256 (e_TC 254 (fun _ => te_254) (e_TC 255 (fun _ => te_255) (fun _ => te_256))) (e_TC 258 (e_TC 257 (fun _ => te_257) (fun _ => te_258)) (e_TC 259 (fun _ => te_259) (fun _ => te_260)))) (e_TC 263 (e_TC 261 (fun _ => te_261) (e_TC 262 (fun _ => te_262) (fun _ => te_263))) (e_TC 265 (e_TC 264 (fun _ => te_264) (fun _ => te_265)) (e_TC 266 (fun _ => te_266) (fun _ => te_267))))) (e_TC 274 (e_TC 270 (e_TC 268 (fun _ => te_268) (e_TC 269 (fun _ => te_269) (fun _ => te_270))) (e_TC 272 (e_TC 271 (fun _ => te_271) (fun _ => te_272)) (e_TC 273 (fun _ => te_273) (fun _ => te_274)))) (e_TC 277 (e_TC 275 (fun _ => te_275) (e_TC 276 (fun _ => te_276) (fun _ => te_277))) (e_TC 279 (e_TC 278 (fun _ => te_278) (fun _ => te_279)) (e_TC 280 (fun _ => te_280) (fun _ => te_281))))))) (e_TC 309 (e_TC 295 (e_TC 288 (e_TC 284 (e_TC 282 (fun _ => te_282) (e_TC 283 (fun _ => te_283) (fun _ => te_284))) (e_TC 286 (e_TC 285 (fun _ => te_285) (fun _ => te_286)) (e_TC 287 (fun _ => te_287) (fun _ => te_288)))) (e_TC 291 (e_TC 289 (fun _ => te_289) (e_TC 290 (fun _ => te_290) (fun _ => te_291))) (e_TC 293 (e_TC 292 (fun _ => te_292) (fun _ => te_293)) (e_TC 294 (fun _ => te_294) (fun _ => te_295))))) (e_TC 302 (e_TC 298 (e_TC 296 (fun _ => te_296) (e_TC 297 (fun _ => te_297) (fun _ => te_298))) (e_TC 300 (e_TC 299 (fun _ => te_299) (fun _ => te_300)) (e_TC 301 (fun _ => te_301) (fun _ => te_302)))) (e_TC 305 (e_TC 303 (fun _ => te_303) (e_TC 304 (fun _ => te_304) (fun _ => te_305))) (e_TC 307 (e_TC 306 (fun _ => te_306) (fun _ => te_307)) (e_TC 308 (fun _ => te_308) (fun _ => te_309)))))) (e_TC 323 (e_TC 316 (e_TC 312 (e_TC 310 (fun _ => te_310) (e_TC 311 (fun _ => te_311) (fun _ => te_312))) (e_TC 314 (e_TC 313 (fun _ => te_313) (fun _ => te_314)) (e_TC 315 (fun _ => te_315) (fun _ => te_316)))) (e_TC 319 (e_TC 317 (fun _ => te_317) (e_TC 318 (fun _ => te_318) (fun _ => te_319))) (e_TC 321 (e_TC 320 (fun _ => te_320) (fun _ => te_321)) (e_TC 322 (fun _ => te_322) (fun _ => te_323))))) (e_TC 330 (e_TC 326 (e_TC 324 (fun _ => te_324) (e_TC 325 (fun _ => te_325) (fun _ => te_326))) (e_TC 328 (e_TC 327 (fun _ => te_327) (fun _ => te_328)) (e_TC 329 (fun _ => te_329) (fun _ => te_330)))) (e_TC 334 (e_TC 332 (e_TC 331 (fun _ => te_331) (fun _ => te_332)) (e_TC 333 (fun _ => te_333) (fun _ => te_334))) (e_TC 336 (e_TC 335 (fun _ => te_335) (fun _ => te_336)) (e_TC 337 (fun _ => te_337) (fun _ => te_338)))))))) (e_TC 395 (e_TC 366 (e_TC 352 (e_TC 345 (e_TC 341 (e_TC 339 (fun _ => te_339) (e_TC 340 (fun _ => te_340) (fun _ => te_341))) (e_TC 343 (e_TC 342 (fun _ => te_342) (fun _ => te_343)) (e_TC 344 (fun _ => te_344) (fun _ => te_345)))) (e_TC 348 (e_TC 346 (fun _ => te_346) (e_TC 347 (fun _ => te_347) (fun _ => te_348))) (e_TC 350 (e_TC 349 (fun _ => te_349) (fun _ => te_350)) (e_TC 351 (fun _ => te_351) (fun _ => te_352))))) (e_TC 359 (e_TC 355 (e_TC 353 (fun _ => te_353) (e_TC 354 (fun _ => te_354) (fun _ => te_355))) (e_TC 357 (e_TC 356 (fun _ => te_356) (fun _ => te_357)) (e_TC 358 (fun _ => te_358) (fun _ => te_359)))) (e_TC 362 (e_TC 360 (fun _ => te_360) (e_TC 361 (fun _ => te_361) (fun _ => te_362))) (e_TC 364 (e_TC 363 (fun _ => te_363) (fun _ => te_364)) (e_TC 365 (fun _ => te_365) (fun _ => te_366)))))) (e_TC 380 (e_TC 373 (e_TC 369 (e_TC 367 (fun _ => te_367) (e_TC 368 (fun _ => te_368) (fun _ => te_369))) (e_TC 371 (e_TC 370 (fun _ => te_370) (fun _ => te_371)) (e_TC 372 (fun _ => te_372) (fun _ => te_373)))) (e_TC 376 (e_TC 374 (fun _ => te_374) (e_TC 375 (fun _ => te_375) (fun _ => te_376))) (e_TC 378 (e_TC 377 (fun _ => te_377) (fun _ => te_378)) (e_TC 379 (fun _ => te_379) (fun _ => te_380))))) (e_TC 387 (e_TC 383 (e_TC 381 (fun _ => te_381) (e_TC 382 (fun _ => te_382) (fun _ => te_383))) (e_TC 385 (e_TC 384 (fun _ => te_384) (fun _ => te_385)) (e_TC 386 (fun _ => te_386) (fun _ => te_387)))) (e_TC 391 (e_TC 389 (e_TC 388 (fun _ => te_388) (fun _ => te_389)) (e_TC 390 (fun _ => te_390) (fun _ => te_391))) (e_TC 393 (e_TC 392 (fun _ => te_392) (fun _ => te_393)) (e_TC 394 (fun _ => te_394) (fun _ => te_395))))))) (e_TC 423 (e_TC 409 (e_TC 402 (e_TC 398 (e_TC 396 (fun _ => te_396) (e_TC 397 (fun _ => te_397) (fun _ => te_398))) (e_TC 400 (e_TC 399 (fun _ => te_399) (fun _ => te_400)) (e_TC 401 (fun _ => te_401) (fun _ => te_402)))) (e_TC 405 (e_TC 403 (fun _ => te_403) (e_TC 404 (fun _ => te_404) (fun _ => te_405))) (e_TC 407 (e_TC 406 (fun _ => te_406) (fun _ => te_407)) (e_TC 408 (fun _ => te_408) (fun _ => te_409))))) (e_TC 416 (e_TC 412 (e_TC 410 (fun _ => te_410) (e_TC 411 (fun _ => te_411) (fun _ => te_412))) (e_TC 414 (e_TC 413 (fun _ => te_413) (fun _ => te_414)) (e_TC 415 (fun _ => te_415) (fun _ => te_416)))) (e_TC 419 (e_TC 417 (fun _ => te_417) (e_TC 418 (fun _ => te_418) (fun _ => te_419))) (e_TC 421 (e_TC 420 (fun _ => te_420) (fun _ => te_421)) (e_TC 422 (fun _ => te_422) (fun _ => te_423)))))) (e_TC 437 (e_TC 430 (e_TC 426 (e_TC 424 (fun _ => te_424) (e_TC 425 (fun _ => te_425) (fun _ => te_426))) (e_TC 428 (e_TC 427 (fun _ => te_427) (fun _ => te_428)) (e_TC 429 (fun _ => te_429) (fun _ => te_430)))) (e_TC 433 (e_TC 431 (fun _ => te_431) (e_TC 432 (fun _ => te_432) (fun _ => te_433))) (e_TC 435 (e_TC 434 (fun _ => te_434) (fun _ => te_435)) (e_TC 436 (fun _ => te_436) (fun _ => te_437))))) (e_TC 444 (e_TC 440 (e_TC 438 (fun _ => te_438) (e_TC 439 (fun _ => te_439) (fun _ => te_440))) (e_TC 442 (e_TC 441 (fun _ => te_441) (fun _ => te_442)) (e_TC 443 (fun _ => te_443) (fun _ => te_444)))) (e_TC 448 (e_TC 446 (e_TC 445 (fun _ => te_445) (fun _ => te_446)) (e_TC 447 (fun _ => te_447) (fun _ => te_448))) (e_TC 450 (e_TC 449 (fun _ => te_449) (fun _ => te_450)) (e_TC 451 (fun _ => te_451) (fun _ => te_452))))))))))
theorem e_TTok {I : Nat → xM} {k : Nat} {a b : Nat → xM} {a' b' : Nat → Nat → eE} (ha : ∀ M pc, e_EOq eft cls elay I (a M) pc (a' M pc)) (hb : ∀ M pc, e_EOq eft cls elay I (b M) pc (b' M pc)) : ∀ M pc, e_EOq eft cls elay I (x_TI k a b M) pc (e_TC k a' b' M pc) := fun M pc => by
  unfold x_TI e_TC
  cases Nat.ble M k with
  | true => exact ha M pc
  | false => exact hb M pc
theorem x_TIok {P : xM → Prop} {k : Nat} {a b : Nat → xM} (ha : ∀ M, P (a M)) (hb : ∀ M, P (b M)) : ∀ M, P (x_TI k a b M) := fun M => by
  unfold x_TI
  cases Nat.ble M k with
  | true => exact ha M
  | false => exact hb M
def x_mok (q : xM) : Bool := plainName (xm_y q).cls && (Nat.beq (xm_o q) 999 || match cls[xm_o q]? with
  | some r => decide (r.1 = (xm_y q).cls)
  | none => false)
set_option maxRecDepth 20000 in
set_option maxHeartbeats 4000000 in
theorem e_moks : ∀ M, x_mok (eI M) = true := (x_TIok (P := fun q => x_mok q = true) (k := 225) (x_TIok (P := fun q => x_mok q = true) (k := 112) (x_TIok (P := fun q => x_mok q = true) (k := 55) (x_TIok (P := fun q => x_mok q = true) (k := 27) (x_TIok (P := fun q => x_mok q = true) (k := 13) (x_TIok (P := fun q => x_mok q = true) (k := 6) (x_TIok (P := fun q => x_mok q = true) (k := 2) (x_TIok (P := fun q => x_mok q = true) (k := 0) (fun _ => (show x_mok n_0 = true by decide +kernel))
 (x_TIok (P := fun q => x_mok q = true) (k := 1) (fun _ => (show x_mok n_1 = true by decide +kernel))
 (fun _ => (show x_mok n_2 = true by decide +kernel))))
 (x_TIok (P := fun q => x_mok q = true) (k := 4) (x_TIok (P := fun q => x_mok q = true) (k := 3) (fun _ => (show x_mok n_3 = true by decide +kernel))
 (fun _ => (show x_mok n_4 = true by decide +kernel)))
 (x_TIok (P := fun q => x_mok q = true) (k := 5) (fun _ => (show x_mok n_5 = true by decide +kernel))
 (fun _ => (show x_mok n_6 = true by decide +kernel)))))
 (x_TIok (P := fun q => x_mok q = true) (k := 9) (x_TIok (P := fun q => x_mok q = true) (k := 7) (fun _ => (show x_mok n_7 = true by decide +kernel))
 (x_TIok (P := fun q => x_mok q = true) (k := 8) (fun _ => (show x_mok n_8 = true by decide +kernel))
 (fun _ => (show x_mok n_9 = true by decide +kernel))))
 (x_TIok (P := fun q => x_mok q = true) (k := 11) (x_TIok (P := fun q => x_mok q = true) (k := 10) (fun _ => (show x_mok n_10 = true by decide +kernel))
 (fun _ => (show x_mok n_11 = true by decide +kernel)))
 (x_TIok (P := fun q => x_mok q = true) (k := 12) (fun _ => (show x_mok n_12 = true by decide +kernel))
 (fun _ => (show x_mok n_13 = true by decide +kernel))))))
 (x_TIok (P := fun q => x_mok q = true) (k := 20) (x_TIok (P := fun q => x_mok q = true) (k := 16) (x_TIok (P := fun q => x_mok q = true) (k := 14) (fun _ => (show x_mok n_14 = true by decide +kernel))
 (x_TIok (P := fun q => x_mok q = true) (k := 15) (fun _ => (show x_mok n_15 = true by decide +kernel))
 (fun _ => (show x_mok n_16 = true by decide +kernel))))
 (x_TIok (P := fun q => x_mok q = true) (k := 18) (x_TIok (P := fun q => x_mok q = true) (k := 17) (fun _ => (show x_mok n_17 = true by decide +kernel))
 (fun _ => (show x_mok n_18 = true by decide +kernel)))
 (x_TIok (P := fun q => x_mok q = true) (k := 19) (fun _ => (show x_mok n_19 = true by decide +kernel))
 (fun _ => (show x_mok n_20 = true by decide +kernel)))))
 (x_TIok (P := fun q => x_mok q = true) (k := 23) (x_TIok (P := fun q => x_mok q = true) (k := 21) (fun _ => (show x_mok n_21 = true by decide +kernel))
 (x_TIok (P := fun q => x_mok q = true) (k := 22) (fun _ => (show x_mok n_22 = true by decide +kernel))
 (fun _ => (show x_mok n_23 = true by decide +kernel))))
 (x_TIok (P := fun q => x_mok q = true) (k := 25) (x_TIok (P := fun q => x_mok q = true) (k := 24) (fun _ => (show x_mok n_24 = true by decide +kernel))
 (fun _ => (show x_mok n_25 = true by decide +kernel)))
 (x_TIok (P := fun q => x_mok q = true) (k := 26) (fun _ => (show x_mok n_26 = true by decide +kernel))
 (fun _ => (show x_mok n_27 = true by decide +kernel)))))))
 (x_TIok (P := fun q => x_mok q = true) (k := 41) (x_TIok (P := fun q => x_mok q = true) (k := 34) (x_TIok (P := fun q => x_mok q = true) (k := 30) (x_TIok (P := fun q => x_mok q = true) (k := 28) (fun _ => (show x_mok n_28 = true by decide +kernel))
 (x_TIok (P := fun q => x_mok q = true) (k := 29) (fun _ => (show x_mok n_29 = true by decide +kernel))
 (fun _ => (show x_mok n_30 = true by decide +kernel))))
 (x_TIok (P := fun q => x_mok q = true) (k := 32) (x_TIok (P := fun q => x_mok q = true) (k := 31) (fun _ => (show x_mok n_31 = true by decide +kernel))
 (fun _ => (show x_mok n_32 = true by decide +kernel)))
 (x_TIok (P := fun q => x_mok q = true) (k := 33) (fun _ => (show x_mok n_33 = true by decide +kernel))
 (fun _ => (show x_mok n_34 = true by decide +kernel)))))
 (x_TIok (P := fun q => x_mok q = true) (k := 37) (x_TIok (P := fun q => x_mok q = true) (k := 35) (fun _ => (show x_mok n_35 = true by decide +kernel))
 (x_TIok (P := fun q => x_mok q = true) (k := 36) (fun _ => (show x_mok n_36 = true by decide +kernel))
 (fun _ => (show x_mok n_37 = true by decide +kernel))))
 (x_TIok (P := fun q => x_mok q = true) (k := 39) (x_TIok (P := fun q => x_mok q = true) (k := 38) (fun _ => (show x_mok n_38 = true by decide +kernel))
 (fun _ => (show x_mok n_39 = true by decide +kernel)))
 (x_TIok (P := fun q => x_mok q = true) (k := 40) (fun _ => (show x_mok n_40 = true by decide +kernel))
 (fun _ => (show x_mok n_41 = true by decide +kernel))))))
 (x_TIok (P := fun q => x_mok q = true) (k := 48) (x_TIok (P := fun q => x_mok q = true) (k := 44) (x_TIok (P := fun q => x_mok q = true) (k := 42) (fun _ => (show x_mok n_42 = true by decide +kernel))
 (x_TIok (P := fun q => x_mok q = true) (k := 43) (fun _ => (show x_mok n_43 = true by decide +kernel))
 (fun _ => (show x_mok n_44 = true by decide +kernel))))
 (x_TIok (P := fun q => x_mok q = true) (k := 46) (x_TIok (P := fun q => x_mok q = true) (k := 45) (fun _ => (show x_mok n_45 = true by decide +kernel))
 (fun _ => (show x_mok n_46 = true by decide +kernel)))
 (x_TIok (P := fun q => x_mok q = true) (k := 47) (fun _ => (show x_mok n_47 = true by decide +kernel))
 (fun _ => (show x_mok n_48 = true by decide +kernel)))))
 (x_TIok (P := fun q => x_mok q = true) (k := 51) (x_TIok (P := fun q => x_mok q = true) (k := 49) (fun _ => (show x_mok n_49 = true by decide +kernel))
 (x_TIok (P := fun q => x_mok q = true) (k := 50) (fun _ => (show x_mok n_50 = true by decide +kernel))
 (fun _ => (show x_mok n_51 = true by decide +kernel))))
 (x_TIok (P := fun q => x_mok q = true) (k := 53) (x_TIok (P := fun q => x_mok q = true) (k := 52) (fun _ => (show x_mok n_52 = true by decide +kernel))
 (fun _ => (show x_mok n_53 = true by decide +kernel)))
 (x_TIok (P := fun q => x_mok q = true) (k := 54) (fun _ => (show x_mok n_54 = true by decide +kernel))
 (fun _ => (show x_mok n_55 = true by decide +kernel))))))))
 (x_TIok (P := fun q => x_mok q = true) (k := 83) (x_TIok (P := fun q => x_mok q = true) (k := 69) (x_TIok (P := fun q => x_mok q = true) (k := 62) (x_TIok (P := fun q => x_mok q = true) (k := 58) (x_TIok (P := fun q => x_mok q = true) (k := 56) (fun _ => (show x_mok n_56 = true by decide +kernel))
 (x_TIok (P := fun q => x_mok q = true) (k := 57) (fun _ => (show x_mok n_57 = true by decide +kernel))
 (fun _ => (show x_mok n_58 = true by decide +kernel))))
 (x_TIok (P := fun q => x_mok q = true) (k := 60) (x_TIok (P := fun q => x_mok q = true) (k := 59) (fun _ => (show x_mok n_59 = true by decide +kernel))
 (fun _ => (show x_mok n_60 = true by decide +kernel)))
 (x_TIok (P := fun q => x_mok q = true) (k := 61) (fun _ => (show x_mok n_61 = true by decide +kernel))
 (fun _ => (show x_mok n_62 = true by decide +kernel)))))
 (x_TIok (P := fun q => x_mok q = true) (k := 65) (x_TIok (P := fun q => x_mok q = true) (k := 63) (fun _ => (show x_mok n_63 = true by decide +kernel))
 (x_TIok (P := fun q => x_mok q = true) (k := 64) (fun _ => (show x_mok n_64 = true by decide +kernel))
 (fun _ => (show x_mok n_65 = true by decide +kernel))))
 (x_TIok (P := fun q => x_mok q = true) (k := 67) (x_TIok (P := fun q => x_mok q = true) (k := 66) (fun _ => (show x_mok n_66 = true by decide +kernel))
 (fun _ => (show x_mok n_67 = true by decide +kernel)))
 (x_TIok (P := fun q => x_mok q = true) (k := 68) (fun _ => (show x_mok n_68 = true by decide +kernel))
 (fun _ => (show x_mok n_69 = true by decide +kernel))))))
 (x_TIok (P := fun q => x_mok q = true) (k := 76) (x_TIok (P := fun q => x_mok q = true) (k := 72) (x_TIok (P := fun q => x_mok q = true) (k := 70) (fun _ => (show x_mok n_70 = true by decide +kernel))
 (x_TIok (P := fun q => x_mok q = true) (k := 71) (fun _ => (show x_mok n_71 = true by decide +kernel))
 (fun _ => (show x_mok n_72 = true by decide +kernel))))
 (x_TIok (P := fun q => x_mok q = true) (k := 74) (x_TIok (P := fun q => x_mok q = true) (k := 73) (fun _ => (show x_mok n_73 = true by decide +kernel))
 (fun _ => (show x_mok n_74 = true by decide +kernel)))
 (x_TIok (P := fun q => x_mok q = true) (k := 75) (fun _ => (show x_mok n_75 = true by decide +kernel))
 (fun _ => (show x_mok n_76 = true by decide +kernel)))))
 (x_TIok (P := fun q => x_mok q = true) (k := 79) (x_TIok (P := fun q => x_mok q = true) (k := 77) (fun _ => (show x_mok n_77 = true by decide +kernel))
 (x_TIok (P := fun q => x_mok q = true) (k := 78) (fun _ => (show x_mok n_78 = true by decide +kernel))
 (fun _ => (show x_mok n_79 = true by decide +kernel))))
 (x_TIok (P := fun q => x_mok q = true) (k := 81) (x_TIok (P := fun q => x_mok q = true) (k := 80) (fun _ => (show x_mok n_80 = true by decide +kernel))
 (fun _ => (show x_mok n_81 = true by decide +kernel)))
 (x_TIok (P := fun q => x_mok q = true) (k := 82) (fun _ => (show x_mok n_82 = true by decide +kernel))
 (fun _ => (show x_mok n_83 = true by decide +kernel)))))))
 (x_TIok (P := fun q => x_mok q = true) (k := 97) (x_TIok (P := fun q => x_mok q = true) (k := 90) (x_TIok (P := fun q => x_mok q = true) (k := 86) (x_TIok (P := fun q => x_mok q = true) (k := 84) (fun _ => (show x_mok n_84 = true by decide +kernel))
 (x_TIok (P := fun q => x_mok q = true) (k := 85) (fun _ => (show x_mok n_85 = true by decide +kernel))
 (fun _ => (show x_mok n_86 = true by decide +kernel))))
 (x_TIok (P := fun q => x_mok q = true) (k := 88) (x_TIok (P := fun q => x_mok q = true) (k := 87) (fun _ => (show x_mok n_87 = true by decide +kernel))
 (fun _ => (show x_mok n_88 = true by decide +kernel)))
 (x_TIok (P := fun q => x_mok q = true) (k := 89) (fun _ => (show x_mok n_89 = true by decide +kernel))
 (fun _ => (show x_mok n_90 = true by decide +kernel)))))
 (x_TIok (P := fun q => x_mok q = true) (k := 93) (x_TIok (P := fun q => x_mok q = true) (k := 91) (fun _ => (show x_mok n_91 = true by decide +kernel))
 (x_TIok (P := fun q => x_mok q = true) (k := 92) (fun _ => (show x_mok n_92 = true by decide +kernel))
 (fun _ => (show x_mok n_93 = true by decide +kernel))))
 (x_TIok (P := fun q => x_mok q = true) (k := 95) (x_TIok (P := fun q => x_mok q = true) (k := 94) (fun _ => (show x_mok n_94 = true by decide +kernel))
 (fun _ => (show x_mok n_95 = true by decide +kernel)))
 (x_TIok (P := fun q => x_mok q = true) (k := 96) (fun _ => (show x_mok n_96 = true by decide +kernel))
 (fun _ => (show x_mok n_97 = true by decide +kernel))))))
 (x_TIok (P := fun q => x_mok q = true) (k := 104) (x_TIok (P := fun q => x_mok q = true) (k := 100) (x_TIok (P := fun q => x_mok q = true) (k := 98) (fun _ => (show x_mok n_98 = true by decide +kernel))
 (x_TIok (P := fun q => x_mok q = true) (k := 99) (fun _ => (show x_mok n_99 = true by decide +kernel))
 (fun _ => (show x_mok n_100 = true by decide +kernel))))
 (x_TIok (P := fun q => x_mok q = true) (k := 102) (x_TIok (P := fun q => x_mok q = true) (k := 101) (fun _ => (show x_mok n_101 = true by decide +kernel))
 (fun _ => (show x_mok n_102 = true by decide +kernel)))
 (x_TIok (P := fun q => x_mok q = true) (k := 103) (fun _ => (show x_mok n_103 = true by decide +kernel))
 (fun _ => (show x_mok n_104 = true by decide +kernel)))))
 (x_TIok (P := fun q => x_mok q = true) (k := 108) (x_TIok (P := fun q => x_mok q = true) (k := 106) (x_TIok (P := fun q => x_mok q = true) (k := 105) (fun _ => (show x_mok n_105 = true by decide +kernel))
 (fun _ => (show x_mok n_106 = true by decide +kernel)))
 (x_TIok (P := fun q => x_mok q = true) (k := 107) (fun _ => (show x_mok n_107 = true by decide +kernel))
 (fun _ => (show x_mok n_108 = true by decide +kernel))))
 (x_TIok (P := fun q => x_mok q = true) (k := 110) (x_TIok (P := fun q => x_mok q = true) (k := 109) (fun _ => (show x_mok n_109 = true by decide +kernel))
 (fun _ => (show x_mok n_110 = true by decide +kernel)))
 (x_TIok (P := fun q => x_mok q = true) (k := 111) (fun _ => (show x_mok n_111 = true by decide +kernel))
 (fun _ => (show x_mok n_112 = true by decide +kernel)))))))))
 (x_TIok (P := fun q => x_mok q = true) (k := 168) (x_TIok (P := fun q => x_mok q = true) (k := 140) (x_TIok (P := fun q => x_mok q = true) (k := 126) (x_TIok (P := fun q => x_mok q = true) (k := 119) (x_TIok (P := fun q => x_mok q = true) (k := 115) (x_TIok (P := fun q => x_mok q = true) (k := 113) (fun _ => (show x_mok n_113 = true by decide +kernel))
 (x_TIok (P := fun q => x_mok q = true) (k := 114) (fun _ => (show x_mok n_114 = true by decide +kernel))
 (fun _ => (show x_mok n_115 = true by decide +kernel))))
 (x_TIok (P := fun q => x_mok q = true) (k := 117) (x_TIok (P := fun q => x_mok q = true) (k := 116) (fun _ => (show x_mok n_116 = true by decide +kernel))
 (fun _ => (show x_mok n_117 = true by decide +kernel)))
 (x_TIok (P := fun q => x_mok q = true) (k := 118) (fun _ => (show x_mok n_118 = true by decide +kernel))
 (fun _ => (show x_mok n_119 = true by decide +kernel)))))
 (x_TIok (P := fun q => x_mok q = true) (k := 122) (x_TIok (P := fun q => x_mok q = true) (k := 120) (fun _ => (show x_mok n_120 = true by decide +kernel))
 (x_TIok (P := fun q => x_mok q = true) (k := 121) (fun _ => (show x_mok n_121 = true by decide +kernel))
 (fun _ => (show x_mok n_122 = true by decide +kernel))))
 (x_TIok (P := fun q => x_mok q = true) (k := 124) (x_TIok (P := fun q => x_mok q = true) (k := 123) (fun _ => (show x_mok n_123 = true by decide +kernel))
 (fun _ => (show x_mok n_124 = true by decide +kernel)))
 (x_TIok (P := fun q => x_mok q = true) (k := 125) (fun _ => (show x_mok n_125 = true by decide +kernel))
 (fun _ => (show x_mok n_126 = true by decide +kernel))))))
 (x_TIok (P := fun q => x_mok q = true) (k := 133) (x_TIok (P := fun q => x_mok q = true) (k := 129) (x_TIok (P := fun q => x_mok q = true) (k := 127) (fun _ => (show x_mok n_127 = true by decide +kernel))
 (x_TIok (P := fun q => x_mok q = true) (k := 128) (fun _ => (show x_mok n_128 = true by decide +kernel))
 (fun _ => (show x_mok n_129 = true by decide +kernel))))
 (x_TIok (P := fun q => x_mok q = true) (k := 131) (x_TIok (P := fun q => x_mok q = true) (k := 130) (fun _ => (show x_mok n_130 = true by decide +kernel))
 (fun _ => (show x_mok n_131 = true by decide +kernel)))
 (x_TIok (P := fun q => x_mok q = true) (k := 132) (fun _ => (show x_mok n_132 = true by decide +kernel))
 (fun _ => (show x_mok n_133 = true by decide +kernel)))))
 (x_TIok (P := fun q => x_mok q = true) (k := 136) (x_TIok (P := fun q => x_mok q = true) (k := 134) (fun _ => (show x_mok n_134 = true by decide +kernel))
 (x_TIok (P := fun q => x_mok q = true) (k := 135) (fun _ => (show x_mok n_135 = true by decide +kernel))
 (fun _ => (show x_mok n_136 = true by decide +kernel))))
 (x_TIok (P := fun q => x_mok q = true) (k := 138) (x_TIok (P := fun q => x_mok q = true) (k := 137) (fun _ => (show x_mok n_137 = true by decide +kernel))
 (fun _ => (show x_mok n_138 = true by decide +kernel)))
 (x_TIok (P := fun q => x_mok q = true) (k := 139) (fun _ => (show x_mok n_139 = true by decide +kernel))
 (fun _ => (show x_mok n_140 = true by decide +kernel)))))))
 (x_TIok (P := fun q => x_mok q = true) (k := 154) (x_TIok (P := fun q => x_mok q = true) (k := 147) (x_TIok (P := fun q => x_mok q = true) (k := 143) (x_TIok (P := fun q => x_mok q = true) (k := 141) (fun _ => (show x_mok n_141 = true by decide +kernel))
 (x_TIok (P := fun q => x_mok q = true) (k := 142) (fun _ => (show x_mok n_142 = true by decide +kernel))
 (fun _ => (show x_mok n_143 = true by decide +kernel))))
 (x_TIok (P := fun q => x_mok q = true) (k := 145) (x_TIok (P := fun q => x_mok q = true) (k := 144) (fun _ => (show x_mok n_144 = true by decide +kernel))
 (fun _ => (show x_mok n_145 = true by decide +kernel)))
 (x_TIok (P := fun q => x_mok q = true) (k := 146) (fun _ => (show x_mok n_146 = true by decide +kernel))
 (fun _ => (show x_mok n_147 = true by decide +kernel)))))
 (x_TIok (P := fun q => x_mok q = true) (k := 150) (x_TIok (P := fun q => x_mok q = true) (k := 148) (fun _ => (show x_mok n_148 = true by decide +kernel))
 (x_TIok (P := fun q => x_mok q = true) (k := 149) (fun _ => (show x_mok n_149 = true by decide +kernel))
 (fun _ => (show x_mok n_150 = true by decide +kernel))))
 (x_TIok (P := fun q => x_mok q = true) (k := 152) (x_TIok (P := fun q => x_mok q = true) (k := 151) (fun _ => (show x_mok n_151 = true by decide +kernel))
 (fun _ => (show x_mok n_152 = true by decide +kernel)))
 (x_TIok (P := fun q => x_mok q = true) (k := 153) (fun _ => (show x_mok n_153 = true by decide +kernel))
 (fun _ => (show x_mok n_154 = true by decide +kernel))))))
 (x_TIok (P := fun q => x_mok q = true) (k := 161) (x_TIok (P := fun q => x_mok q = true) (k := 157) (x_TIok (P := fun q => x_mok q = true) (k := 155) (fun _ => (show x_mok n_155 = true by decide +kernel))
 (x_TIok (P := fun q => x_mok q = true) (k := 156) (fun _ => (show x_mok n_156 = true by decide +kernel))
 (fun _ => (show x_mok n_157 = true by decide +kernel))))
 (x_TIok (P := fun q => x_mok q = true) (k := 159) (x_TIok (P := fun q => x_mok q = true) (k := 158) (fun _ => (show x_mok n_158 = true by decide +kernel))
 (fun _ => (show x_mok n_159 = true by decide +kernel)))
 (x_TIok (P := fun q => x_mok q = true) (k := 160) (fun _ => (show x_mok n_160 = true by decide +kernel))
 (fun _ => (show x_mok n_161 = true by decide +kernel)))))
 (x_TIok (P := fun q => x_mok q = true) (k := 164) (x_TIok (P := fun q => x_mok q = true) (k := 162) (fun _ => (show x_mok n_162 = true by decide +kernel))
 (x_TIok (P := fun q => x_mok q = true) (k := 163) (fun _ => (show x_mok n_163 = true by decide +kernel))
 (fun _ => (show x_mok n_164 = true by decide +kernel))))
 (x_TIok (P := fun q => x_mok q = true) (k := 166) (x_TIok (P := fun q => x_mok q = true) (k := 165) (fun _ => (show x_mok n_165 = true by decide +kernel))
 (fun _ => (show x_mok n_166 = true by decide +kernel)))
 (x_TIok (P := fun q => x_mok q = true) (k := 167) (fun _ => (show x_mok n_167 = true by decide +kernel))
 (fun _ => (show x_mok n_168 = true by decide +kernel))))))))
 (x_TIok (P := fun q => x_mok q = true) (k := 196) (x_TIok (P := fun q => x_mok q = true) (k := 182) (x_TIok (P := fun q => x_mok q = true) (k := 175) (x_TIok (P := fun q => x_mok q = true) (k := 171) (x_TIok (P := fun q => x_mok q = true) (k := 169) (fun _ => (show x_mok n_169 = true by decide +kernel))
 (x_TIok (P := fun q => x_mok q = true) (k := 170) (fun _ => (show x_mok n_170 = true by decide +kernel))
 (fun _ => (show x_mok n_171 = true by decide +kernel))))
 (x_TIok (P := fun q => x_mok q = true) (k := 173) (x_TIok (P := fun q => x_mok q = true) (k := 172) (fun _ => (show x_mok n_172 = true by decide +kernel))
 (fun _ => (show x_mok n_173 = true by decide +kernel)))
 (x_TIok (P := fun q => x_mok q = true) (k := 174) (fun _ => (show x_mok n_174 = true by decide +kernel))
 (fun _ => (show x_mok n_175 = true by decide +kernel)))))
 (x_TIok (P := fun q => x_mok q = true) (k := 178) (x_TIok (P := fun q => x_mok q = true) (k := 176) (fun _ => (show x_mok n_176 = true by decide +kernel))
 (x_TIok (P := fun q => x_mok q = true) (k := 177) (fun _ => (show x_mok n_177 = true by decide +kernel))
 (fun _ => (show x_mok n_178 = true by decide +kernel))))
 (x_TIok (P := fun q => x_mok q = true) (k := 180) (x_TIok (P := fun q => x_mok q = true) (k := 179) (fun _ => (show x_mok n_179 = true by decide +kernel))
 (fun _ => (show x_mok n_180 = true by decide +kernel)))
 (x_TIok (P := fun q => x_mok q = true) (k := 181) (fun _ => (show x_mok n_181 = true by decide +kernel))
 (fun _ => (show x_mok n_182 = true by decide +kernel))))))
 (x_TIok (P := fun q => x_mok q = true) (k := 189) (x_TIok (P := fun q => x_mok q = true) (k := 185) (x_TIok (P := fun q => x_mok q = true) (k := 183) (fun _ => (show x_mok n_183 = true by decide +kernel))
 (x_TIok (P := fun q => x_mok q = true) (k := 184) (fun _ => (show x_mok n_184 = true by decide +kernel))
 (fun _ => (show x_mok n_185 = true by decide +kernel))))
 (x_TIok (P := fun q => x_mok q = true) (k := 187) (x_TIok (P := fun q => x_mok q = true) (k := 186) (fun _ => (show x_mok n_186 = true by decide +kernel))
 (fun _ => (show x_mok n_187 = true by decide +kernel)))
 (x_TIok (P := fun q => x_mok q = true) (k := 188) (fun _ => (show x_mok n_188 = true by decide +kernel))
 (fun _ => (show x_mok n_189 = true by decide +kernel)))))
 (x_TIok (P := fun q => x_mok q = true) (k := 192) (x_TIok (P := fun q => x_mok q = true) (k := 190) (fun _ => (show x_mok n_190 = true by decide +kernel))
 (x_TIok (P := fun q => x_mok q = true) (k := 191) (fun _ => (show x_mok n_191 = true by decide +kernel))
 (fun _ => (show x_mok n_192 = true by decide +kernel))))
 (x_TIok (P := fun q => x_mok q = true) (k := 194) (x_TIok (P := fun q => x_mok q = true) (k := 193) (fun _ => (show x_mok n_193 = true by decide +kernel))
 (fun _ => (show x_mok n_194 = true by decide +kernel)))
 (x_TIok (P := fun q => x_mok q = true) (k := 195) (fun _ => (show x_mok n_195 = true by decide +kernel))
 (fun _ => (show x_mok n_196 = true by decide +kernel)))))))
 (x_TIok (P := fun q => x_mok q = true) (k := 210) (x_TIok (P := fun q => x_mok q = true) (k := 203) (x_TIok (P := fun q => x_mok q = true) (k := 199) (x_TIok (P := fun q => x_mok q = true) (k := 197) (fun _ => (show x_mok n_197 = true by decide +kernel))
 (x_TIok (P := fun q => x_mok q = true) (k := 198) (fun _ => (show x_mok n_198 = true by decide +kernel))
 (fun _ => (show x_mok n_199 = true by decide +kernel))))
 (x_TIok (P := fun q => x_mok q = true) (k := 201) (x_TIok (P := fun q => x_mok q = true) (k := 200) (fun _ => (show x_mok n_200 = true by decide +kernel))
 (fun _ => (show x_mok n_201 = true by decide +kernel)))
 (x_TIok (P := fun q => x_mok q = true) (k := 202) (fun _ => (show x_mok n_202 = true by decide +kernel))
 (fun _ => (show x_mok n_203 = true by decide +kernel)))))
 (x_TIok (P := fun q => x_mok q = true) (k := 206) (x_TIok (P := fun q => x_mok q = true) (k := 204) (fun _ => (show x_mok n_204 = true by decide +kernel))
 (x_TIok (P := fun q => x_mok q = true) (k := 205) (fun _ => (show x_mok n_205 = true by decide +kernel))
 (fun _ => (show x_mok n_206 = true by decide +kernel))))
 (x_TIok (P := fun q => x_mok q = true) (k := 208) (x_TIok (P := fun q => x_mok q = true) (k := 207) (fun _ => (show x_mok n_207 = true by decide +kernel))
 (fun _ => (show x_mok n_208 = true by decide +kernel)))
 (x_TIok (P := fun q => x_mok q = true) (k := 209) (fun _ => (show x_mok n_209 = true by decide +kernel))
 (fun _ => (show x_mok n_210 = true by decide +kernel))))))
 (x_TIok (P := fun q => x_mok q = true) (k := 217) (x_TIok (P := fun q => x_mok q = true) (k := 213) (x_TIok (P := fun q => x_mok q = true) (k := 211) (fun _ => (show x_mok n_211 = true by decide +kernel))
 (x_TIok (P := fun q => x_mok q = true) (k := 212) (fun _ => (show x_mok n_212 = true by decide +kernel))
 (fun _ => (show x_mok n_213 = true by decide +kernel))))
 (x_TIok (P := fun q => x_mok q = true) (k := 215) (x_TIok (P := fun q => x_mok q = true) (k := 214) (fun _ => (show x_mok n_214 = true by decide +kernel))
 (fun _ => (show x_mok n_215 = true by decide +kernel)))
 (x_TIok (P := fun q => x_mok q = true) (k := 216) (fun _ => (show x_mok n_216 = true by decide +kernel))
 (fun _ => (show x_mok n_217 = true by decide +kernel)))))
 (x_TIok (P := fun q => x_mok q = true) (k := 221) (x_TIok (P := fun q => x_mok q = true) (k := 219) (x_TIok (P := fun q => x_mok q = true) (k := 218) (fun _ => (show x_mok n_218 = true by decide +kernel))
 (fun _ => (show x_mok n_219 = true by decide +kernel)))
 (x_TIok (P := fun q => x_mok q = true) (k := 220) (fun _ => (show x_mok n_220 = true by decide +kernel))
 (fun _ => (show x_mok n_221 = true by decide +kernel))))
 (x_TIok (P := fun q => x_mok q = true) (k := 223) (x_TIok (P := fun q => x_mok q = true) (k := 222) (fun _ => (show x_mok n_222 = true by decide +kernel))
 (fun _ => (show x_mok n_223 = true by decide +kernel)))
 (x_TIok (P := fun q => x_mok q = true) (k := 224) (fun _ => (show x_mok n_224 = true by decide +kernel))
 (fun _ => (show x_mok n_225 = true by decide +kernel))))))))))
 (x_TIok (P := fun q => x_mok q = true) (k := 338) (x_TIok (P := fun q => x_mok q = true) (k := 281) (x_TIok (P := fun q => x_mok q = true) (k := 253) (x_TIok (P := fun q => x_mok q = true) (k := 239) (x_TIok (P := fun q => x_mok q = true) (k := 232) (x_TIok (P := fun q => x_mok q = true) (k := 228) (x_TIok (P := fun q => x_mok q = true) (k := 226) (fun _ => (show x_mok n_226 = true by decide +kernel))
 (x_TIok (P := fun q => x_mok q = true) (k := 227) (fun _ => (show x_mok n_227 = true by decide +kernel))
 (fun _ => (show x_mok n_228 = true by decide +kernel))))
 (x_TIok (P := fun q => x_mok q = true) (k := 230) (x_TIok (P := fun q => x_mok q = true) (k := 229) (fun _ => (show x_mok n_229 = true by decide +kernel))
 (fun _ => (show x_mok n_230 = true by decide +kernel)))
 (x_TIok (P := fun q => x_mok q = true) (k := 231) (fun _ => (show x_mok n_231 = true by decide +kernel))
 (fun _ => (show x_mok n_232 = true by decide +kernel)))))
 (x_TIok (P := fun q => x_mok q = true) (k := 235) (x_TIok (P := fun q => x_mok q = true) (k := 233) (fun _ => (show x_mok n_233 = true by decide +kernel))
 (x_TIok (P := fun q => x_mok q = true) (k := 234) (fun _ => (show x_mok n_234 = true by decide +kernel))
 (fun _ => (show x_mok n_235 = true by decide +kernel))))
 (x_TIok (P := fun q => x_mok q = true) (k := 237) (x_TIok (P := fun q => x_mok q = true) (k := 236) (fun _ => (show x_mok n_236 = true by decide +kernel))
 (fun _ => (show x_mok n_237 = true by decide +kernel)))
 (x_TIok (P := fun q => x_mok q = true) (k := 238) (fun _ => (show x_mok n_238 = true by decide +kernel))
 (fun _ => (show x_mok n_239 = true by decide +kernel))))))
 (x_TIok (P := fun q => x_mok q = true) (k := 246) (x_TIok (P := fun q => x_mok q = true) (k := 242) (x_TIok (P := fun q => x_mok q = true) (k := 240) (fun _ => (show x_mok n_240 = true by decide +kernel))
 (x_TIok (P := fun q => x_mok q = true) (k := 241) (fun _ => (show x_mok n_241 = true by decide +kernel))
 (fun _ => (show x_mok n_242 = true by decide +kernel))))
 (x_TIok (P := fun q => x_mok q = true) (k := 244) (x_TIok (P := fun q => x_mok q = true) (k := 243) (fun _ => (show x_mok n_243 = true by decide +kernel))
 (fun _ => (show x_mok n_244 = true by decide +kernel)))
 (x_TIok (P := fun q => x_mok q = true) (k := 245) (fun _ => (show x_mok n_245 = true by decide +kernel))
 (fun _ => (show x_mok n_246 = true by decide +kernel)))))
 (x_TIok (P := fun q => x_mok q = true) (k := 249) (x_TIok (P := fun q => x_mok q = true) (k := 247) (fun _ => (show x_mok n_247 = true by decide +kernel))
 (x_TIok (P := fun q => x_mok q = true) (k := 248) (fun _ => (show x_mok n_248 = true by decide +kernel))
 (fun _ => (show x_mok n_249 = true by decide +kernel))))
 (x_TIok (P := fun q => x_mok q = true) (k := 251) (x_TIok (P := fun q => x_mok q = true) (k := 250) (fun _ => (show x_mok n_250 = true by decide +kernel))
 (fun _ => (show x_mok n_251 = true by decide +kernel)))
 (x_TIok (P := fun q => x_mok q = true) (k := 252) (fun _ => (show x_mok n_252 = true by decide +kernel))
 (fun _ => (show x_mok n_253 = true by decide +kernel)))))))
 (x_TIok (P := fun q => x_mok q = true) (k := 267) (x_TIok (P := fun q => x_mok q = true) (k := 260) (x_TIok (P := fun q => x_mok q = true) (k := 256) (x_TIok (P := fun q => x_mok q = true) (k := 254) (fun _ => (show x_mok n_254 = true by decide +kernel))
 (x_TIok (P := fun q => x_mok q = true) (k := 255) (fun _ => (show x_mok n_255 = true by decide +kernel))
 (fun _ => (show x_mok n_256 = true by decide +kernel))))
 (x_TIok (P := fun q => x_mok q = true) (k := 258) (x_TIok (P := fun q => x_mok q = true) (k := 257) (fun _ => (show x_mok n_257 = true by decide +kernel))
 (fun _ => (show x_mok n_258 = true by decide +kernel)))
 (x_TIok (P := fun q => x_mok q = true) (k := 259) (fun _ => (show x_mok n_259 = true by decide +kernel))
 (fun _ => (show x_mok n_260 = true by decide +kernel)))))
 (x_TIok (P := fun q => x_mok q = true) (k := 263) (x_TIok (P := fun q => x_mok q = true) (k := 261) (fun _ => (show x_mok n_261 = true by decide +kernel))
 (x_TIok (P := fun q => x_mok q = true) (k := 262) (fun _ => (show x_mok n_262 = true by decide +kernel))
 (fun _ => (show x_mok n_263 = true by decide +kernel))))
 (x_TIok (P := fun q => x_mok q = true) (k := 265) (x_TIok (P := fun q => x_mok q = true) (k := 264) (fun _ => (show x_mok n_264 = true by decide +kernel))
 (fun _ => (show x_mok n_265 = true by decide +kernel)))
 (x_TIok (P := fun q => x_mok q = true) (k := 266) (fun _ => (show x_mok n_266 = true by decide +kernel))
 (fun _ => (show x_mok n_267 = true by decide +kernel))))))
 (x_TIok (P := fun q => x_mok q = true) (k := 274) (x_TIok (P := fun q => x_mok q = true) (k := 270) (x_TIok (P := fun q => x_mok q = true) (k := 268) (fun _ => (show x_mok n_268 = true by decide +kernel))
 (x_TIok (P := fun q => x_mok q = true) (k := 269) (fun _ => (show x_mok n_269 = true by decide +kernel))
 (fun _ => (show x_mok n_270 = true by decide +kernel))))
 (x_TIok (P := fun q => x_mok q = true) (k := 272) (x_TIok (P := fun q => x_mok q = true) (k := 271) (fun _ => (show x_mok n_271 = true by decide +kernel))
 (fun _ => (show x_mok n_272 = true by decide +kernel)))
 (x_TIok (P := fun q => x_mok q = true) (k := 273) (fun _ => (show x_mok n_273 = true by decide +kernel))
 (fun _ => (show x_mok n_274 = true by decide +kernel)))))
 (x_TIok (P := fun q => x_mok q = true) (k := 277) (x_TIok (P := fun q => x_mok q = true) (k := 275) (fun _ => (show x_mok n_275 = true by decide +kernel))
 (x_TIok (P := fun q => x_mok q = true) (k := 276) (fun _ => (show x_mok n_276 = true by decide +kernel))
 (fun _ => (show x_mok n_277 = true by decide +kernel))))
 (x_TIok (P := fun q => x_mok q = true) (k := 279) (x_TIok (P := fun q => x_mok q = true) (k := 278) (fun _ => (show x_mok n_278 = true by decide +kernel))
 (fun _ => (show x_mok n_279 = true by decide +kernel)))
 (x_TIok (P := fun q => x_mok q = true) (k := 280) (fun _ => (show x_mok n_280 = true by decide +kernel))
 (fun _ => (show x_mok n_281 = true by decide +kernel))))))))
 (x_TIok (P := fun q => x_mok q = true) (k := 309) (x_TIok (P := fun q => x_mok q = true) (k := 295) (x_TIok (P := fun q => x_mok q = true) (k := 288) (x_TIok (P := fun q => x_mok q = true) (k := 284) (x_TIok (P := fun q => x_mok q = true) (k := 282) (fun _ => (show x_mok n_282 = true by decide +kernel))
 (x_TIok (P := fun q => x_mok q = true) (k := 283) (fun _ => (show x_mok n_283 = true by decide +kernel))
 (fun _ => (show x_mok n_284 = true by decide +kernel))))
 (x_TIok (P := fun q => x_mok q = true) (k := 286) (x_TIok (P := fun q => x_mok q = true) (k := 285) (fun _ => (show x_mok n_285 = true by decide +kernel))
 (fun _ => (show x_mok n_286 = true by decide +kernel)))
 (x_TIok (P := fun q => x_mok q = true) (k := 287) (fun _ => (show x_mok n_287 = true by decide +kernel))
 (fun _ => (show x_mok n_288 = true by decide +kernel)))))
 (x_TIok (P := fun q => x_mok q = true) (k := 291) (x_TIok (P := fun q => x_mok q = true) (k := 289) (fun _ => (show x_mok n_289 = true by decide +kernel))
 (x_TIok (P := fun q => x_mok q = true) (k := 290) (fun _ => (show x_mok n_290 = true by decide +kernel))
 (fun _ => (show x_mok n_291 = true by decide +kernel))))
 (x_TIok (P := fun q => x_mok q = true) (k := 293) (x_TIok (P := fun q => x_mok q = true) (k := 292) (fun _ => (show x_mok n_292 = true by decide +kernel))
 (fun _ => (show x_mok n_293 = true by decide +kernel)))
 (x_TIok (P := fun q => x_mok q = true) (k := 294) (fun _ => (show x_mok n_294 = true by decide +kernel))
 (fun _ => (show x_mok n_295 = true by decide +kernel))))))
 (x_TIok (P := fun q => x_mok q = true) (k := 302) (x_TIok (P := fun q => x_mok q = true) (k := 298) (x_TIok (P := fun q => x_mok q = true) (k := 296) (fun _ => (show x_mok n_296 = true by decide +kernel))
 (x_TIok (P := fun q => x_mok q = true) (k := 297) (fun _ => (show x_mok n_297 = true by decide +kernel))
 (fun _ => (show x_mok n_298 = true by decide +kernel))))
 (x_TIok (P := fun q => x_mok q = true) (k := 300) (x_TIok (P := fun q => x_mok q = true) (k := 299) (fun _ => (show x_mok n_299 = true by decide +kernel))
 (fun _ => (show x_mok n_300 = true by decide +kernel)))
 (x_TIok (P := fun q => x_mok q = true) (k := 301) (fun _ => (show x_mok n_301 = true by decide +kernel))
 (fun _ => (show x_mok n_302 = true by decide +kernel)))))
 (x_TIok (P := fun q => x_mok q = true) (k := 305) (x_TIok (P := fun q => x_mok q = true) (k := 303) (fun _ => (show x_mok n_303 = true by decide +kernel))
 (x_TIok (P := fun q => x_mok q = true) (k := 304) (fun _ => (show x_mok n_304 = true by decide +kernel))
 (fun _ => (show x_mok n_305 = true by decide +kernel))))
 (x_TIok (P := fun q => x_mok q = true) (k := 307) (x_TIok (P := fun q => x_mok q = true) (k := 306) (fun _ => (show x_mok n_306 = true by decide +kernel))
 (fun _ => (show x_mok n_307 = true by decide +kernel)))
 (x_TIok (P := fun q => x_mok q = true) (k := 308) (fun _ => (show x_mok n_308 = true by decide +kernel))
 (fun _ => (show x_mok n_309 = true by decide +kernel)))))))
 (x_TIok (P := fun q => x_mok q = true) (k := 323) (x_TIok (P := fun q => x_mok q = true) (k := 316) (x_TIok (P := fun q => x_mok q = true) (k := 312) (x_TIok (P := fun q => x_mok q = true) (k := 310) (fun _ => (show x_mok n_310 = true by decide +kernel))
 (x_TIok (P := fun q => x_mok q = true) (k := 311) (fun _ => (show x_mok n_311 = true by decide +kernel))
 (fun _ => (show x_mok n_312 = true by decide +kernel))))
 (x_TIok (P := fun q => x_mok q = true) (k := 314) (x_TIok (P := fun q => x_mok q = true) (k := 313) (fun _ => (show x_mok n_313 = true by decide +kernel))
 (fun _ => (show x_mok n_314 = true by decide +kernel)))
 (x_TIok (P := fun q => x_mok q = true) (k := 315) (fun _ => (show x_mok n_315 = true by decide +kernel))
 (fun _ => (show x_mok n_316 = true by decide +kernel)))))
 (x_TIok (P := fun q => x_mok q = true) (k := 319) (x_TIok (P := fun q => x_mok q = true) (k := 317) (fun _ => (show x_mok n_317 = true by decide +kernel))
 (x_TIok (P := fun q => x_mok q = true) (k := 318) (fun _ => (show x_mok n_318 = true by decide +kernel))
 (fun _ => (show x_mok n_319 = true by decide +kernel))))
 (x_TIok (P := fun q => x_mok q = true) (k := 321) (x_TIok (P := fun q => x_mok q = true) (k := 320) (fun _ => (show x_mok n_320 = true by decide +kernel))
 (fun _ => (show x_mok n_321 = true by decide +kernel)))
 (x_TIok (P := fun q => x_mok q = true) (k := 322) (fun _ => (show x_mok n_322 = true by decide +kernel))
 (fun _ => (show x_mok n_323 = true by decide +kernel))))))
 (x_TIok (P := fun q => x_mok q = true) (k := 330) (x_TIok (P := fun q => x_mok q = true) (k := 326) (x_TIok (P := fun q => x_mok q = true) (k := 324) (fun _ => (show x_mok n_324 = true by decide +kernel))
 (x_TIok (P := fun q => x_mok q = true) (k := 325) (fun _ => (show x_mok n_325 = true by decide +kernel))
 (fun _ => (show x_mok n_326 = true by decide +kernel))))
 (x_TIok (P := fun q => x_mok q = true) (k := 328) (x_TIok (P := fun q => x_mok q = true) (k := 327) (fun _ => (show x_mok n_327 = true by decide +kernel))
 (fun _ => (show x_mok n_328 = true by decide +kernel)))
 (x_TIok (P := fun q => x_mok q = true) (k := 329) (fun _ => (show x_mok n_329 = true by decide +kernel))
 (fun _ => (show x_mok n_330 = true by decide +kernel)))))
 (x_TIok (P := fun q => x_mok q = true) (k := 334) (x_TIok (P := fun q => x_mok q = true) (k := 332) (x_TIok (P := fun q => x_mok q = true) (k := 331) (fun _ => (show x_mok n_331 = true by decide +kernel))
 (fun _ => (show x_mok n_332 = true by decide +kernel)))
 (x_TIok (P := fun q => x_mok q = true) (k := 333) (fun _ => (show x_mok n_333 = true by decide +kernel))
 (fun _ => (show x_mok n_334 = true by decide +kernel))))
 (x_TIok (P := fun q => x_mok q = true) (k := 336) (x_TIok (P := fun q => x_mok q = true) (k := 335) (fun _ => (show x_mok n_335 = true by decide +kernel))
 (fun _ => (show x_mok n_336 = true by decide +kernel)))
 (x_TIok (P := fun q => x_mok q = true) (k := 337) (fun _ => (show x_mok n_337 = true by decide +kernel))
 (fun _ => (show x_mok n_338 = true by decide +kernel)))))))))
 (x_TIok (P := fun q => x_mok q = true) (k := 395) (x_TIok (P := fun q => x_mok q = true) (k := 366) (x_TIok (P := fun q => x_mok q = true) (k := 352) (x_TIok (P := fun q => x_mok q = true) (k := 345) (x_TIok (P := fun q => x_mok q = true) (k := 341) (x_TIok (P := fun q => x_mok q = true) (k := 339) (fun _ => (show x_mok n_339 = true by decide +kernel))
 (x_TIok (P := fun q => x_mok q = true) (k := 340) (fun _ => (show x_mok n_340 = true by decide +kernel))
 (fun _ => (show x_mok n_341 = true by decide +kernel))))
 (x_TIok (P := fun q => x_mok q = true) (k := 343) (x_TIok (P := fun q => x_mok q = true) (k := 342) (fun _ => (show x_mok n_342 = true by decide +kernel))
 (fun _ => (show x_mok n_343 = true by decide +kernel)))
 (x_TIok (P := fun q => x_mok q = true) (k := 344) (fun _ => (show x_mok n_344 = true by decide +kernel))
 (fun _ => (show x_mok n_345 = true by decide +kernel)))))
 (x_TIok (P := fun q => x_mok q = true) (k := 348) (x_TIok (P := fun q => x_mok q = true) (k := 346) (fun _ => (show x_mok n_346 = true by decide +kernel))
 (x_TIok (P := fun q => x_mok q = true) (k := 347) (fun _ => (show x_mok n_347 = true by decide +kernel))
 (fun _ => (show x_mok n_348 = true by decide +kernel))))
 (x_TIok (P := fun q => x_mok q = true) (k := 350) (x_TIok (P := fun q => x_mok q = true) (k := 349) (fun _ => (show x_mok n_349 = true by decide +kernel))
 (fun _ => (show x_mok n_350 = true by decide +kernel)))
 (x_TIok (P := fun q => x_mok q = true) (k := 351) (fun _ => (show x_mok n_351 = true by decide +kernel))
 (fun _ => (show x_mok n_352 = true by decide +kernel))))))
 (x_TIok (P := fun q => x_mok q = true) (k := 359) (x_TIok (P := fun q => x_mok q = true) (k := 355) (x_TIok (P := fun q => x_mok q = true) (k := 353) (fun _ => (show x_mok n_353 = true by decide +kernel))
 (x_TIok (P := fun q => x_mok q = true) (k := 354) (fun _ => (show x_mok n_354 = true by decide +kernel))
 (fun _ => (show x_mok n_355 = true by decide +kernel))))
 (x_TIok (P := fun q => x_mok q = true) (k := 357) (x_TIok (P := fun q => x_mok q = true) (k := 356) (fun _ => (show x_mok n_356 = true by decide +kernel))
 (fun _ => (show x_mok n_357 = true by decide +kernel)))
 (x_TIok (P := fun q => x_mok q = true) (k := 358) (fun _ => (show x_mok n_358 = true by decide +kernel))
 (fun _ => (show x_mok n_359 = true by decide +kernel)))))
 (x_TIok (P := fun q => x_mok q = true) (k := 362) (x_TIok (P := fun q => x_mok q = true) (k := 360) (fun _ => (show x_mok n_360 = true by decide +kernel))
 (x_TIok (P := fun q => x_mok q = true) (k := 361) (fun _ => (show x_mok n_361 = true by decide +kernel))
 (fun _ => (show x_mok n_362 = true by decide +kernel))))
 (x_TIok (P := fun q => x_mok q = true) (k := 364) (x_TIok (P := fun q => x_mok q = true) (k := 363) (fun _ => (show x_mok n_363 = true by decide +kernel))
 (fun _ => (show x_mok n_364 = true by decide +kernel)))
 (x_TIok (P := fun q => x_mok q = true) (k := 365) (fun _ => (show x_mok n_365 = true by decide +kernel))
 (fun _ => (show x_mok n_366 = true by decide +kernel)))))))
 (x_TIok (P := fun q => x_mok q = true) (k := 380) (x_TIok (P := fun q => x_mok q = true) (k := 373) (x_TIok (P := fun q => x_mok q = true) (k := 369) (x_TIok (P := fun q => x_mok q = true) (k := 367) (fun _ => (show x_mok n_367 = true by decide +kernel))
 (x_TIok (P := fun q => x_mok q = true) (k := 368) (fun _ => (show x_mok n_368 = true by decide +kernel))
 (fun _ => (show x_mok n_369 = true by decide +kernel))))
 (x_TIok (P := fun q => x_mok q = true) (k := 371) (x_TIok (P := fun q => x_mok q = true) (k := 370) (fun _ => (show x_mok n_370 = true by decide +kernel))
 (fun _ => (show x_mok n_371 = true by decide +kernel)))
 (x_TIok (P := fun q => x_mok q = true) (k := 372) (fun _ => (show x_mok n_372 = true by decide +kernel))
 (fun _ => (show x_mok n_373 = true by decide +kernel)))))
 (x_TIok (P := fun q => x_mok q = true) (k := 376) (x_TIok (P := fun q => x_mok q = true) (k := 374) (fun _ => (show x_mok n_374 = true by decide +kernel))
 (x_TIok (P := fun q => x_mok q = true) (k := 375) (fun _ => (show x_mok n_375 = true by decide +kernel))
 (fun _ => (show x_mok n_376 = true by decide +kernel))))
 (x_TIok (P := fun q => x_mok q = true) (k := 378) (x_TIok (P := fun q => x_mok q = true) (k := 377) (fun _ => (show x_mok n_377 = true by decide +kernel))
 (fun _ => (show x_mok n_378 = true by decide +kernel)))
 (x_TIok (P := fun q => x_mok q = true) (k := 379) (fun _ => (show x_mok n_379 = true by decide +kernel))
 (fun _ => (show x_mok n_380 = true by decide +kernel))))))
 (x_TIok (P := fun q => x_mok q = true) (k := 387) (x_TIok (P := fun q => x_mok q = true) (k := 383) (x_TIok (P := fun q => x_mok q = true) (k := 381) (fun _ => (show x_mok n_381 = true by decide +kernel))
 (x_TIok (P := fun q => x_mok q = true) (k := 382) (fun _ => (show x_mok n_382 = true by decide +kernel))
 (fun _ => (show x_mok n_383 = true by decide +kernel))))
 (x_TIok (P := fun q => x_mok q = true) (k := 385) (x_TIok (P := fun q => x_mok q = true) (k := 384) (fun _ => (show x_mok n_384 = true by decide +kernel))
 (fun _ => (show x_mok n_385 = true by decide +kernel)))
 (x_TIok (P := fun q => x_mok q = true) (k := 386) (fun _ => (show x_mok n_386 = true by decide +kernel))
 (fun _ => (show x_mok n_387 = true by decide +kernel)))))
 (x_TIok (P := fun q => x_mok q = true) (k := 391) (x_TIok (P := fun q => x_mok q = true) (k := 389) (x_TIok (P := fun q => x_mok q = true) (k := 388) (fun _ => (show x_mok n_388 = true by decide +kernel))
 (fun _ => (show x_mok n_389 = true by decide +kernel)))
 (x_TIok (P := fun q => x_mok q = true) (k := 390) (fun _ => (show x_mok n_390 = true by decide +kernel))
 (fun _ => (show x_mok n_391 = true by decide +kernel))))
 (x_TIok (P := fun q => x_mok q = true) (k := 393) (x_TIok (P := fun q => x_mok q = true) (k := 392) (fun _ => (show x_mok n_392 = true by decide +kernel))
 (fun _ => (show x_mok n_393 = true by decide +kernel)))
 (x_TIok (P := fun q => x_mok q = true) (k := 394) (fun _ => (show x_mok n_394 = true by decide +kernel))
 (fun _ => (show x_mok n_395 = true by decide +kernel))))))))
 (x_TIok (P := fun q => x_mok q = true) (k := 423) (x_TIok (P := fun q => x_mok q = true) (k := 409) (x_TIok (P := fun q => x_mok q = true) (k := 402) (x_TIok (P := fun q => x_mok q = true) (k := 398) (x_TIok (P := fun q => x_mok q = true) (k := 396) (fun _ => (show x_mok n_396 = true by decide +kernel))
 (x_TIok (P := fun q => x_mok q = true) (k := 397) (fun _ => (show x_mok n_397 = true by decide +kernel))
 (fun _ => (show x_mok n_398 = true by decide +kernel))))
 (x_TIok (P := fun q => x_mok q = true) (k := 400) (x_TIok (P := fun q => x_mok q = true) (k := 399) (fun _ => (show x_mok n_399 = true by decide +kernel))
 (fun _ => (show x_mok n_400 = true by decide +kernel)))
 (x_TIok (P := fun q => x_mok q = true) (k := 401) (fun _ => (show x_mok n_401 = true by decide +kernel))
 (fun _ => (show x_mok n_402 = true by decide +kernel)))))
 (x_TIok (P := fun q => x_mok q = true) (k := 405) (x_TIok (P := fun q => x_mok q = true) (k := 403) (fun _ => (show x_mok n_403 = true by decide +kernel))
 (x_TIok (P := fun q => x_mok q = true) (k := 404) (fun _ => (show x_mok n_404 = true by decide +kernel))
 (fun _ => (show x_mok n_405 = true by decide +kernel))))
 (x_TIok (P := fun q => x_mok q = true) (k := 407) (x_TIok (P := fun q => x_mok q = true) (k := 406) (fun _ => (show x_mok n_406 = true by decide +kernel))
 (fun _ => (show x_mok n_407 = true by decide +kernel)))
 (x_TIok (P := fun q => x_mok q = true) (k := 408) (fun _ => (show x_mok n_408 = true by decide +kernel))
 (fun _ => (show x_mok n_409 = true by decide +kernel))))))
 (x_TIok (P := fun q => x_mok q = true) (k := 416) (x_TIok (P := fun q => x_mok q = true) (k := 412) (x_TIok (P := fun q => x_mok q = true) (k := 410) (fun _ => (show x_mok n_410 = true by decide +kernel))
 (x_TIok (P := fun q => x_mok q = true) (k := 411) (fun _ => (show x_mok n_411 = true by decide +kernel))
 (fun _ => (show x_mok n_412 = true by decide +kernel))))
 (x_TIok (P := fun q => x_mok q = true) (k := 414) (x_TIok (P := fun q => x_mok q = true) (k := 413) (fun _ => (show x_mok n_413 = true by decide +kernel))
 (fun _ => (show x_mok n_414 = true by decide +kernel)))
 (x_TIok (P := fun q => x_mok q = true) (k := 415) (fun _ => (show x_mok n_415 = true by decide +kernel))
 (fun _ => (show x_mok n_416 = true by decide +kernel)))))
 (x_TIok (P := fun q => x_mok q = true) (k := 419) (x_TIok (P := fun q => x_mok q = true) (k := 417) (fun _ => (show x_mok n_417 = true by decide +kernel))
 (x_TIok (P := fun q => x_mok q = true) (k := 418) (fun _ => (show x_mok n_418 = true by decide +kernel))
 (fun _ => (show x_mok n_419 = true by decide +kernel))))
 (x_TIok (P := fun q => x_mok q = true) (k := 421) (x_TIok (P := fun q => x_mok q = true) (k := 420) (fun _ => (show x_mok n_420 = true by decide +kernel))
 (fun _ => (show x_mok n_421 = true by decide +kernel)))
 (x_TIok (P := fun q => x_mok q = true) (k := 422) (fun _ => (show x_mok n_422 = true by decide +kernel))
 (fun _ => (show x_mok n_423 = true by decide +kernel)))))))
 (x_TIok (P := fun q => x_mok q = true) (k := 437) (x_TIok (P := fun q => x_mok q = true) (k := 430) (x_TIok (P := fun q => x_mok q = true) (k := 426) (x_TIok (P := fun q => x_mok q = true) (k := 424) (fun _ => (show x_mok n_424 = true by decide +kernel))
 (x_TIok (P := fun q => x_mok q = true) (k := 425) (fun _ => (show x_mok n_425 = true by decide +kernel))
 (fun _ => (show x_mok n_426 = true by decide +kernel))))
 (x_TIok (P := fun q => x_mok q = true) (k := 428) (x_TIok (P := fun q => x_mok q = true) (k := 427) (fun _ => (show x_mok n_427 = true by decide +kernel))
 (fun _ => (show x_mok n_428 = true by decide +kernel)))
 (x_TIok (P := fun q => x_mok q = true) (k := 429) (fun _ => (show x_mok n_429 = true by decide +kernel))
 (fun _ => (show x_mok n_430 = true by decide +kernel)))))
 (x_TIok (P := fun q => x_mok q = true) (k := 433) (x_TIok (P := fun q => x_mok q = true) (k := 431) (fun _ => (show x_mok n_431 = true by decide +kernel))
 (x_TIok (P := fun q => x_mok q = true) (k := 432) (fun _ => (show x_mok n_432 = true by decide +kernel))
 (fun _ => (show x_mok n_433 = true by decide +kernel))))
 (x_TIok (P := fun q => x_mok q = true) (k := 435) (x_TIok (P := fun q => x_mok q = true) (k := 434) (fun _ => (show x_mok n_434 = true by decide +kernel))
 (fun _ => (show x_mok n_435 = true by decide +kernel)))
 (x_TIok (P := fun q => x_mok q = true) (k := 436) (fun _ => (show x_mok n_436 = true by decide +kernel))
 (fun _ => (show x_mok n_437 = true by decide +kernel))))))
 (x_TIok (P := fun q => x_mok q = true) (k := 444) (x_TIok (P := fun q => x_mok q = true) (k := 440) (x_TIok (P := fun q => x_mok q = true) (k := 438) (fun _ => (show x_mok n_438 = true by decide +kernel))
 (x_TIok (P := fun q => x_mok q = true) (k := 439) (fun _ => (show x_mok n_439 = true by decide +kernel))
 (fun _ => (show x_mok n_440 = true by decide +kernel))))
 (x_TIok (P := fun q => x_mok q = true) (k := 442) (x_TIok (P := fun q => x_mok q = true) (k := 441) (fun _ => (show x_mok n_441 = true by decide +kernel))
 (fun _ => (show x_mok n_442 = true by decide +kernel)))
 (x_TIok (P := fun q => x_mok q = true) (k := 443) (fun _ => (show x_mok n_443 = true by decide +kernel))
 (fun _ => (show x_mok n_444 = true by decide +kernel)))))
 (x_TIok (P := fun q => x_mok q = true) (k := 448) (x_TIok (P := fun q => x_mok q = true) (k := 446) (x_TIok (P := fun q => x_mok q = true) (k := 445) (fun _ => (show x_mok n_445 = true by decide +kernel))
 (fun _ => (show x_mok n_446 = true by decide +kernel)))
 (x_TIok (P := fun q => x_mok q = true) (k := 447) (fun _ => (show x_mok n_447 = true by decide +kernel))
 (fun _ => (show x_mok n_448 = true by decide +kernel))))
 (x_TIok (P := fun q => x_mok q = true) (k := 450) (x_TIok (P := fun q => x_mok q = true) (k := 449) (fun _ => (show x_mok n_449 = true by decide +kernel))
 (fun _ => (show x_mok n_450 = true by decide +kernel)))
 (x_TIok (P := fun q => x_mok q = true) (k := 451) (fun _ => (show x_mok n_451 = true by decide +kernel))
 (fun _ => (show x_mok n_452 = true by decide +kernel)))))))))))
set_option maxRecDepth 20000 in
set_option maxHeartbeats 4000000 in
theorem e_tr_ok : ∀ M pc, e_EOq eft cls elay eI (eI M) pc (ecode0 M pc) := (e_TTok (k := 225) (e_TTok (k := 112) (e_TTok (k := 55) (e_TTok (k := 27) (e_TTok (k := 13) (e_TTok (k := 6) (e_TTok (k := 2) (e_TTok (k := 0) (fun _ _ => trivial)
 (e_TTok (k := 1) (fun _ pc => te_1_ok pc)
 (fun _ pc => te_2_ok pc)))
 (e_TTok (k := 4) (e_TTok (k := 3) (fun _ pc => te_3_ok pc)
 (fun _ pc => te_4_ok pc))
 (e_TTok (k := 5) (fun _ pc => te_5_ok pc)
 (fun _ pc => te_6_ok pc))))
 (e_TTok (k := 9) (e_TTok (k := 7) (fun _ pc => te_7_ok pc)
 (e_TTok (k := 8) (fun _ pc => te_8_ok pc)
 (fun _ pc => te_9_ok pc)))
 (e_TTok (k := 11) (e_TTok (k := 10) (fun _ pc => te_10_ok pc)
 (fun _ pc => te_11_ok pc))
 (e_TTok (k := 12) (fun _ pc => te_12_ok pc)
 (fun _ pc => te_13_ok pc)))))
 (e_TTok (k := 20) (e_TTok (k := 16) (e_TTok (k := 14) (fun _ pc => te_14_ok pc)
 (e_TTok (k := 15) (fun _ pc => te_15_ok pc)
 (fun _ pc => te_16_ok pc)))
 (e_TTok (k := 18) (e_TTok (k := 17) (fun _ pc => te_17_ok pc)
 (fun _ pc => te_18_ok pc))
 (e_TTok (k := 19) (fun _ pc => te_19_ok pc)
 (fun _ pc => te_20_ok pc))))
 (e_TTok (k := 23) (e_TTok (k := 21) (fun _ pc => te_21_ok pc)
 (e_TTok (k := 22) (fun _ pc => te_22_ok pc)
 (fun _ pc => te_23_ok pc)))
 (e_TTok (k := 25) (e_TTok (k := 24) (fun _ pc => te_24_ok pc)
 (fun _ pc => te_25_ok pc))
 (e_TTok (k := 26) (fun _ pc => te_26_ok pc)
 (fun _ pc => te_27_ok pc))))))
 (e_TTok (k := 41) (e_TTok (k := 34) (e_TTok (k := 30) (e_TTok (k := 28) (fun _ pc => te_28_ok pc)
 (e_TTok (k := 29) (fun _ pc => te_29_ok pc)
 (fun _ pc => te_30_ok pc)))
 (e_TTok (k := 32) (e_TTok (k := 31) (fun _ pc => te_31_ok pc)
 (fun _ pc => te_32_ok pc))
 (e_TTok (k := 33) (fun _ pc => te_33_ok pc)
 (fun _ pc => te_34_ok pc))))
 (e_TTok (k := 37) (e_TTok (k := 35) (fun _ pc => te_35_ok pc)
 (e_TTok (k := 36) (fun _ pc => te_36_ok pc)
 (fun _ pc => te_37_ok pc)))
 (e_TTok (k := 39) (e_TTok (k := 38) (fun _ pc => te_38_ok pc)
 (fun _ pc => te_39_ok pc))
 (e_TTok (k := 40) (fun _ pc => te_40_ok pc)
 (fun _ pc => te_41_ok pc)))))
 (e_TTok (k := 48) (e_TTok (k := 44) (e_TTok (k := 42) (fun _ pc => te_42_ok pc)
 (e_TTok (k := 43) (fun _ pc => te_43_ok pc)
 (fun _ pc => te_44_ok pc)))
 (e_TTok (k := 46) (e_TTok (k := 45) (fun _ pc => te_45_ok pc)
 (fun _ pc => te_46_ok pc))
 (e_TTok (k := 47) (fun _ pc => te_47_ok pc)
 (fun _ pc => te_48_ok pc))))
 (e_TTok (k := 51) (e_TTok (k := 49) (fun _ pc => te_49_ok pc)
 (e_TTok (k := 50) (fun _ pc => te_50_ok pc)
 (fun _ pc => te_51_ok pc)))
 (e_TTok (k := 53) (e_TTok (k := 52) (fun _ pc => te_52_ok pc)
 (fun _ pc => te_53_ok pc))
 (e_TTok (k := 54) (fun _ pc => te_54_ok pc)
 (fun _ pc => te_55_ok pc)))))))
 (e_TTok (k := 83) (e_TTok (k := 69) (e_TTok (k := 62) (e_TTok (k := 58) (e_TTok (k := 56) (fun _ pc => te_56_ok pc)
 (e_TTok (k := 57) (fun _ pc => te_57_ok pc)
 (fun _ pc => te_58_ok pc)))
 (e_TTok (k := 60) (e_TTok (k := 59) (fun _ pc => te_59_ok pc)
 (fun _ pc => te_60_ok pc))
 (e_TTok (k := 61) (fun _ pc => te_61_ok pc)
 (fun _ pc => te_62_ok pc))))
 (e_TTok (k := 65) (e_TTok (k := 63) (fun _ pc => te_63_ok pc)
 (e_TTok (k := 64) (fun _ pc => te_64_ok pc)
 (fun _ pc => te_65_ok pc)))
 (e_TTok (k := 67) (e_TTok (k := 66) (fun _ pc => te_66_ok pc)
 (fun _ pc => te_67_ok pc))
 (e_TTok (k := 68) (fun _ pc => te_68_ok pc)
 (fun _ pc => te_69_ok pc)))))
 (e_TTok (k := 76) (e_TTok (k := 72) (e_TTok (k := 70) (fun _ pc => te_70_ok pc)
 (e_TTok (k := 71) (fun _ pc => te_71_ok pc)
 (fun _ pc => te_72_ok pc)))
 (e_TTok (k := 74) (e_TTok (k := 73) (fun _ pc => te_73_ok pc)
 (fun _ pc => te_74_ok pc))
 (e_TTok (k := 75) (fun _ pc => te_75_ok pc)
 (fun _ pc => te_76_ok pc))))
 (e_TTok (k := 79) (e_TTok (k := 77) (fun _ pc => te_77_ok pc)
 (e_TTok (k := 78) (fun _ pc => te_78_ok pc)
 (fun _ pc => te_79_ok pc)))
 (e_TTok (k := 81) (e_TTok (k := 80) (fun _ pc => te_80_ok pc)
 (fun _ pc => te_81_ok pc))
 (e_TTok (k := 82) (fun _ pc => te_82_ok pc)
 (fun _ pc => te_83_ok pc))))))
 (e_TTok (k := 97) (e_TTok (k := 90) (e_TTok (k := 86) (e_TTok (k := 84) (fun _ pc => te_84_ok pc)
 (e_TTok (k := 85) (fun _ pc => te_85_ok pc)
 (fun _ pc => te_86_ok pc)))
 (e_TTok (k := 88) (e_TTok (k := 87) (fun _ pc => te_87_ok pc)
 (fun _ pc => te_88_ok pc))
 (e_TTok (k := 89) (fun _ pc => te_89_ok pc)
 (fun _ pc => te_90_ok pc))))
 (e_TTok (k := 93) (e_TTok (k := 91) (fun _ pc => te_91_ok pc)
 (e_TTok (k := 92) (fun _ pc => te_92_ok pc)
 (fun _ pc => te_93_ok pc)))
 (e_TTok (k := 95) (e_TTok (k := 94) (fun _ pc => te_94_ok pc)
 (fun _ pc => te_95_ok pc))
 (e_TTok (k := 96) (fun _ pc => te_96_ok pc)
 (fun _ pc => te_97_ok pc)))))
 (e_TTok (k := 104) (e_TTok (k := 100) (e_TTok (k := 98) (fun _ pc => te_98_ok pc)
 (e_TTok (k := 99) (fun _ pc => te_99_ok pc)
 (fun _ pc => te_100_ok pc)))
 (e_TTok (k := 102) (e_TTok (k := 101) (fun _ pc => te_101_ok pc)
 (fun _ pc => te_102_ok pc))
 (e_TTok (k := 103) (fun _ pc => te_103_ok pc)
 (fun _ pc => te_104_ok pc))))
 (e_TTok (k := 108) (e_TTok (k := 106) (e_TTok (k := 105) (fun _ pc => te_105_ok pc)
 (fun _ pc => te_106_ok pc))
 (e_TTok (k := 107) (fun _ pc => te_107_ok pc)
 (fun _ pc => te_108_ok pc)))
 (e_TTok (k := 110) (e_TTok (k := 109) (fun _ pc => te_109_ok pc)
 (fun _ pc => te_110_ok pc))
 (e_TTok (k := 111) (fun _ pc => te_111_ok pc)
 (fun _ pc => te_112_ok pc))))))))
 (e_TTok (k := 168) (e_TTok (k := 140) (e_TTok (k := 126) (e_TTok (k := 119) (e_TTok (k := 115) (e_TTok (k := 113) (fun _ pc => te_113_ok pc)
 (e_TTok (k := 114) (fun _ pc => te_114_ok pc)
 (fun _ pc => te_115_ok pc)))
 (e_TTok (k := 117) (e_TTok (k := 116) (fun _ pc => te_116_ok pc)
 (fun _ pc => te_117_ok pc))
 (e_TTok (k := 118) (fun _ pc => te_118_ok pc)
 (fun _ pc => te_119_ok pc))))
 (e_TTok (k := 122) (e_TTok (k := 120) (fun _ pc => te_120_ok pc)
 (e_TTok (k := 121) (fun _ pc => te_121_ok pc)
 (fun _ pc => te_122_ok pc)))
 (e_TTok (k := 124) (e_TTok (k := 123) (fun _ pc => te_123_ok pc)
 (fun _ pc => te_124_ok pc))
 (e_TTok (k := 125) (fun _ pc => te_125_ok pc)
 (fun _ pc => te_126_ok pc)))))
 (e_TTok (k := 133) (e_TTok (k := 129) (e_TTok (k := 127) (fun _ pc => te_127_ok pc)
 (e_TTok (k := 128) (fun _ pc => te_128_ok pc)
 (fun _ pc => te_129_ok pc)))
 (e_TTok (k := 131) (e_TTok (k := 130) (fun _ pc => te_130_ok pc)
 (fun _ pc => te_131_ok pc))
 (e_TTok (k := 132) (fun _ pc => te_132_ok pc)
 (fun _ pc => te_133_ok pc))))
 (e_TTok (k := 136) (e_TTok (k := 134) (fun _ pc => te_134_ok pc)
 (e_TTok (k := 135) (fun _ pc => te_135_ok pc)
 (fun _ pc => te_136_ok pc)))
 (e_TTok (k := 138) (e_TTok (k := 137) (fun _ pc => te_137_ok pc)
 (fun _ pc => te_138_ok pc))
 (e_TTok (k := 139) (fun _ pc => te_139_ok pc)
 (fun _ pc => te_140_ok pc))))))
 (e_TTok (k := 154) (e_TTok (k := 147) (e_TTok (k := 143) (e_TTok (k := 141) (fun _ pc => te_141_ok pc)
 (e_TTok (k := 142) (fun _ pc => te_142_ok pc)
 (fun _ pc => te_143_ok pc)))
 (e_TTok (k := 145) (e_TTok (k := 144) (fun _ pc => te_144_ok pc)
 (fun _ pc => te_145_ok pc))
 (e_TTok (k := 146) (fun _ pc => te_146_ok pc)
 (fun _ pc => te_147_ok pc))))
 (e_TTok (k := 150) (e_TTok (k := 148) (fun _ pc => te_148_ok pc)
 (e_TTok (k := 149) (fun _ pc => te_149_ok pc)
 (fun _ pc => te_150_ok pc)))
 (e_TTok (k := 152) (e_TTok (k := 151) (fun _ pc => te_151_ok pc)
 (fun _ pc => te_152_ok pc))
 (e_TTok (k := 153) (fun _ pc => te_153_ok pc)
 (fun _ pc => te_154_ok pc)))))
 (e_TTok (k := 161) (e_TTok (k := 157) (e_TTok (k := 155) (fun _ pc => te_155_ok pc)
 (e_TTok (k := 156) (fun _ pc => te_156_ok pc)
 (fun _ pc => te_157_ok pc)))
 (e_TTok (k := 159) (e_TTok (k := 158) (fun _ pc => te_158_ok pc)
 (fun _ pc => te_159_ok pc))
 (e_TTok (k := 160) (fun _ pc => te_160_ok pc)
 (fun _ pc => te_161_ok pc))))
 (e_TTok (k := 164) (e_TTok (k := 162) (fun _ pc => te_162_ok pc)
 (e_TTok (k := 163) (fun _ pc => te_163_ok pc)
 (fun _ pc => te_164_ok pc)))
 (e_TTok (k := 166) (e_TTok (k := 165) (fun _ pc => te_165_ok pc)
 (fun _ pc => te_166_ok pc))
 (e_TTok (k := 167) (fun _ pc => te_167_ok pc)
 (fun _ pc => te_168_ok pc)))))))
 (e_TTok (k := 196) (e_TTok (k := 182) (e_TTok (k := 175) (e_TTok (k := 171) (e_TTok (k := 169) (fun _ pc => te_169_ok pc)
 (e_TTok (k := 170) (fun _ pc => te_170_ok pc)
 (fun _ pc => te_171_ok pc)))
 (e_TTok (k := 173) (e_TTok (k := 172) (fun _ pc => te_172_ok pc)
 (fun _ pc => te_173_ok pc))
 (e_TTok (k := 174) (fun _ pc => te_174_ok pc)
 (fun _ pc => te_175_ok pc))))
 (e_TTok (k := 178) (e_TTok (k := 176) (fun _ pc => te_176_ok pc)
 (e_TTok (k := 177) (fun _ pc => te_177_ok pc)
 (fun _ pc => te_178_ok pc)))
 (e_TTok (k := 180) (e_TTok (k := 179) (fun _ pc => te_179_ok pc)
 (fun _ pc => te_180_ok pc))
 (e_TTok (k := 181) (fun _ pc => te_181_ok pc)
 (fun _ pc => te_182_ok pc)))))
 (e_TTok (k := 189) (e_TTok (k := 185) (e_TTok (k := 183) (fun _ pc => te_183_ok pc)
 (e_TTok (k := 184) (fun _ pc => te_184_ok pc)
 (fun _ pc => te_185_ok pc)))
 (e_TTok (k := 187) (e_TTok (k := 186) (fun _ pc => te_186_ok pc)
 (fun _ pc => te_187_ok pc))
 (e_TTok (k := 188) (fun _ pc => te_188_ok pc)
 (fun _ pc => te_189_ok pc))))
 (e_TTok (k := 192) (e_TTok (k := 190) (fun _ pc => te_190_ok pc)
 (e_TTok (k := 191) (fun _ pc => te_191_ok pc)
 (fun _ pc => te_192_ok pc)))
 (e_TTok (k := 194) (e_TTok (k := 193) (fun _ pc => te_193_ok pc)
 (fun _ pc => te_194_ok pc))
 (e_TTok (k := 195) (fun _ pc => te_195_ok pc)
 (fun _ pc => te_196_ok pc))))))
 (e_TTok (k := 210) (e_TTok (k := 203) (e_TTok (k := 199) (e_TTok (k := 197) (fun _ pc => te_197_ok pc)
 (e_TTok (k := 198) (fun _ pc => te_198_ok pc)
 (fun _ pc => te_199_ok pc)))
 (e_TTok (k := 201) (e_TTok (k := 200) (fun _ pc => te_200_ok pc)
 (fun _ pc => te_201_ok pc))
 (e_TTok (k := 202) (fun _ pc => te_202_ok pc)
 (fun _ pc => te_203_ok pc))))
 (e_TTok (k := 206) (e_TTok (k := 204) (fun _ pc => te_204_ok pc)
 (e_TTok (k := 205) (fun _ pc => te_205_ok pc)
 (fun _ pc => te_206_ok pc)))
 (e_TTok (k := 208) (e_TTok (k := 207) (fun _ pc => te_207_ok pc)
 (fun _ pc => te_208_ok pc))
 (e_TTok (k := 209) (fun _ pc => te_209_ok pc)
 (fun _ pc => te_210_ok pc)))))
 (e_TTok (k := 217) (e_TTok (k := 213) (e_TTok (k := 211) (fun _ pc => te_211_ok pc)
 (e_TTok (k := 212) (fun _ pc => te_212_ok pc)
 (fun _ pc => te_213_ok pc)))
 (e_TTok (k := 215) (e_TTok (k := 214) (fun _ pc => te_214_ok pc)
 (fun _ pc => te_215_ok pc))
 (e_TTok (k := 216) (fun _ pc => te_216_ok pc)
 (fun _ pc => te_217_ok pc))))
 (e_TTok (k := 221) (e_TTok (k := 219) (e_TTok (k := 218) (fun _ pc => te_218_ok pc)
 (fun _ pc => te_219_ok pc))
 (e_TTok (k := 220) (fun _ pc => te_220_ok pc)
 (fun _ pc => te_221_ok pc)))
 (e_TTok (k := 223) (e_TTok (k := 222) (fun _ pc => te_222_ok pc)
 (fun _ pc => te_223_ok pc))
 (e_TTok (k := 224) (fun _ pc => te_224_ok pc)
 (fun _ pc => te_225_ok pc)))))))))
 (e_TTok (k := 338) (e_TTok (k := 281) (e_TTok (k := 253) (e_TTok (k := 239) (e_TTok (k := 232) (e_TTok (k := 228) (e_TTok (k := 226) (fun _ pc => te_226_ok pc)
 (e_TTok (k := 227) (fun _ pc => te_227_ok pc)
 (fun _ pc => te_228_ok pc)))
 (e_TTok (k := 230) (e_TTok (k := 229) (fun _ pc => te_229_ok pc)
 (fun _ pc => te_230_ok pc))
 (e_TTok (k := 231) (fun _ pc => te_231_ok pc)
 (fun _ pc => te_232_ok pc))))
 (e_TTok (k := 235) (e_TTok (k := 233) (fun _ pc => te_233_ok pc)
 (e_TTok (k := 234) (fun _ pc => te_234_ok pc)
 (fun _ pc => te_235_ok pc)))
 (e_TTok (k := 237) (e_TTok (k := 236) (fun _ pc => te_236_ok pc)
 (fun _ pc => te_237_ok pc))
 (e_TTok (k := 238) (fun _ pc => te_238_ok pc)
 (fun _ pc => te_239_ok pc)))))
 (e_TTok (k := 246) (e_TTok (k := 242) (e_TTok (k := 240) (fun _ pc => te_240_ok pc)
 (e_TTok (k := 241) (fun _ pc => te_241_ok pc)
 (fun _ pc => te_242_ok pc)))
 (e_TTok (k := 244) (e_TTok (k := 243) (fun _ pc => te_243_ok pc)
 (fun _ pc => te_244_ok pc))
 (e_TTok (k := 245) (fun _ pc => te_245_ok pc)
 (fun _ pc => te_246_ok pc))))
 (e_TTok (k := 249) (e_TTok (k := 247) (fun _ pc => te_247_ok pc)
 (e_TTok (k := 248) (fun _ pc => te_248_ok pc)
 (fun _ pc => te_249_ok pc)))
 (e_TTok (k := 251) (e_TTok (k := 250) (fun _ pc => te_250_ok pc)
 (fun _ pc => te_251_ok pc))
 (e_TTok (k := 252) (fun _ pc => te_252_ok pc)
 (fun _ pc => te_253_ok pc))))))
 (e_TTok (k := 267) (e_TTok (k := 260) (e_TTok (k := 256) (e_TTok (k := 254) (fun _ pc => te_254_ok pc)
 (e_TTok (k := 255) (fun _ pc => te_255_ok pc)
 (fun _ pc => te_256_ok pc)))
 (e_TTok (k := 258) (e_TTok (k := 257) (fun _ pc => te_257_ok pc)
 (fun _ pc => te_258_ok pc))
 (e_TTok (k := 259) (fun _ pc => te_259_ok pc)
 (fun _ pc => te_260_ok pc))))
 (e_TTok (k := 263) (e_TTok (k := 261) (fun _ pc => te_261_ok pc)
 (e_TTok (k := 262) (fun _ pc => te_262_ok pc)
 (fun _ pc => te_263_ok pc)))
 (e_TTok (k := 265) (e_TTok (k := 264) (fun _ pc => te_264_ok pc)
 (fun _ pc => te_265_ok pc))
 (e_TTok (k := 266) (fun _ pc => te_266_ok pc)
 (fun _ pc => te_267_ok pc)))))
 (e_TTok (k := 274) (e_TTok (k := 270) (e_TTok (k := 268) (fun _ pc => te_268_ok pc)
 (e_TTok (k := 269) (fun _ pc => te_269_ok pc)
 (fun _ pc => te_270_ok pc)))
 (e_TTok (k := 272) (e_TTok (k := 271) (fun _ pc => te_271_ok pc)
 (fun _ pc => te_272_ok pc))
 (e_TTok (k := 273) (fun _ pc => te_273_ok pc)
 (fun _ pc => te_274_ok pc))))
 (e_TTok (k := 277) (e_TTok (k := 275) (fun _ pc => te_275_ok pc)
 (e_TTok (k := 276) (fun _ pc => te_276_ok pc)
 (fun _ pc => te_277_ok pc)))
 (e_TTok (k := 279) (e_TTok (k := 278) (fun _ pc => te_278_ok pc)
 (fun _ pc => te_279_ok pc))
 (e_TTok (k := 280) (fun _ pc => te_280_ok pc)
 (fun _ pc => te_281_ok pc)))))))
 (e_TTok (k := 309) (e_TTok (k := 295) (e_TTok (k := 288) (e_TTok (k := 284) (e_TTok (k := 282) (fun _ pc => te_282_ok pc)
 (e_TTok (k := 283) (fun _ pc => te_283_ok pc)
 (fun _ pc => te_284_ok pc)))
 (e_TTok (k := 286) (e_TTok (k := 285) (fun _ pc => te_285_ok pc)
 (fun _ pc => te_286_ok pc))
 (e_TTok (k := 287) (fun _ pc => te_287_ok pc)
 (fun _ pc => te_288_ok pc))))
 (e_TTok (k := 291) (e_TTok (k := 289) (fun _ pc => te_289_ok pc)
 (e_TTok (k := 290) (fun _ pc => te_290_ok pc)
 (fun _ pc => te_291_ok pc)))
 (e_TTok (k := 293) (e_TTok (k := 292) (fun _ pc => te_292_ok pc)
 (fun _ pc => te_293_ok pc))
 (e_TTok (k := 294) (fun _ pc => te_294_ok pc)
 (fun _ pc => te_295_ok pc)))))
 (e_TTok (k := 302) (e_TTok (k := 298) (e_TTok (k := 296) (fun _ pc => te_296_ok pc)
 (e_TTok (k := 297) (fun _ pc => te_297_ok pc)
 (fun _ pc => te_298_ok pc)))
 (e_TTok (k := 300) (e_TTok (k := 299) (fun _ pc => te_299_ok pc)
 (fun _ pc => te_300_ok pc))
 (e_TTok (k := 301) (fun _ pc => te_301_ok pc)
 (fun _ pc => te_302_ok pc))))
 (e_TTok (k := 305) (e_TTok (k := 303) (fun _ pc => te_303_ok pc)
 (e_TTok (k := 304) (fun _ pc => te_304_ok pc)
 (fun _ pc => te_305_ok pc)))
 (e_TTok (k := 307) (e_TTok (k := 306) (fun _ pc => te_306_ok pc)
 (fun _ pc => te_307_ok pc))
 (e_TTok (k := 308) (fun _ pc => te_308_ok pc)
 (fun _ pc => te_309_ok pc))))))
 (e_TTok (k := 323) (e_TTok (k := 316) (e_TTok (k := 312) (e_TTok (k := 310) (fun _ pc => te_310_ok pc)
 (e_TTok (k := 311) (fun _ pc => te_311_ok pc)
 (fun _ pc => te_312_ok pc)))
 (e_TTok (k := 314) (e_TTok (k := 313) (fun _ pc => te_313_ok pc)
 (fun _ pc => te_314_ok pc))
 (e_TTok (k := 315) (fun _ pc => te_315_ok pc)
 (fun _ pc => te_316_ok pc))))
 (e_TTok (k := 319) (e_TTok (k := 317) (fun _ pc => te_317_ok pc)
 (e_TTok (k := 318) (fun _ pc => te_318_ok pc)
 (fun _ pc => te_319_ok pc)))
 (e_TTok (k := 321) (e_TTok (k := 320) (fun _ pc => te_320_ok pc)
 (fun _ pc => te_321_ok pc))
 (e_TTok (k := 322) (fun _ pc => te_322_ok pc)
 (fun _ pc => te_323_ok pc)))))
 (e_TTok (k := 330) (e_TTok (k := 326) (e_TTok (k := 324) (fun _ pc => te_324_ok pc)
 (e_TTok (k := 325) (fun _ pc => te_325_ok pc)
 (fun _ pc => te_326_ok pc)))
 (e_TTok (k := 328) (e_TTok (k := 327) (fun _ pc => te_327_ok pc)
 (fun _ pc => te_328_ok pc))
 (e_TTok (k := 329) (fun _ pc => te_329_ok pc)
 (fun _ pc => te_330_ok pc))))
 (e_TTok (k := 334) (e_TTok (k := 332) (e_TTok (k := 331) (fun _ pc => te_331_ok pc)
 (fun _ pc => te_332_ok pc))
 (e_TTok (k := 333) (fun _ pc => te_333_ok pc)
 (fun _ pc => te_334_ok pc)))
 (e_TTok (k := 336) (e_TTok (k := 335) (fun _ pc => te_335_ok pc)
 (fun _ pc => te_336_ok pc))
 (e_TTok (k := 337) (fun _ pc => te_337_ok pc)
 (fun _ pc => te_338_ok pc))))))))
 (e_TTok (k := 395) (e_TTok (k := 366) (e_TTok (k := 352) (e_TTok (k := 345) (e_TTok (k := 341) (e_TTok (k := 339) (fun _ pc => te_339_ok pc)
 (e_TTok (k := 340) (fun _ pc => te_340_ok pc)
 (fun _ pc => te_341_ok pc)))
 (e_TTok (k := 343) (e_TTok (k := 342) (fun _ pc => te_342_ok pc)
 (fun _ pc => te_343_ok pc))
 (e_TTok (k := 344) (fun _ pc => te_344_ok pc)
 (fun _ pc => te_345_ok pc))))
 (e_TTok (k := 348) (e_TTok (k := 346) (fun _ pc => te_346_ok pc)
 (e_TTok (k := 347) (fun _ pc => te_347_ok pc)
 (fun _ pc => te_348_ok pc)))
 (e_TTok (k := 350) (e_TTok (k := 349) (fun _ pc => te_349_ok pc)
 (fun _ pc => te_350_ok pc))
 (e_TTok (k := 351) (fun _ pc => te_351_ok pc)
 (fun _ pc => te_352_ok pc)))))
 (e_TTok (k := 359) (e_TTok (k := 355) (e_TTok (k := 353) (fun _ pc => te_353_ok pc)
 (e_TTok (k := 354) (fun _ pc => te_354_ok pc)
 (fun _ pc => te_355_ok pc)))
 (e_TTok (k := 357) (e_TTok (k := 356) (fun _ pc => te_356_ok pc)
 (fun _ pc => te_357_ok pc))
 (e_TTok (k := 358) (fun _ pc => te_358_ok pc)
 (fun _ pc => te_359_ok pc))))
 (e_TTok (k := 362) (e_TTok (k := 360) (fun _ pc => te_360_ok pc)
 (e_TTok (k := 361) (fun _ pc => te_361_ok pc)
 (fun _ pc => te_362_ok pc)))
 (e_TTok (k := 364) (e_TTok (k := 363) (fun _ pc => te_363_ok pc)
 (fun _ pc => te_364_ok pc))
 (e_TTok (k := 365) (fun _ pc => te_365_ok pc)
 (fun _ pc => te_366_ok pc))))))
 (e_TTok (k := 380) (e_TTok (k := 373) (e_TTok (k := 369) (e_TTok (k := 367) (fun _ pc => te_367_ok pc)
 (e_TTok (k := 368) (fun _ pc => te_368_ok pc)
 (fun _ pc => te_369_ok pc)))
 (e_TTok (k := 371) (e_TTok (k := 370) (fun _ pc => te_370_ok pc)
 (fun _ pc => te_371_ok pc))
 (e_TTok (k := 372) (fun _ pc => te_372_ok pc)
 (fun _ pc => te_373_ok pc))))
 (e_TTok (k := 376) (e_TTok (k := 374) (fun _ pc => te_374_ok pc)
 (e_TTok (k := 375) (fun _ pc => te_375_ok pc)
 (fun _ pc => te_376_ok pc)))
 (e_TTok (k := 378) (e_TTok (k := 377) (fun _ pc => te_377_ok pc)
 (fun _ pc => te_378_ok pc))
 (e_TTok (k := 379) (fun _ pc => te_379_ok pc)
 (fun _ pc => te_380_ok pc)))))
 (e_TTok (k := 387) (e_TTok (k := 383) (e_TTok (k := 381) (fun _ pc => te_381_ok pc)
 (e_TTok (k := 382) (fun _ pc => te_382_ok pc)
 (fun _ pc => te_383_ok pc)))
 (e_TTok (k := 385) (e_TTok (k := 384) (fun _ pc => te_384_ok pc)
 (fun _ pc => te_385_ok pc))
 (e_TTok (k := 386) (fun _ pc => te_386_ok pc)
 (fun _ pc => te_387_ok pc))))
 (e_TTok (k := 391) (e_TTok (k := 389) (e_TTok (k := 388) (fun _ pc => te_388_ok pc)
 (fun _ pc => te_389_ok pc))
 (e_TTok (k := 390) (fun _ pc => te_390_ok pc)
 (fun _ pc => te_391_ok pc)))
 (e_TTok (k := 393) (e_TTok (k := 392) (fun _ pc => te_392_ok pc)
 (fun _ pc => te_393_ok pc))
 (e_TTok (k := 394) (fun _ pc => te_394_ok pc)
 (fun _ pc => te_395_ok pc)))))))
 (e_TTok (k := 423) (e_TTok (k := 409) (e_TTok (k := 402) (e_TTok (k := 398) (e_TTok (k := 396) (fun _ pc => te_396_ok pc)
 (e_TTok (k := 397) (fun _ pc => te_397_ok pc)
 (fun _ pc => te_398_ok pc)))
 (e_TTok (k := 400) (e_TTok (k := 399) (fun _ pc => te_399_ok pc)
 (fun _ pc => te_400_ok pc))
 (e_TTok (k := 401) (fun _ pc => te_401_ok pc)
 (fun _ pc => te_402_ok pc))))
 (e_TTok (k := 405) (e_TTok (k := 403) (fun _ pc => te_403_ok pc)
 (e_TTok (k := 404) (fun _ pc => te_404_ok pc)
 (fun _ pc => te_405_ok pc)))
 (e_TTok (k := 407) (e_TTok (k := 406) (fun _ pc => te_406_ok pc)
 (fun _ pc => te_407_ok pc))
 (e_TTok (k := 408) (fun _ pc => te_408_ok pc)
 (fun _ pc => te_409_ok pc)))))
 (e_TTok (k := 416) (e_TTok (k := 412) (e_TTok (k := 410) (fun _ pc => te_410_ok pc)
 (e_TTok (k := 411) (fun _ pc => te_411_ok pc)
 (fun _ pc => te_412_ok pc)))
 (e_TTok (k := 414) (e_TTok (k := 413) (fun _ pc => te_413_ok pc)
 (fun _ pc => te_414_ok pc))
 (e_TTok (k := 415) (fun _ pc => te_415_ok pc)
 (fun _ pc => te_416_ok pc))))
 (e_TTok (k := 419) (e_TTok (k := 417) (fun _ pc => te_417_ok pc)
 (e_TTok (k := 418) (fun _ pc => te_418_ok pc)
 (fun _ pc => te_419_ok pc)))
 (e_TTok (k := 421) (e_TTok (k := 420) (fun _ pc => te_420_ok pc)
 (fun _ pc => te_421_ok pc))
 (e_TTok (k := 422) (fun _ pc => te_422_ok pc)
 (fun _ pc => te_423_ok pc))))))
 (e_TTok (k := 437) (e_TTok (k := 430) (e_TTok (k := 426) (e_TTok (k := 424) (fun _ pc => te_424_ok pc)
 (e_TTok (k := 425) (fun _ pc => te_425_ok pc)
 (fun _ pc => te_426_ok pc)))
 (e_TTok (k := 428) (e_TTok (k := 427) (fun _ pc => te_427_ok pc)
 (fun _ pc => te_428_ok pc))
 (e_TTok (k := 429) (fun _ pc => te_429_ok pc)
 (fun _ pc => te_430_ok pc))))
 (e_TTok (k := 433) (e_TTok (k := 431) (fun _ pc => te_431_ok pc)
 (e_TTok (k := 432) (fun _ pc => te_432_ok pc)
 (fun _ pc => te_433_ok pc)))
 (e_TTok (k := 435) (e_TTok (k := 434) (fun _ pc => te_434_ok pc)
 (fun _ pc => te_435_ok pc))
 (e_TTok (k := 436) (fun _ pc => te_436_ok pc)
 (fun _ pc => te_437_ok pc)))))
 (e_TTok (k := 444) (e_TTok (k := 440) (e_TTok (k := 438) (fun _ pc => te_438_ok pc)
 (e_TTok (k := 439) (fun _ pc => te_439_ok pc)
 (fun _ pc => te_440_ok pc)))
 (e_TTok (k := 442) (e_TTok (k := 441) (fun _ pc => te_441_ok pc)
 (fun _ pc => te_442_ok pc))
 (e_TTok (k := 443) (fun _ pc => te_443_ok pc)
 (fun _ pc => te_444_ok pc))))
 (e_TTok (k := 448) (e_TTok (k := 446) (e_TTok (k := 445) (fun _ pc => te_445_ok pc)
 (fun _ pc => te_446_ok pc))
 (e_TTok (k := 447) (fun _ pc => te_447_ok pc)
 (fun _ pc => te_448_ok pc)))
 (e_TTok (k := 450) (e_TTok (k := 449) (fun _ pc => te_449_ok pc)
 (fun _ pc => te_450_ok pc))
 (e_TTok (k := 451) (fun _ pc => te_451_ok pc)
 (fun _ pc => te_452_ok pc))))))))))
theorem e_tab0 : e_Tab 20 eft cls elay eI ecode0 := by
  refine ⟨by decide, e_tr_ok, fun M => ?_, fun M ho => ?_⟩
  · have := e_moks M
    unfold x_mok at this
    simp only [Bool.and_eq_true] at this
    exact this.1
  · have := e_moks M
    unfold x_mok at this
    simp only [Bool.and_eq_true] at this
    have h2 := this.2
    rw [x_nb ho] at h2
    simp only [Bool.false_or] at h2
    split at h2
    · rename_i r hr
      refine Or.inr ⟨fun h => ?_, r, hr, by simpa using h2⟩
      rw [h] at hr
      exact absurd (List.getElem?_eq_some_iff.mp hr).1 (by decide)
    · cases h2
end
end
-- part 46
section
noncomputable section
/-! rules for printed proofs: plain runs at once, calls, fewer locals -/
def e_steps (code : Nat → Nat → eE) (M : Nat) : Nat → eS → Option eS
  | 0, t => some t
  | n + 1, t => match code M t.1 with
    | (0, f, _, _) => match f t with
      | some t' => e_steps code M n t'
      | none => none
    | _ => none
def e_ndB : List Nat → Bool
  | [] => true
  | i :: r => (r.all fun j => !Nat.beq j i) && e_ndB r
theorem e_ndB_ok : ∀ {l : List Nat}, e_ndB l = true → l.Nodup
  | [], _ => List.nodup_nil
  | i :: r, h => by
    unfold e_ndB at h
    simp only [Bool.and_eq_true] at h
    rw [List.nodup_cons]
    refine ⟨fun hm => ?_, e_ndB_ok h.2⟩
    have := List.all_eq_true.mp h.1 i hm
    simp at this
def e_keys : eL → List Nat
  | [] => []
  | q :: r => q.1 :: e_keys r
theorem e_keys_ok : ∀ l : eL, e_keys l = l.map Prod.fst
  | [] => rfl
  | q :: r => by rw [e_keys, e_keys_ok r, List.map_cons]
def e_allF : eL → eL → Prop
  | [], _ => True
  | q :: r, l' => e_find l' q.1 = some q.2 ∧ e_allF r l'
theorem e_allF_ok {l' : eL} : ∀ {l : eL}, e_allF l l' → ∀ q ∈ l, q ∈ l'
  | [], _, q, h => by cases h
  | a :: r, h, q, hq => by
    rcases List.mem_cons.mp hq with rfl | hq
    · exact e_find_mem h.1
    · exact e_allF_ok h.2 q hq
theorem e_sub_of {l l' : eL} (hn : e_ndB (e_keys l') = true) (h : e_allF l l') : e_sub l l' := ⟨by rw [← e_keys_ok]; exact e_ndB_ok hn, e_allF_ok h⟩
def e_mayS (M' na : Nat) (q' : xM) (st : List eV) : Bool :=
  Nat.ble 1 M' && (Nat.ble na st.length && (Nat.ble (e_cats (st.drop na)) 8 && (Nat.ble (e_cats (st.take na).reverse) (xm_l q') && (Nat.beq (xm_c q') 0 && Nat.beq (xm_s q') 0))))
section E46
variable {fd : Nat} {lay : List eY} {code : Nat → Nat → eE} {I : Nat → xM} {d M k a b p : Nat} {l : eL} {w : eW} {Q Q' : List eV → eW → Prop}
theorem e_Ok.run {t t' : eS} (n : Nat) (h0 : e_steps code M n t = some t') (h : e_Ok fd lay code I d M t' Q) : e_Ok fd lay code I d M t Q := by
  induction n generalizing t with
  | zero => cases h0; exact h
  | succ n ih =>
    unfold e_steps at h0
    split at h0
    · rename_i f a b hc
      split at h0
      · rename_i t1 hf
        exact e_Ok.step hc hf (ih h0)
      · cases h0
    · cases h0
theorem e_Ok.callS {M' na : Nat} {f : eS → Option eS} {st : List eV} (hc : code M p = (2, f, M', na)) (hd : fd ≤ d) (ho : xm_o (I M') = 999) (hm : e_mayS M' na (I M') st = true) (h' : e_Ok fd lay code I d M' (0, e_ent 0 (st.take na).reverse, [], w) Q') (h : ∀ r w', Q' r w' → e_Ok fd lay code I (d + 1) M (p + 3, l, r ++ st.drop na, w') Q) : e_Ok fd lay code I (d + 1) M (p, l, st, w) Q := by
  refine e_Ok.call hc ?_ h' h
  unfold e_mayS at hm
  unfold e_may e_rcv
  simp only [Bool.and_eq_true] at hm ⊢
  exact ⟨Nat.ble_eq_true_of_le hd, hm.1, hm.2.1, hm.2.2.1, hm.2.2.2.1, hm.2.2.2.2.1, hm.2.2.2.2.2, by rw [ho]; rfl⟩
theorem e_Ok.callV {M' na c n : Nat} {j : Int} {f : eS → Option eS} {st as : List eV} (hc : code M p = (2, f, M', na)) (hd : fd ≤ d) (hs : (st.take na).reverse = (1, j) :: as) (hl : lay[j.toNat]? = some (0, c, n)) (ho : xm_o (I M') = c) (hm : e_mayS M' na (I M') st = true) (h' : e_Ok fd lay code I d M' (0, e_ent 0 (st.take na).reverse, [], w) Q') (h : ∀ r w', Q' r w' → e_Ok fd lay code I (d + 1) M (p + 3, l, r ++ st.drop na, w') Q) : e_Ok fd lay code I (d + 1) M (p, l, st, w) Q := by
  refine e_Ok.call hc ?_ h' h
  unfold e_mayS at hm
  unfold e_may
  simp only [Bool.and_eq_true] at hm ⊢
  refine ⟨Nat.ble_eq_true_of_le hd, hm.1, hm.2.1, hm.2.2.1, hm.2.2.2.1, hm.2.2.2.2.1, hm.2.2.2.2.2, ?_⟩
  rw [hs]
  unfold e_rcv
  simp only [hl, ho, Nat.beq_refl]
  cases Nat.beq c 999 <;> rfl
theorem e_Ok.divn {nx : Nat} {r : List eV} {x y : Int} (h : ∀ z, z = x / y → e_Ok fd lay code I d M (nx, l, (0, z) :: r, w) Q) (hc : code M p = (0, ei_bin eF_div nx, a, b)) (hx : 0 ≤ x ∧ x ≤ 2147483647) (hy : 0 < y) : e_Ok fd lay code I d M (p, l, (0, y) :: (0, x) :: r, w) Q := by
  refine e_Ok.step hc ?_ (h _ rfl)
  have e : eF_div x y = some (x / y) := by
    unfold eF_div
    rw [decide_eq_false (by omega), Int.tdiv_eq_ediv_of_nonneg hx.1]
    have h1 : 0 ≤ x / y := Int.ediv_nonneg hx.1 (by omega)
    have h2 : x / y ≤ x := Int.ediv_le_self y hx.1
    rw [e32_id (by omega) (by omega)]
    rfl
  show (match eF_div x y with | some z => _ | none => none) = _
  rw [e]
theorem e_Ok.remn {nx : Nat} {r : List eV} {x y : Int} (h : ∀ z, z = x % y → e_Ok fd lay code I d M (nx, l, (0, z) :: r, w) Q) (hc : code M p = (0, ei_bin eF_rem nx, a, b)) (hx : 0 ≤ x ∧ x ≤ 2147483647) (hy : 0 < y) : e_Ok fd lay code I d M (p, l, (0, y) :: (0, x) :: r, w) Q := by
  refine e_Ok.step hc ?_ (h _ rfl)
  have e : eF_rem x y = some (x % y) := by
    unfold eF_rem
    rw [decide_eq_false (by omega), Int.tdiv_eq_ediv_of_nonneg hx.1]
    have h1 : 0 ≤ x / y := Int.ediv_nonneg hx.1 (by omega)
    have h2 : x / y ≤ x := Int.ediv_le_self y hx.1
    have h3 : x / y * y ≤ x := Int.ediv_mul_le x (by omega)
    have h4 : 0 ≤ x / y * y := Int.mul_nonneg h1 (by omega)
    have h5 := Int.emod_nonneg x (show y ≠ 0 by omega)
    have h6 : x % y = x - x / y * y := by
      have := Int.mul_ediv_add_emod x y
      rw [Int.mul_comm] at this
      omega
    have a1 : e32 (x / y) = x / y := e32_id (by omega) (by omega)
    have a2 : e32 (x / y * y) = x / y * y := e32_id (by omega) (by omega)
    rw [a1, a2, e32_id (by omega) (by omega), h6]
    rfl
  show (match eF_rem x y with | some z => _ | none => none) = _
  rw [e]
theorem e_and32 (x m : Int) (k : Nat) (hk : k < 32) (hm : m = 2 ^ k - 1) : (Int32.ofInt x &&& Int32.ofInt m).toInt = x % (m + 1) := by
  have e1 : (Int32.ofInt x &&& Int32.ofInt m).toBitVec = BitVec.ofInt 32 x &&& BitVec.ofInt 32 m := rfl
  have hp : (2 : Nat) ^ k < 2 ^ 32 := Nat.pow_lt_pow_right (by decide) hk
  have hp1 : (2 : Nat) ^ k ≤ 2 ^ 31 := Nat.pow_le_pow_right (by decide) (by omega)
  have hpos : 0 < (2 : Nat) ^ k := Nat.pow_pos (by decide)
  have hc : ((2 : Int) ^ k) = ((2 ^ k : Nat) : Int) := by norm_cast
  have e2 : (BitVec.ofInt 32 m).toNat = 2 ^ k - 1 := by
    rw [BitVec.toNat_ofInt, hm, hc]
    have : (((2 ^ k : Nat) : Int) - 1) % ((2 ^ 32 : Nat) : Int) = ((2 ^ k : Nat) : Int) - 1 := Int.emod_eq_of_lt (by omega) (by omega)
    rw [this]
    omega
  have e3 : (BitVec.ofInt 32 x &&& BitVec.ofInt 32 m).toNat = (x % ((2 ^ 32 : Nat) : Int)).toNat % 2 ^ k := by
    rw [BitVec.toNat_and, e2, Nat.and_two_pow_sub_one_eq_mod, BitVec.toNat_ofInt]
  have hlt := Nat.mod_lt (x % ((2 ^ 32 : Nat) : Int)).toNat hpos
  have e4 : (BitVec.ofInt 32 x &&& BitVec.ofInt 32 m).toInt = (((x % ((2 ^ 32 : Nat) : Int)).toNat % 2 ^ k : Nat) : Int) := by
    rw [BitVec.toInt_eq_toNat_of_lt (by rw [e3]; omega), e3]
  show (Int32.ofInt x &&& Int32.ofInt m).toBitVec.toInt = _
  rw [e1, e4, Int.natCast_emod, Int.toNat_of_nonneg (Int.emod_nonneg _ (by decide))]
  rw [Int.emod_emod_of_dvd x (by exact_mod_cast Nat.pow_dvd_pow 2 (Nat.le_of_lt hk))]
  rw [hm, hc]
  congr 1
  omega
theorem e_Ok.andm {nx : Nat} {r : List eV} {x : Int} (m : Int) (k : Nat) (hc : code M p = (0, ei_bin (eB (fun x y => x &&& y)) nx, a, b)) (hk : k < 32 ∧ m = 2 ^ k - 1) (h : ∀ z, z = x % (m + 1) → e_Ok fd lay code I d M (nx, l, (0, z) :: r, w) Q) : e_Ok fd lay code I d M (p, l, (0, m) :: (0, x) :: r, w) Q := by
  refine e_Ok.step hc ?_ (h _ rfl)
  show some (nx, l, (0, (Int32.ofInt x &&& Int32.ofInt m).toInt) :: r, w) = _
  rw [e_and32 x m k hk.1 hk.2]
theorem e_Ok.neg {nx : Nat} {r : List eV} {x z : Int} (hc : code M p = (0, ei_un (fun x => (0, e32 (-x))) nx, a, b)) (hz : -x = z) (h1 : -2147483648 ≤ z ∧ z ≤ 2147483647) (h : e_Ok fd lay code I d M (nx, l, (0, z) :: r, w) Q) : e_Ok fd lay code I d M (p, l, (0, x) :: r, w) Q := by
  refine e_Ok.step hc ?_ h
  show some (nx, l, (0, e32 (-x)) :: r, w) = _
  rw [hz, e32_id h1.1 h1.2]
theorem e_Ok.anyU {nx : Nat} {r : List eV} {x : Int} (hc : code M p = (0, ei_un (fun x => (0, e32 (-x))) nx, a, b)) (h : ∀ z, -2147483648 ≤ z → z ≤ 2147483647 → e_Ok fd lay code I d M (nx, l, (0, z) :: r, w) Q) : e_Ok fd lay code I d M (p, l, (0, x) :: r, w) Q :=
  e_Ok.step hc rfl (h _ (e32_in _).1 (e32_in _).2)
theorem e_Ok.anyUL {nx : Nat} {r : List eV} {x : Int} (hc : code M p = (0, ei_unL (fun x => (4, e64 (-x))) nx, a, b)) (h : ∀ z, e_Ok fd lay code I d M (nx, l, (4, z) :: r, w) Q) : e_Ok fd lay code I d M (p, l, (4, x) :: r, w) Q :=
  e_Ok.step hc rfl (h _)
theorem e_Ok.l2i {nx : Nat} {r : List eV} {x : Int} (hc : code M p = (0, ei_unL (fun x => (0, e32 x)) nx, a, b)) (h : ∀ z, -2147483648 ≤ z → z ≤ 2147483647 → e_Ok fd lay code I d M (nx, l, (0, z) :: r, w) Q) : e_Ok fd lay code I d M (p, l, (4, x) :: r, w) Q :=
  e_Ok.step hc rfl (h _ (e32_in _).1 (e32_in _).2)
theorem e_b8 (x : Int) : -128 ≤ x.bmod 256 ∧ x.bmod 256 ≤ 127 := by
  have h1 := Int.le_bmod (x := x) (m := 256) (by decide)
  have h2 := Int.bmod_lt (x := x) (m := 256) (by decide)
  constructor <;> omega
theorem e_Ok.i2b {nx : Nat} {r : List eV} {x : Int} (hc : code M p = (0, ei_un (fun x => (0, x.bmod 256)) nx, a, b)) (h : ∀ z, -128 ≤ z ∧ z ≤ 127 → e_Ok fd lay code I d M (nx, l, (0, z) :: r, w) Q) : e_Ok fd lay code I d M (p, l, (0, x) :: r, w) Q :=
  e_Ok.step hc rfl (h _ (e_b8 x))
theorem e_nar_2 (x : Int) : ∃ z, e_nar 2 x = some z ∧ -128 ≤ z ∧ z ≤ 127 := ⟨_, rfl, e_b8 x⟩
theorem e_Ok.addL {nx : Nat} {r : List eV} {x y z : Int} (hc : code M p = (0, ei_binL eG_add nx, a, b)) (hz : x + y = z) (h1 : -9223372036854775808 ≤ z ∧ z ≤ 9223372036854775807) (h : e_Ok fd lay code I d M (nx, l, (4, z) :: r, w) Q) : e_Ok fd lay code I d M (p, l, (4, y) :: (4, x) :: r, w) Q := by
  refine e_Ok.step hc ?_ h
  show some _ = some _
  rw [hz, e64_id h1.1 h1.2]
theorem e_Ok.subL {nx : Nat} {r : List eV} {x y z : Int} (hc : code M p = (0, ei_binL eG_sub nx, a, b)) (hz : x - y = z) (h1 : -9223372036854775808 ≤ z ∧ z ≤ 9223372036854775807) (h : e_Ok fd lay code I d M (nx, l, (4, z) :: r, w) Q) : e_Ok fd lay code I d M (p, l, (4, y) :: (4, x) :: r, w) Q := by
  refine e_Ok.step hc ?_ h
  show some _ = some _
  rw [hz, e64_id h1.1 h1.2]
theorem e_Ok.mulL {nx : Nat} {r : List eV} {x y z : Int} (hc : code M p = (0, ei_binL eG_mul nx, a, b)) (hz : x * y = z) (h1 : -9223372036854775808 ≤ z ∧ z ≤ 9223372036854775807) (h : e_Ok fd lay code I d M (nx, l, (4, z) :: r, w) Q) : e_Ok fd lay code I d M (p, l, (4, y) :: (4, x) :: r, w) Q := by
  refine e_Ok.step hc ?_ h
  show some _ = some _
  rw [hz, e64_id h1.1 h1.2]
theorem e_Ok.alen {nx n kd c' : Nat} {r : List eV} {c : Int} (hc : code M p = (0, ei_alen lay nx, a, b)) (hl : lay[c.toNat]? = some (kd, c', n)) (hk : Nat.beq kd 0 = false) (h : e_Ok fd lay code I d M (nx, l, (0, (n : Int)) :: r, w) Q) : e_Ok fd lay code I d M (p, l, (1, c) :: r, w) Q := by
  refine e_Ok.step hc ?_ h
  unfold ei_alen
  simp only [hl, hk, cond_false]
theorem e_Ok.rets {kk : Nat} {f : eS → Option eS} {st r : List eV} (hc : code M p = (1, f, kk, b)) (hr : e_retv kk st = some r) (h : Q r w) : e_Ok fd lay code I d M (p, l, st, w) Q := e_Ok.ret hc hr h
theorem e_Ok.retb {f : eS → Option eS} {z : Int} (hc : code M p = (1, f, 4, b)) (hz : 0 ≤ z ∧ z ≤ 1) (h : Q [(0, z)] w) : e_Ok fd lay code I d M (p, l, [(0, z)], w) Q := by
  refine e_Ok.ret hc ?_ h
  show (bif e_pk 1 (0, z) then some [(0, z)] else none) = _
  unfold e_pk
  simp only [decide_eq_true hz.1, decide_eq_true hz.2]
  rfl
theorem e_kn_sub {w : eW} {c a a' b b' : Int} (h : ∀ i, a ≤ i → i ≤ b → -2147483648 ≤ w c i ∧ w c i ≤ 2147483647) (ha : a ≤ a') (hb : b' ≤ b) : ∀ i, a' ≤ i → i ≤ b' → -2147483648 ≤ w c i ∧ w c i ≤ 2147483647 := fun i h1 h2 => h i (by omega) (by omega)
end E46
end
end
-- part 46b
section
noncomputable section
section E46b
variable {fd : Nat} {lay : List eY} {code : Nat → Nat → eE} {I : Nat → xM} {d M a b p nx : Nat} {l : eL} {r : List eV} {w : eW} {Q : List eV → eW → Prop}
/-! or, and: of truth values -/
theorem e_Ok.or01 {x y : Int} (hx : 0 ≤ x ∧ x ≤ 1) (hy : 0 ≤ y ∧ y ≤ 1) (h : ∀ z : Int, (0 ≤ z ∧ z ≤ 1) ∧ (z = 0 ↔ (x = 0 ∧ y = 0)) → e_Ok fd lay code I d M (nx, l, (0, z) :: r, w) Q) (hc : code M p = (0, ei_bin (eB (fun x y => x ||| y)) nx, a, b)) : e_Ok fd lay code I d M (p, l, (0, y) :: (0, x) :: r, w) Q := by
  obtain rfl | rfl : x = 0 ∨ x = 1 := by omega
  · obtain rfl | rfl : y = 0 ∨ y = 1 := by omega
    · exact e_Ok.step hc rfl (h 0 (by decide))
    · exact e_Ok.step hc rfl (h 1 (by decide))
  · obtain rfl | rfl : y = 0 ∨ y = 1 := by omega
    · exact e_Ok.step hc rfl (h 1 (by decide))
    · exact e_Ok.step hc rfl (h 1 (by decide))
theorem e_Ok.and01 {x y : Int} (hx : 0 ≤ x ∧ x ≤ 1) (hy : 0 ≤ y ∧ y ≤ 1) (h : ∀ z : Int, (0 ≤ z ∧ z ≤ 1) ∧ (z = 1 ↔ (x = 1 ∧ y = 1)) → e_Ok fd lay code I d M (nx, l, (0, z) :: r, w) Q) (hc : code M p = (0, ei_bin (eB (fun x y => x &&& y)) nx, a, b)) : e_Ok fd lay code I d M (p, l, (0, y) :: (0, x) :: r, w) Q := by
  obtain rfl | rfl : x = 0 ∨ x = 1 := by omega
  · obtain rfl | rfl : y = 0 ∨ y = 1 := by omega
    · exact e_Ok.step hc rfl (h 0 (by decide))
    · exact e_Ok.step hc rfl (h 0 (by decide))
  · obtain rfl | rfl : y = 0 ∨ y = 1 := by omega
    · exact e_Ok.step hc rfl (h 0 (by decide))
    · exact e_Ok.step hc rfl (h 1 (by decide))
end E46b
end
end
-- part 47
section
noncomputable section
/-! the numbers that the model's cells hold; (1, 0): nothing is said -/
def x_nthP (l : List (Int × Int)) (k : Nat) : Int × Int := match x_at l k with
  | some x => x
  | none => (1, 0)
def mFld : List (Int × Int) := [(276, 276), (277, 277), (278, 278), (0, 1), (279, 279), (1, 0), (1, 0), (280, 280), (281, 281), (1, 0), (0, 4), (282, 282), (283, 283), (284, 284), (285, 285), (286, 286), (287, 287), (288, 288), (289, 289), (290, 290), (291, 291), (292, 292), (293, 293), (0, 16), (294, 294), (295, 295), (296, 296), (297, 297), (298, 298), (299, 299), (0, 4), (300, 300), (301, 301), (302, 302), (303, 303), (304, 304), (305, 305), (306, 306), (307, 307), (308, 308), (0, 32), (309, 309), (0, 8), (310, 310), (311, 311), (312, 312), (313, 313), (314, 314), (315, 315), (0, 8), (316, 316), (317, 317), (318, 318), (319, 319), (320, 320), (321, 321), (322, 322), (323, 323), (1, 0), (1, 0), (1, 0), (324, 324), (325, 325), (326, 326), (327, 327), (328, 328), (329, 329), (330, 330), (331, 331), (332, 332), (333, 333), (334, 334), (335, 335), (336, 336), (337, 337), (338, 338), (339, 339), (340, 340), (1, 0), (1, 0), (1, 0), (1, 0), (1, 0), (1, 0), (1, 0), (1, 0), (1, 0), (1, 0), (1, 0), (1, 0), (341, 341), (342, 342), (343, 343), (344, 344), (1, 0), (1, 0), (1, 0), (1, 0), (1, 0), (1, 0), (1, 0), (345, 345), (1, 0), (346, 346), (347, 347), (348, 348), (349, 349), (350, 350), (351, 351), (352, 352), (1, 0), (1, 0), (1, 0), (353, 353), (354, 354), (355, 355), (356, 356), (1, 0), (1, 0)]
def mArr : List (Int × Int) := [(1, 0), (1, 0), (1, 0), (1, 0), (1, 0), (-8000, 8000), (-8000, 8000), (0, 4095), (0, 800), (0, 6), (0, 1), (-100000, 0), (0, 100000), (0, 2000), (0, 2000), (0, 8000), (0, 800), (0, 1), (-16000, 16000), (-16000, 16000), (-2147483648, 2147483647), (-2147483648, 2147483647), (0, 1), (-16000, 16000), (-16000, 16000), (0, 3), (0, 16000), (0, 100), (0, 2000), (-1, 63), (-2147483648, 2147483647), (-2147483648, 2147483647), (0, 800), (0, 3), (-16000, 16000), (-16000, 16000), (0, 32000), (0, 32000), (-2147483648, 2147483647), (0, 1000), (0, 1), (-1, 63), (0, 1), (-2147483648, 2147483647), (1, 0), (1, 0), (1, 0), (1, 0), (1, 0), (1, 0), (1, 0), (-2147483648, 2147483647), (-2147483648, 2147483647), (-2147483648, 2147483647), (-2147483648, 2147483647), (-2147483648, 2147483647), (-2147483648, 2147483647), (-2147483648, 2147483647), (-2147483648, 2147483647), (-2147483648, 2147483647), (-2147483648, 2147483647), (0, 32), (0, 32), (0, 1), (1, 0), (1, 0), (1, 0), (1, 0), (1, 0), (1, 0), (1, 0), (1, 0), (1, 0), (1, 0), (1, 0), (1, 0), (1, 0), (1, 0), (1, 0), (1, 0)]
def hFld : List (Int × Int) := [(1, 0), (1, 0), (1, 0), (1, 0), (1, 0), (0, 2000), (0, 1), (1, 0), (1, 0), (0, 4000), (1, 0), (1, 0), (1, 0), (1, 0), (1, 0), (1, 0), (1, 0), (1, 0), (1, 0), (1, 0), (1, 0), (1, 0), (1, 0), (1, 0), (1, 0), (1, 0), (1, 0), (1, 0), (1, 0), (1, 0), (1, 0), (1, 0), (1, 0), (1, 0), (1, 0), (1, 0), (1, 0), (1, 0), (1, 0), (1, 0), (1, 0), (1, 0), (1, 0), (1, 0), (1, 0), (1, 0), (1, 0), (1, 0), (1, 0), (1, 0), (1, 0), (1, 0), (1, 0), (1, 0), (1, 0), (1, 0), (1, 0), (1, 0), (1, 0), (1, 0), (1, 0), (1, 0), (1, 0), (1, 0), (1, 0), (1, 0), (1, 0), (1, 0), (1, 0), (1, 0), (1, 0), (1, 0), (1, 0), (1, 0), (1, 0), (1, 0), (1, 0), (1, 0), (1, 0), (1, 0), (1, 0), (1, 0), (1, 0), (1, 0), (1, 0), (1, 0), (1, 0), (1, 0), (0, 7), (-2147483648, 2147483647), (1, 0), (1, 0), (1, 0), (1, 0), (1, 0), (0, 1), (1, 0), (1, 0), (1, 0), (1, 0), (1, 0), (1, 0), (1, 0), (1, 0), (1, 0), (1, 0), (1, 0), (1, 0), (1, 0), (1, 0), (1, 0), (1, 0), (1, 0), (1, 0), (1, 0), (1, 0), (1, 0), (-2147483648, 2147483647), (0, 60)]
def hArr : List (Int × Int) := [(-2147483648, 2147483647), (-2147483648, 2147483647), (-2147483648, 2147483647), (-2147483648, 2147483647), (-128, 127), (1, 0), (1, 0), (1, 0), (1, 0), (1, 0), (1, 0), (1, 0), (1, 0), (1, 0), (1, 0), (1, 0), (1, 0), (1, 0), (1, 0), (1, 0), (1, 0), (1, 0), (1, 0), (1, 0), (1, 0), (1, 0), (1, 0), (1, 0), (1, 0), (1, 0), (1, 0), (1, 0), (1, 0), (1, 0), (1, 0), (1, 0), (1, 0), (1, 0), (1, 0), (1, 0), (1, 0), (1, 0), (1, 0), (1, 0), (1, 0), (1, 0), (1, 0), (1, 0), (1, 0), (1, 0), (1, 0), (1, 0), (1, 0), (1, 0), (1, 0), (1, 0), (1, 0), (1, 0), (1, 0), (1, 0), (1, 0), (1, 0), (1, 0), (1, 0), (1, 0), (1, 0), (1, 0), (1, 0), (1, 0), (1, 0), (1, 0), (1, 0), (1, 0), (1, 0), (1, 0), (1, 0), (1, 0), (-2147483648, 2147483647), (-2147483648, 2147483647), (-2147483648, 2147483647)]
def nHead : List (Int × Int) := [(0, 6000), (0, 1), (0, 4), (-2147483648, 2147483647), (0, 6000), (0, 2147483647), (-2147483648, 2147483647), (-2147483648, 2147483647), (-2147483648, 2147483647), (-2147483648, 2147483647), (-2147483648, 2147483647), (-2147483648, 2147483647), (-2147483648, 2147483647), (-2147483648, 2147483647), (-2147483648, 2147483647), (-2147483648, 2147483647)]
def nArm : List (Int × Int) := [(0, 2), (-1, 31), (-1, 15), (-1, 999), (0, 1), (0, 1), (0, 1), (0, 1000), (-2147483648, 2147483647), (-1, 15), (0, 16), (-2147483648, 2147483647), (-2147483648, 2147483647), (-2147483648, 2147483647), (-2147483648, 2147483647), (-2147483648, 2147483647), (-100000, 100000), (-100000, 100000), (-100000, 100000), (-100000, 100000), (-100000, 100000), (-100000, 100000), (-2000, 2000), (-2000, 2000), (-2000, 2000), (-2000, 2000), (-2000, 2000), (-2000, 2000), (-100000, 100000), (-100000, 100000), (-100000, 100000), (-100000, 100000), (-100000, 100000), (-100000, 100000), (-2147483648, 2147483647), (-2147483648, 2147483647)]
def nTask (f : Int) : Int × Int := if f < 20 then x_nthP [(0, 7), (-1, 3), (-2147483648, 2147483647), (-2147483648, 2147483647), (-2147483648, 2147483647), (0, 7), (-2147483648, 2147483647), (0, 1), (-1, 63), (0, 31), (-2147483648, 2147483647), (0, 6001), (0, 20), (0, 600), (-2147483648, 2147483647), (-2147483648, 2147483647), (-2147483648, 2147483647), (-2147483648, 2147483647), (-2147483648, 2147483647), (-2147483648, 2147483647)] f.toNat else if f < 60 then (if f % 2 = 0 then (0, 9999) else (0, 1)) else (-2147483648, 2147483647)
def nowR (k : Int) : Int × Int :=
  if k < 16 then x_nthP nHead k.toNat else
  if k < 160 then x_nthP nArm ((k - 16) % 36).toNat else
  if k < 224 then (-2147483648, 2147483647) else
  if k < 288 then (0, 1) else
  if k < 416 then (-2147483648, 2147483647) else
  if k < 20576 then nTask ((k - 416) % 1260) else
  if k < 20704 then (if (k - 20576) % 4 = 0 then (0, 8) else (-2147483648, 2147483647)) else
  if k < 20836 then (if (k - 20704) % 33 = 0 then (0, 32) else (0, 31)) else
  if k < 20868 then (if (k - 20836) % 4 = 2 then (-2147483648, 2147483647) else (0, 1)) else
  if k < 20876 then (-1, 15) else
  if k < 21060 then (-2147483648, 2147483647) else
  if k < 25060 then (0, 11) else (-2147483648, 2147483647)
def mTy (c k : Int) : Int × Int := match c.toNat - 275 with
  | 0 => if c = 275 then x_nthP mFld k.toNat else (1, 0)
  | 1 => nowR k
  | n + 2 => x_nthP mArr n
def hTy (c k : Int) : Int × Int := match c.toNat - 275 with
  | 0 => if c = 275 then x_nthP hFld k.toNat else (1, 0)
  | 1 => (1, 0)
  | n + 2 => x_nthP hArr n
/-- w keeps to the types ty -/
def e_Has (ty : Int → Int → Int × Int) (w : eW) : Prop := ∀ c k : Int, (ty c k).1 ≤ (ty c k).2 → (ty c k).1 ≤ w c k ∧ w c k ≤ (ty c k).2
theorem e_Has.get {ty : Int → Int → Int × Int} {w : eW} {c k lo hi : Int} (h : e_Has ty w) (e : ty c k = (lo, hi)) (hl : lo ≤ hi) : lo ≤ w c k ∧ w c k ≤ hi := by
  have := h c k
  rw [e] at this
  exact this hl
theorem e_Has.eq {ty : Int → Int → Int × Int} {w : eW} {c k v : Int} (h : e_Has ty w) (e : ty c k = (v, v)) : w c k = v := by
  have := h.get e (Int.le_refl v)
  omega
theorem e_Has.up {ty : Int → Int → Int × Int} {w w' : eW} {c k z : Int} (h : e_Has ty w) (hw : e_up w c k z = w') (hz : (ty c k).1 ≤ (ty c k).2 → (ty c k).1 ≤ z ∧ z ≤ (ty c k).2) : e_Has ty w' := by
  subst hw
  intro c' k' hl
  by_cases e : c' = c ∧ k' = k
  · rw [e.1, e.2] at hl ⊢
    rw [e_up_eq]
    exact hz hl
  · rw [e_up_ne _ _ (by by_cases e1 : c' = c; exact Or.inr (fun e2 => e ⟨e1, e2⟩); exact Or.inl e1)]
    exact h c' k' hl
theorem e_Has.upr {ty : Int → Int → Int × Int} {w w' : eW} {c k z lo hi : Int} (h : e_Has ty w) (hw : e_up w c k z = w') (e : ty c k = (lo, hi)) (hz : lo ≤ z ∧ z ≤ hi) : e_Has ty w' := h.up hw (fun _ => by rw [e]; exact hz)
theorem e_Has.ups {ty : Int → Int → Int × Int} {w w' : eW} {c k z : Int} (h : e_Has ty w) (hw : e_up w c k z = w') (e : ty c k = (1, 0)) : e_Has ty w' := h.up hw (fun q => by rw [e] at q; exact absurd q (by decide))
theorem nR_STATE {a : Int} (h : 0 ≤ a ∧ a ≤ 3) : mTy 276 (36 * a + 16) = (0, 2) := by
  show nowR _ = _
  unfold nowR
  rw [if_neg (by omega), if_pos (by omega)]
  rw [show (36 * a + 16 - 16) % 36 = 0 by omega]
  rfl
theorem nR_HOLDS {a : Int} (h : 0 ≤ a ∧ a ≤ 3) : mTy 276 (36 * a + 17) = (-1, 31) := by
  show nowR _ = _
  unfold nowR
  rw [if_neg (by omega), if_pos (by omega)]
  rw [show (36 * a + 17 - 16) % 36 = 1 by omega]
  rfl
theorem nR_STUCK {a : Int} (h : 0 ≤ a ∧ a ≤ 3) : mTy 276 (36 * a + 18) = (-1, 15) := by
  show nowR _ = _
  unfold nowR
  rw [if_neg (by omega), if_pos (by omega)]
  rw [show (36 * a + 18 - 16) % 36 = 2 by omega]
  rfl
theorem nR_WAY_SIZE {a : Int} (h : 0 ≤ a ∧ a ≤ 3) : mTy 276 (36 * a + 19) = (-1, 999) := by
  show nowR _ = _
  unfold nowR
  rw [if_neg (by omega), if_pos (by omega)]
  rw [show (36 * a + 19 - 16) % 36 = 3 by omega]
  rfl
theorem nR_FRESH {a : Int} (h : 0 ≤ a ∧ a ≤ 3) : mTy 276 (36 * a + 20) = (0, 1) := by
  show nowR _ = _
  unfold nowR
  rw [if_neg (by omega), if_pos (by omega)]
  rw [show (36 * a + 20 - 16) % 36 = 4 by omega]
  rfl
theorem nR_BUT_OWN {a : Int} (h : 0 ≤ a ∧ a ≤ 3) : mTy 276 (36 * a + 21) = (0, 1) := by
  show nowR _ = _
  unfold nowR
  rw [if_neg (by omega), if_pos (by omega)]
  rw [show (36 * a + 21 - 16) % 36 = 5 by omega]
  rfl
theorem nR_TRAVELS {a : Int} (h : 0 ≤ a ∧ a ≤ 3) : mTy 276 (36 * a + 22) = (0, 1) := by
  show nowR _ = _
  unfold nowR
  rw [if_neg (by omega), if_pos (by omega)]
  rw [show (36 * a + 22 - 16) % 36 = 6 by omega]
  rfl
theorem nR_TRAVEL_AT {a : Int} (h : 0 ≤ a ∧ a ≤ 3) : mTy 276 (36 * a + 23) = (0, 1000) := by
  show nowR _ = _
  unfold nowR
  rw [if_neg (by omega), if_pos (by omega)]
  rw [show (36 * a + 23 - 16) % 36 = 7 by omega]
  rfl
theorem nR_TICKS {a : Int} (h : 0 ≤ a ∧ a ≤ 3) : mTy 276 (36 * a + 24) = (-2147483648, 2147483647) := by
  show nowR _ = _
  unfold nowR
  rw [if_neg (by omega), if_pos (by omega)]
  rw [show (36 * a + 24 - 16) % 36 = 8 by omega]
  rfl
theorem nR_MOVER {a : Int} (h : 0 ≤ a ∧ a ≤ 3) : mTy 276 (36 * a + 25) = (-1, 15) := by
  show nowR _ = _
  unfold nowR
  rw [if_neg (by omega), if_pos (by omega)]
  rw [show (36 * a + 25 - 16) % 36 = 9 by omega]
  rfl
theorem nR_WIDE {a : Int} (h : 0 ≤ a ∧ a ≤ 3) : mTy 276 (36 * a + 26) = (0, 16) := by
  show nowR _ = _
  unfold nowR
  rw [if_neg (by omega), if_pos (by omega)]
  rw [show (36 * a + 26 - 16) % 36 = 10 by omega]
  rfl
theorem nR_FEWEST {a : Int} (h : 0 ≤ a ∧ a ≤ 3) : mTy 276 (36 * a + 27) = (-2147483648, 2147483647) := by
  show nowR _ = _
  unfold nowR
  rw [if_neg (by omega), if_pos (by omega)]
  rw [show (36 * a + 27 - 16) % 36 = 11 by omega]
  rfl
theorem nR_VALUE {a j : Int} (h : 0 ≤ a ∧ a ≤ 3) (hj : 0 ≤ j ∧ j ≤ 5) : mTy 276 (36 * a + j + 32) = (-100000, 100000) := by
  show nowR _ = _
  unfold nowR
  rw [if_neg (by omega), if_pos (by omega)]
  rw [show (36 * a + j + 32 - 16) % 36 = j + 16 by omega]
  obtain rfl | rfl | rfl | rfl | rfl | rfl : j = 0 ∨ j = 1 ∨ j = 2 ∨ j = 3 ∨ j = 4 ∨ j = 5 := by omega
  all_goals rfl
theorem nR_STEP {a j : Int} (h : 0 ≤ a ∧ a ≤ 3) (hj : 0 ≤ j ∧ j ≤ 5) : mTy 276 (36 * a + j + 38) = (-2000, 2000) := by
  show nowR _ = _
  unfold nowR
  rw [if_neg (by omega), if_pos (by omega)]
  rw [show (36 * a + j + 38 - 16) % 36 = j + 22 by omega]
  obtain rfl | rfl | rfl | rfl | rfl | rfl : j = 0 ∨ j = 1 ∨ j = 2 ∨ j = 3 ∨ j = 4 ∨ j = 5 := by omega
  all_goals rfl
theorem nR_GOAL {a j : Int} (h : 0 ≤ a ∧ a ≤ 3) (hj : 0 ≤ j ∧ j ≤ 5) : mTy 276 (36 * a + j + 44) = (-100000, 100000) := by
  show nowR _ = _
  unfold nowR
  rw [if_neg (by omega), if_pos (by omega)]
  rw [show (36 * a + j + 44 - 16) % 36 = j + 28 by omega]
  obtain rfl | rfl | rfl | rfl | rfl | rfl : j = 0 ∨ j = 1 ∨ j = 2 ∨ j = 3 ∨ j = 4 ∨ j = 5 := by omega
  all_goals rfl
theorem nR_TSTATE {t : Int} (h : 0 ≤ t ∧ t ≤ 15) : mTy 276 (1260 * t + 416) = (0, 7) := by
  show nowR _ = _
  unfold nowR
  rw [if_neg (by omega), if_neg (by omega), if_neg (by omega), if_neg (by omega), if_neg (by omega), if_pos (by omega)]
  rw [show (1260 * t + 416 - 416) % 1260 = 0 by omega]
  rfl
theorem nR_TASK_ARM {t : Int} (h : 0 ≤ t ∧ t ≤ 15) : mTy 276 (1260 * t + 417) = (-1, 3) := by
  show nowR _ = _
  unfold nowR
  rw [if_neg (by omega), if_neg (by omega), if_neg (by omega), if_neg (by omega), if_neg (by omega), if_pos (by omega)]
  rw [show (1260 * t + 417 - 416) % 1260 = 1 by omega]
  rfl
theorem nR_FAULT {t : Int} (h : 0 ≤ t ∧ t ≤ 15) : mTy 276 (1260 * t + 418) = (-2147483648, 2147483647) := by
  show nowR _ = _
  unfold nowR
  rw [if_neg (by omega), if_neg (by omega), if_neg (by omega), if_neg (by omega), if_neg (by omega), if_pos (by omega)]
  rw [show (1260 * t + 418 - 416) % 1260 = 2 by omega]
  rfl
theorem nR_CAUGHT {t : Int} (h : 0 ≤ t ∧ t ≤ 15) : mTy 276 (1260 * t + 419) = (-2147483648, 2147483647) := by
  show nowR _ = _
  unfold nowR
  rw [if_neg (by omega), if_neg (by omega), if_neg (by omega), if_neg (by omega), if_neg (by omega), if_pos (by omega)]
  rw [show (1260 * t + 419 - 416) % 1260 = 3 by omega]
  rfl
theorem nR_WAKE {t : Int} (h : 0 ≤ t ∧ t ≤ 15) : mTy 276 (1260 * t + 420) = (-2147483648, 2147483647) := by
  show nowR _ = _
  unfold nowR
  rw [if_neg (by omega), if_neg (by omega), if_neg (by omega), if_neg (by omega), if_neg (by omega), if_pos (by omega)]
  rw [show (1260 * t + 420 - 416) % 1260 = 4 by omega]
  rfl
theorem nR_WANT {t : Int} (h : 0 ≤ t ∧ t ≤ 15) : mTy 276 (1260 * t + 421) = (0, 7) := by
  show nowR _ = _
  unfold nowR
  rw [if_neg (by omega), if_neg (by omega), if_neg (by omega), if_neg (by omega), if_neg (by omega), if_pos (by omega)]
  rw [show (1260 * t + 421 - 416) % 1260 = 5 by omega]
  rfl
theorem nR_ORDER_IN {t : Int} (h : 0 ≤ t ∧ t ≤ 15) : mTy 276 (1260 * t + 422) = (-2147483648, 2147483647) := by
  show nowR _ = _
  unfold nowR
  rw [if_neg (by omega), if_neg (by omega), if_neg (by omega), if_neg (by omega), if_neg (by omega), if_pos (by omega)]
  rw [show (1260 * t + 422 - 416) % 1260 = 6 by omega]
  rfl
theorem nR_BROKEN {t : Int} (h : 0 ≤ t ∧ t ≤ 15) : mTy 276 (1260 * t + 423) = (0, 1) := by
  show nowR _ = _
  unfold nowR
  rw [if_neg (by omega), if_neg (by omega), if_neg (by omega), if_neg (by omega), if_neg (by omega), if_pos (by omega)]
  rw [show (1260 * t + 423 - 416) % 1260 = 7 by omega]
  rfl
theorem nR_WATCHED {t : Int} (h : 0 ≤ t ∧ t ≤ 15) : mTy 276 (1260 * t + 424) = (-1, 63) := by
  show nowR _ = _
  unfold nowR
  rw [if_neg (by omega), if_neg (by omega), if_neg (by omega), if_neg (by omega), if_neg (by omega), if_pos (by omega)]
  rw [show (1260 * t + 424 - 416) % 1260 = 8 by omega]
  rfl
theorem nR_WATCHER {t : Int} (h : 0 ≤ t ∧ t ≤ 15) : mTy 276 (1260 * t + 425) = (0, 31) := by
  show nowR _ = _
  unfold nowR
  rw [if_neg (by omega), if_neg (by omega), if_neg (by omega), if_neg (by omega), if_neg (by omega), if_pos (by omega)]
  rw [show (1260 * t + 425 - 416) % 1260 = 9 by omega]
  rfl
theorem nR_KEPT {t : Int} (h : 0 ≤ t ∧ t ≤ 15) : mTy 276 (1260 * t + 426) = (-2147483648, 2147483647) := by
  show nowR _ = _
  unfold nowR
  rw [if_neg (by omega), if_neg (by omega), if_neg (by omega), if_neg (by omega), if_neg (by omega), if_pos (by omega)]
  rw [show (1260 * t + 426 - 416) % 1260 = 10 by omega]
  rfl
theorem nR_ACTS {t : Int} (h : 0 ≤ t ∧ t ≤ 15) : mTy 276 (1260 * t + 427) = (0, 6001) := by
  show nowR _ = _
  unfold nowR
  rw [if_neg (by omega), if_neg (by omega), if_neg (by omega), if_neg (by omega), if_neg (by omega), if_pos (by omega)]
  rw [show (1260 * t + 427 - 416) % 1260 = 11 by omega]
  rfl
theorem nR_FRAMES {t : Int} (h : 0 ≤ t ∧ t ≤ 15) : mTy 276 (1260 * t + 428) = (0, 20) := by
  show nowR _ = _
  unfold nowR
  rw [if_neg (by omega), if_neg (by omega), if_neg (by omega), if_neg (by omega), if_neg (by omega), if_pos (by omega)]
  rw [show (1260 * t + 428 - 416) % 1260 = 12 by omega]
  rfl
theorem nR_PENDS {t : Int} (h : 0 ≤ t ∧ t ≤ 15) : mTy 276 (1260 * t + 429) = (0, 600) := by
  show nowR _ = _
  unfold nowR
  rw [if_neg (by omega), if_neg (by omega), if_neg (by omega), if_neg (by omega), if_neg (by omega), if_pos (by omega)]
  rw [show (1260 * t + 429 - 416) % 1260 = 13 by omega]
  rfl
theorem nR_IN_WATCH {t : Int} (h : 0 ≤ t ∧ t ≤ 15) : mTy 276 (1260 * t + 430) = (-2147483648, 2147483647) := by
  show nowR _ = _
  unfold nowR
  rw [if_neg (by omega), if_neg (by omega), if_neg (by omega), if_neg (by omega), if_neg (by omega), if_pos (by omega)]
  rw [show (1260 * t + 430 - 416) % 1260 = 14 by omega]
  rfl
theorem nR_FRAME {t i : Int} (h : 0 ≤ t ∧ t ≤ 15) (hi : 0 ≤ i ∧ i ≤ 19) : mTy 276 (1260 * t + 2 * i + 436) = (0, 9999) := by
  show nowR _ = _
  unfold nowR
  rw [if_neg (by omega), if_neg (by omega), if_neg (by omega), if_neg (by omega), if_neg (by omega), if_pos (by omega)]
  rw [show (1260 * t + 2 * i + 436 - 416) % 1260 = 2 * i + 20 by omega]
  unfold nTask
  rw [if_neg (by omega), if_pos (by omega), if_pos (by omega)]
theorem nR_FRAMEW {t i : Int} (h : 0 ≤ t ∧ t ≤ 15) (hi : 0 ≤ i ∧ i ≤ 19) : mTy 276 (1260 * t + 2 * i + 437) = (0, 1) := by
  show nowR _ = _
  unfold nowR
  rw [if_neg (by omega), if_neg (by omega), if_neg (by omega), if_neg (by omega), if_neg (by omega), if_pos (by omega)]
  rw [show (1260 * t + 2 * i + 437 - 416) % 1260 = 2 * i + 21 by omega]
  unfold nTask
  rw [if_neg (by omega), if_pos (by omega), if_neg (by omega)]
theorem nR_PEND {t i : Int} (h : 0 ≤ t ∧ t ≤ 15) (hi : 0 ≤ i ∧ i ≤ 1199) : mTy 276 (1260 * t + i + 476) = (-2147483648, 2147483647) := by
  show nowR _ = _
  unfold nowR
  rw [if_neg (by omega), if_neg (by omega), if_neg (by omega), if_neg (by omega), if_neg (by omega), if_pos (by omega)]
  rw [show (1260 * t + i + 476 - 416) % 1260 = i + 60 by omega]
  unfold nTask
  rw [if_neg (by omega), if_neg (by omega)]
end
end
-- part 47b
section
noncomputable section
/-- tally, told in short: what it counts, nobody knows -/
def e_hv (c : Int) (w : eW) : eW := fun j k => if j = c then 2147483648 else w j k
def e_mTal (t : eS) : Option eS := match e_find t.2.1 0, e_find t.2.1 1, e_find t.2.1 2, t.2.2.1 with
  | some (1, j), some (0, x), some (0, _), [] => if j = 275 ∧ 0 ≤ x ∧ x ≤ 3 ∧ t.2.2.2 275 7 = 280 then some (25, t.2.1, [], e_hv 280 t.2.2.2) else none
  | _, _, _, _ => none
theorem e_rf.hv {w w' : eW} (hw : e_rf w w') (c : Int) : e_rf (e_hv c w) (e_hv c w') := by
  intro a b hab
  unfold e_hv at hab ⊢
  split
  · rename_i q
    exact absurd hab (by rw [if_pos q]; decide)
  · rename_i q
    rw [if_neg q] at hab
    exact hw a b hab
theorem ni0_mTal : e_NI0 e_mTal := fun p l l' st w w' t ht hs hw => by
  unfold e_mTal at ht ⊢
  simp only at ht ⊢
  split at ht
  · rename_i j x y h0 h1 h2
    split at ht
    · rename_i hc
      cases ht
      refine ⟨l', e_hv 280 w', ?_, hs, hw.hv 280, fun e => by rw [e]⟩
      rw [hs.find h0, hs.find h1, hs.find h2]
      have e : w' 275 7 = 280 := Eq.trans (hw 275 7 (by rw [hc.2.2.2]; decide)) hc.2.2.2
      exact if_pos ⟨hc.1, hc.2.1, hc.2.2.1, e⟩
    · cases ht
  · cases ht
theorem ni_mTal : e_NI elay e_mTal := ⟨ni0_mTal, fun t t' ht c k ho => by
  obtain ⟨p, l, st, w⟩ := t
  unfold e_mTal at ht
  simp only at ht
  split at ht
  · split at ht
    · cases ht
      show (if c = 280 then 2147483648 else w c k) = w c k
      rw [if_neg ho.2.1]
    · cases ht
  · cases ht⟩
def te_389m : Nat → eE := fun pc => bif Nat.beq pc 0 then (0, e_mTal, 0, 0) else te_389 pc
/-- the types lie within int -/
def tyP (x : Int × Int) : Prop := x.1 ≤ x.2 → -2147483648 ≤ x.1 ∧ x.2 ≤ 2147483647
theorem tyP.nth : ∀ {l : List (Int × Int)} (_ : ∀ x ∈ l, tyP x) (k : Nat), tyP (x_nthP l k) := fun {l} h k => by
  unfold x_nthP
  split
  · rename_i x hx
    rw [x_at_eq] at hx
    exact h x (List.mem_of_getElem? hx)
  · intro q; exact absurd q (by decide)
theorem tyP.ite {c : Prop} [Decidable c] {a b : Int × Int} (ha : tyP a) (hb : tyP b) : tyP (if c then a else b) := by
  by_cases h : c
  · rw [if_pos h]; exact ha
  · rw [if_neg h]; exact hb
theorem tyP.now (k : Int) : tyP (nowR k) := by
  have h0 : ∀ x ∈ nHead, tyP x := by unfold tyP; decide +kernel
  have h1 : ∀ x ∈ nArm, tyP x := by unfold tyP; decide +kernel
  have ha : tyP (-2147483648, 2147483647) := by unfold tyP; decide
  have ht : ∀ f, tyP (nTask f) := fun f => by
    refine tyP.ite (tyP.nth ?_ _) (tyP.ite (tyP.ite ?_ ?_) ha) <;> (unfold tyP; decide +kernel)
  refine tyP.ite (tyP.nth h0 _) (tyP.ite (tyP.nth h1 _) (tyP.ite ha (tyP.ite ?_ (tyP.ite ha (tyP.ite (ht _) (tyP.ite (tyP.ite ?_ ha) (tyP.ite (tyP.ite ?_ ?_) (tyP.ite (tyP.ite ha ?_) (tyP.ite ?_ (tyP.ite ha (tyP.ite ?_ ha))))))))))) <;> (unfold tyP; decide)
theorem tyP.m (c k : Int) : tyP (mTy c k) := by
  unfold mTy
  split
  · split
    · refine tyP.nth ?_ _
      unfold tyP; decide +kernel
    · unfold tyP; decide
  · exact tyP.now k
  · refine tyP.nth ?_ _
    unfold tyP; decide +kernel
theorem e_Has.rf {w w' : eW} (h : e_Has mTy w) (hw : e_rf w w') : e_Has mTy w' := fun c k hl => by
  have q := h c k hl
  have t := tyP.m c k hl
  rw [hw c k (by unfold e_okz; simp only [Bool.and_eq_true, decide_eq_true_eq]; omega)]
  exact q
/-- countJoints, told in short: it only counts -/
def e_mCj (t : eS) : Option eS := match e_find t.2.1 0, e_find t.2.1 1, t.2.2.1 with
  | some (1, j), some (0, _), [] => @ite (Option eS) (j = 275 ∧ e_Has mTy t.2.2.2) (Classical.propDecidable _) (some (185, [], [], e_hv 280 t.2.2.2)) none
  | _, _, _ => none
theorem ni0_mCj : e_NI0 e_mCj := fun p l l' st w w' t ht hs hw => by
  unfold e_mCj at ht ⊢
  simp only at ht ⊢
  split at ht
  · rename_i j x h0 h1
    split at ht
    · rename_i hc
      cases ht
      refine ⟨[], e_hv 280 w', ?_, ⟨List.nodup_nil, fun _ h => h⟩, hw.hv 280, fun e => by rw [e]⟩
      rw [hs.find h0, hs.find h1]
      exact if_pos ⟨hc.1, e_Has.rf hc.2 hw⟩
    · cases ht
  · cases ht
theorem ni_mCj : e_NI elay e_mCj := ⟨ni0_mCj, fun t t' ht c k ho => by
  obtain ⟨p, l, st, w⟩ := t
  unfold e_mCj at ht
  simp only at ht
  split at ht
  · split at ht
    · cases ht
      show (if c = 280 then 2147483648 else w c k) = w c k
      rw [if_neg ho.2.1]
    · cases ht
  · cases ht⟩
def te_403m : Nat → eE := fun pc => bif Nat.beq pc 0 then (0, e_mCj, 0, 0) else te_403 pc
/-! the places with texts, sines, the lesser of two longs -/
def e_S (g : List eV → Option (Nat × List eV)) : eS → Option eS := fun t => (g t.2.2.1).map (fun q => (q.1, t.2.1, q.2, t.2.2.2))
theorem ni_S {lay : List eY} {g : List eV → Option (Nat × List eV)} : e_NI lay (e_S g) := e_NI.stk g (fun _ => rfl)
def e_len (j : Int) : Option Int := if j = 357 then some 171 else if j = 358 then some 13 else none
def e_chr (j i : Int) : Option Int := if j = 357 ∧ 0 ≤ i ∧ i < 171 then some ((e_key.getD i.toNat 0).toInt) else if j = 358 ∧ 0 ≤ i ∧ i < 13 then some ((e_sgn.getD i.toNat 0).toInt) else none
def e_idx (j c : Int) : Option Int := if j = 358 then some (match e_sgn.findIdx? (fun z => decide (z.toInt = c)) with
  | some k => (k : Int)
  | none => -1) else none
def g_sl (nx : Nat) : List eV → Option (Nat × List eV)
  | (1, j) :: r => bif Nat.ble (e_cats r) 8 then (e_len j).map (fun n => (nx, (0, n) :: r)) else none
  | _ => none
def g_sc (nx : Nat) : List eV → Option (Nat × List eV)
  | (0, i) :: (1, j) :: r => bif Nat.ble (e_cats r) 8 then (e_chr j i).map (fun n => (nx, (0, n) :: r)) else none
  | _ => none
def g_ix (nx : Nat) : List eV → Option (Nat × List eV)
  | (0, c) :: (1, j) :: r => bif Nat.ble (e_cats r) 8 then (e_idx j c).map (fun n => (nx, (0, n) :: r)) else none
  | _ => none
def g_sn (nx : Nat) : List eV → Option (Nat × List eV)
  | (0, i) :: (1, j) :: r => if j = 359 ∧ 0 ≤ i ∧ i < 1025 then some (nx, (0, (e_sin.getD i.toNat 0).toInt) :: r) else none
  | _ => none
def g_ml (nx : Nat) : List eV → Option (Nat × List eV)
  | (4, y) :: (4, x) :: r => bif Nat.ble (e_cats r) 8 then some (nx, (4, if x ≤ y then x else y) :: r) else none
  | _ => none
def te_126m : Nat → eE := fun pc => bif Nat.beq pc 15 then (0, ei_push (1, 357) 17, 0, 0) else bif Nat.beq pc 17 then (0, e_S (g_sl 20), 0, 0) else bif Nat.beq pc 23 then (0, ei_push (1, 357) 25, 0, 0) else bif Nat.beq pc 27 then (0, e_S (g_sc 30), 0, 0) else te_126 pc
def te_127m : Nat → eE := fun pc => bif Nat.beq pc 49 then (0, e_S (g_ml 52), 0, 0) else te_127 pc
def te_128m : Nat → eE := fun pc => bif Nat.beq pc 10 then (0, ei_push (1, 358) 12, 0, 0) else bif Nat.beq pc 14 then (0, e_S (g_ix 17), 0, 0) else te_128 pc
def te_249m : Nat → eE := fun pc => bif Nat.beq pc 13 then (0, ei_push (1, 359) 16, 0, 0) else bif Nat.beq pc 17 then (0, e_S (g_sn 18), 0, 0) else bif Nat.beq pc 26 then (0, ei_push (1, 359) 29, 0, 0) else bif Nat.beq pc 34 then (0, e_S (g_sn 35), 0, 0) else bif Nat.beq pc 43 then (0, ei_push (1, 359) 46, 0, 0) else bif Nat.beq pc 51 then (0, e_S (g_sn 52), 0, 0) else bif Nat.beq pc 54 then (0, ei_push (1, 359) 57, 0, 0) else bif Nat.beq pc 62 then (0, e_S (g_sn 63), 0, 0) else te_249 pc
def te_328m : Nat → eE := fun pc => bif Nat.beq pc 63 then (0, ei_push (1, 357) 66, 0, 0) else bif Nat.beq pc 66 then (0, e_S (g_sl 69), 0, 0) else bif Nat.beq pc 75 then (0, ei_push (1, 357) 78, 0, 0) else bif Nat.beq pc 82 then (0, e_S (g_sc 85), 0, 0) else bif Nat.beq pc 90 then (0, ei_push (1, 357) 93, 0, 0) else bif Nat.beq pc 97 then (0, e_S (g_sc 100), 0, 0) else bif Nat.beq pc 120 then (0, ei_push (1, 357) 123, 0, 0) else bif Nat.beq pc 127 then (0, e_S (g_sc 130), 0, 0) else bif Nat.beq pc 159 then (0, ei_push (1, 357) 162, 0, 0) else bif Nat.beq pc 163 then (0, e_S (g_sc 166), 0, 0) else te_328 pc
def ecode : Nat → Nat → eE := (e_TC 225 (e_TC 112 (e_TC 55 (e_TC 27 (e_TC 13 (e_TC 6 (e_TC 2 (e_TC 0 (fun _ => fun _ => e_e7) (e_TC 1 (fun _ => te_1) (fun _ => te_2))) (e_TC 4 (e_TC 3 (fun _ => te_3) (fun _ => te_4)) (e_TC 5 (fun _ => te_5) (fun _ => te_6)))) (e_TC 9 (e_TC 7 (fun _ => te_7) (e_TC 8 (fun _ => te_8) (fun _ => te_9))) (e_TC 11 (e_TC 10 (fun _ => te_10) (fun _ => te_11)) (e_TC 12 (fun _ => te_12) (fun _ => te_13))))) (e_TC 20 (e_TC 16 (e_TC 14 (fun _ => te_14) (e_TC 15 (fun _ => te_15) (fun _ => te_16))) (e_TC 18 (e_TC 17 (fun _ => te_17) (fun _ => te_18)) (e_TC 19 (fun _ => te_19) (fun _ => te_20)))) (e_TC 23 (e_TC 21 (fun _ => te_21) (e_TC 22 (fun _ => te_22) (fun _ => te_23))) (e_TC 25 (e_TC 24 (fun _ => te_24) (fun _ => te_25)) (e_TC 26 (fun _ => te_26) (fun _ => te_27)))))) (e_TC 41 (e_TC 34 (e_TC 30 (e_TC 28 (fun _ => te_28) (e_TC 29 (fun _ => te_29) (fun _ => te_30))) (e_TC 32 (e_TC 31 (fun _ => te_31) (fun _ => te_32)) (e_TC 33 (fun _ => te_33) (fun _ => te_34)))) (e_TC 37 (e_TC 35 (fun _ => te_35) (e_TC 36 (fun _ => te_36) (fun _ => te_37))) (e_TC 39 (e_TC 38 (fun _ => te_38) (fun _ => te_39)) (e_TC 40 (fun _ => te_40) (fun _ => te_41))))) (e_TC 48 (e_TC 44 (e_TC 42 (fun _ => te_42) (e_TC 43 (fun _ => te_43) (fun _ => te_44))) (e_TC 46 (e_TC 45 (fun _ => te_45) (fun _ => te_46)) (e_TC 47 (fun _ => te_47) (fun _ => te_48)))) (e_TC 51 (e_TC 49 (fun _ => te_49) (e_TC 50 (fun _ => te_50) (fun _ => te_51))) (e_TC 53 (e_TC 52 (fun _ => te_52) (fun _ => te_53)) (e_TC 54 (fun _ => te_54) (fun _ => te_55))))))) (e_TC 83 (e_TC 69 (e_TC 62 (e_TC 58 (e_TC 56 (fun _ => te_56) (e_TC 57 (fun _ => te_57) (fun _ => te_58))) (e_TC 60 (e_TC 59 (fun _ => te_59) (fun _ => te_60)) (e_TC 61 (fun _ => te_61) (fun _ => te_62)))) (e_TC 65 (e_TC 63 (fun _ => te_63) (e_TC 64 (fun _ => te_64) (fun _ => te_65))) (e_TC 67 (e_TC 66 (fun _ => te_66) (fun _ => te_67)) (e_TC 68 (fun _ => te_68) (fun _ => te_69))))) (e_TC 76 (e_TC 72 (e_TC 70 (fun _ => te_70) (e_TC 71 (fun _ => te_71) (fun _ => te_72))) (e_TC 74 (e_TC 73 (fun _ => te_73) (fun _ => te_74)) (e_TC 75 (fun _ => te_75) (fun _ => te_76)))) (e_TC 79 (e_TC 77 (fun _ => te_77) (e_TC 78 (fun _ => te_78) (fun _ => te_79))) (e_TC 81 (e_TC 80 (fun _ => te_80) (fun _ => te_81)) (e_TC 82 (fun _ => te_82) (fun _ => te_83)))))) (e_TC 97 (e_TC 90 (e_TC 86 (e_TC 84 (fun _ => te_84) (e_TC 85 (fun _ => te_85) (fun _ => te_86))) (e_TC 88 (e_TC 87 (fun _ => te_87) (fun _ => te_88)) (e_TC 89 (fun _ => te_89) (fun _ => te_90)))) (e_TC 93 (e_TC 91 (fun _ => te_91) (e_TC 92 (fun _ => te_92) (fun _ => te_93))) (e_TC 95 (e_TC 94 (fun _ => te_94) (fun _ => te_95)) (e_TC 96 (fun _ => te_96) (fun _ => te_97))))) (e_TC 104 (e_TC 100 (e_TC 98 (fun _ => te_98) (e_TC 99 (fun _ => te_99) (fun _ => te_100))) (e_TC 102 (e_TC 101 (fun _ => te_101) (fun _ => te_102)) (e_TC 103 (fun _ => te_103) (fun _ => te_104)))) (e_TC 108 (e_TC 106 (e_TC 105 (fun _ => te_105) (fun _ => te_106)) (e_TC 107 (fun _ => te_107) (fun _ => te_108))) (e_TC 110 (e_TC 109 (fun _ => te_109) (fun _ => te_110)) (e_TC 111 (fun _ => te_111) (fun _ => te_112)))))))) (e_TC 168 (e_TC 140 (e_TC 126 (e_TC 119 (e_TC 115 (e_TC 113 (fun _ => te_113) (e_TC 114 (fun _ => te_114) (fun _ => te_115))) (e_TC 117 (e_TC 116 (fun _ => te_116) (fun _ => te_117)) (e_TC 118 (fun _ => te_118) (fun _ => te_119)))) (e_TC 122 (e_TC 120 (fun _ => te_120) (e_TC 121 (fun _ => te_121) (fun _ => te_122))) (e_TC 124 (e_TC 123 (fun _ => te_123) (fun _ => te_124)) (e_TC 125 (fun _ => te_125) (fun _ => te_126m))))) (e_TC 133 (e_TC 129 (e_TC 127 (fun _ => te_127m) (e_TC 128 (fun _ => te_128m) (fun _ => te_129))) (e_TC 131 (e_TC 130 (fun _ => te_130) (fun _ => te_131)) (e_TC 132 (fun _ => te_132) (fun _ => te_133)))) (e_TC 136 (e_TC 134 (fun _ => te_134) (e_TC 135 (fun _ => te_135) (fun _ => te_136))) (e_TC 138 (e_TC 137 (fun _ => te_137) (fun _ => te_138)) (e_TC 139 (fun _ => te_139) (fun _ => te_140)))))) (e_TC 154 (e_TC 147 (e_TC 143 (e_TC 141 (fun _ => te_141) (e_TC 142 (fun _ => te_142) (fun _ => te_143))) (e_TC 145 (e_TC 144 (fun _ => te_144) (fun _ => te_145)) (e_TC 146 (fun _ => te_146) (fun _ => te_147)))) (e_TC 150 (e_TC 148 (fun _ => te_148) (e_TC 149 (fun _ => te_149) (fun _ => te_150))) (e_TC 152 (e_TC 151 (fun _ => te_151) (fun _ => te_152)) (e_TC 153 (fun _ => te_153) (fun _ => te_154))))) (e_TC 161 (e_TC 157 (e_TC 155 (fun _ => te_155) (e_TC 156 (fun _ => te_156) (fun _ => te_157))) (e_TC 159 (e_TC 158 (fun _ => te_158) (fun _ => te_159)) (e_TC 160 (fun _ => te_160) (fun _ => te_161)))) (e_TC 164 (e_TC 162 (fun _ => te_162) (e_TC 163 (fun _ => te_163) (fun _ => te_164))) (e_TC 166 (e_TC 165 (fun _ => te_165) (fun _ => te_166)) (e_TC 167 (fun _ => te_167) (fun _ => te_168))))))) (e_TC 196 (e_TC 182 (e_TC 175 (e_TC 171 (e_TC 169 (fun _ => te_169) (e_TC 170 (fun _ => te_170) (fun _ => te_171))) (e_TC 173 (e_TC 172 (fun _ => te_172) (fun _ => te_173)) (e_TC 174 (fun _ => te_174) (fun _ => te_175)))) (e_TC 178 (e_TC 176 (fun _ => te_176) (e_TC 177 (fun _ => te_177) (fun _ => te_178))) (e_TC 180 (e_TC 179 (fun _ => te_179) (fun _ => te_180)) (e_TC 181 (fun _ => te_181) (fun _ => te_182))))) (e_TC 189 (e_TC 185 (e_TC 183 (fun _ => te_183) (e_TC 184 (fun _ => te_184) (fun _ => te_185))) (e_TC 187 (e_TC 186 (fun _ => te_186) (fun _ => te_187)) (e_TC 188 (fun _ => te_188) (fun _ => te_189)))) (e_TC 192 (e_TC 190 (fun _ => te_190) (e_TC 191 (fun _ => te_191) (fun _ => te_192))) (e_TC 194 (e_TC 193 (fun _ => te_193) (fun _ => te_194)) (e_TC 195 (fun _ => te_195) (fun _ => te_196)))))) (e_TC 210 (e_TC 203 (e_TC 199 (e_TC 197 (fun _ => te_197) (e_TC 198 (fun _ => te_198) (fun _ => te_199))) (e_TC 201 (e_TC 200 (fun _ => te_200) (fun _ => te_201)) (e_TC 202 (fun _ => te_202) (fun _ => te_203)))) (e_TC 206 (e_TC 204 (fun _ => te_204) (e_TC 205 (fun _ => te_205) (fun _ => te_206))) (e_TC 208 (e_TC 207 (fun _ => te_207) (fun _ => te_208)) (e_TC 209 (fun _ => te_209) (fun _ => te_210))))) (e_TC 217 (e_TC 213 (e_TC 211 (fun _ => te_211) (e_TC 212 (fun _ => te_212) (fun _ => te_213))) (e_TC 215 (e_TC 214 (fun _ => te_214) (fun _ => te_215)) (e_TC 216 (fun _ => te_216) (fun _ => te_217)))) (e_TC 221 (e_TC 219 (e_TC 218 (fun _ => te_218) (fun _ => te_219)) (e_TC 220 (fun _ => te_220) (fun _ => te_221))) (e_TC 223 (e_TC 222 (fun _ => te_222) (fun _ => te_223)) (e_TC 224 (fun _ => te_224) (fun _ => te_225))))))))) (e_TC 338 (e_TC 281 (e_TC 253 (e_TC 239 (e_TC 232 (e_TC 228 (e_TC 226 (fun _ => te_226) (e_TC 227 (fun _ => te_227) (fun _ => te_228))) (e_TC 230 (e_TC 229 (fun _ => te_229) (fun _ => te_230)) (e_TC 231 (fun _ => te_231) (fun _ => te_232)))) (e_TC 235 (e_TC 233 (fun _ => te_233) (e_TC 234 (fun _ => te_234) (fun _ => te_235))) (e_TC 237 (e_TC 236 (fun _ => te_236) (fun _ => te_237)) (e_TC 238 (fun _ => te_238) (fun _ => te_239))))) (e_TC 246 (e_TC 242 (e_TC 240 (fun _ => te_240) (e_TC 241 (fun _ => te_241) (fun _ => te_242))) (e_TC 244 (e_TC 243 (fun _ => te_243) (fun _ => te_244)) (e_TC 245 (fun _ => te_245) (fun _ => te_246)))) (e_TC 249 (e_TC 247 (fun _ => te_247) (e_TC 248 (fun _ => te_248) (fun _ => te_249m))) (e_TC 251 (e_TC 250 (fun _ => te_250) (fun _ => te_251)) (e_TC 252 (fun _ => te_252) (fun _ => te_253)))))) (e_TC 267 (e_TC 260 (e_TC 256 (e_TC 254 (fun _ => te_254) (e_TC 255 (fun _ => te_255) (fun _ => te_256))) (e_TC 258 (e_TC 257 (fun _ => te_257) (fun _ => te_258)) (e_TC 259 (fun _ => te_259) (fun _ => te_260)))) (e_TC 263 (e_TC 261 (fun _ => te_261) (e_TC 262 (fun _ => te_262) (fun _ => te_263))) (e_TC 265 (e_TC 264 (fun _ => te_264) (fun _ => te_265)) (e_TC 266 (fun _ => te_266) (fun _ => te_267))))) (e_TC 274 (e_TC 270 (e_TC 268 (fun _ => te_268) (e_TC 269 (fun _ => te_269) (fun _ => te_270))) (e_TC 272 (e_TC 271 (fun _ => te_271) (fun _ => te_272)) (e_TC 273 (fun _ => te_273) (fun _ => te_274)))) (e_TC 277 (e_TC 275 (fun _ => te_275) (e_TC 276 (fun _ => te_276) (fun _ => te_277))) (e_TC 279 (e_TC 278 (fun _ => te_278) (fun _ => te_279)) (e_TC 280 (fun _ => te_280) (fun _ => te_281))))))) (e_TC 309 (e_TC 295 (e_TC 288 (e_TC 284 (e_TC 282 (fun _ => te_282) (e_TC 283 (fun _ => te_283) (fun _ => te_284))) (e_TC 286 (e_TC 285 (fun _ => te_285) (fun _ => te_286)) (e_TC 287 (fun _ => te_287) (fun _ => te_288)))) (e_TC 291 (e_TC 289 (fun _ => te_289) (e_TC 290 (fun _ => te_290) (fun _ => te_291))) (e_TC 293 (e_TC 292 (fun _ => te_292) (fun _ => te_293)) (e_TC 294 (fun _ => te_294) (fun _ => te_295))))) (e_TC 302 (e_TC 298 (e_TC 296 (fun _ => te_296) (e_TC 297 (fun _ => te_297) (fun _ => te_298))) (e_TC 300 (e_TC 299 (fun _ => te_299) (fun _ => te_300)) (e_TC 301 (fun _ => te_301) (fun _ => te_302)))) (e_TC 305 (e_TC 303 (fun _ => te_303) (e_TC 304 (fun _ => te_304) (fun _ => te_305))) (e_TC 307 (e_TC 306 (fun _ => te_306) (fun _ => te_307)) (e_TC 308 (fun _ => te_308) (fun _ => te_309)))))) (e_TC 323 (e_TC 316 (e_TC 312 (e_TC 310 (fun _ => te_310) (e_TC 311 (fun _ => te_311) (fun _ => te_312))) (e_TC 314 (e_TC 313 (fun _ => te_313) (fun _ => te_314)) (e_TC 315 (fun _ => te_315) (fun _ => te_316)))) (e_TC 319 (e_TC 317 (fun _ => te_317) (e_TC 318 (fun _ => te_318) (fun _ => te_319))) (e_TC 321 (e_TC 320 (fun _ => te_320) (fun _ => te_321)) (e_TC 322 (fun _ => te_322) (fun _ => te_323))))) (e_TC 330 (e_TC 326 (e_TC 324 (fun _ => te_324) (e_TC 325 (fun _ => te_325) (fun _ => te_326))) (e_TC 328 (e_TC 327 (fun _ => te_327) (fun _ => te_328m)) (e_TC 329 (fun _ => te_329) (fun _ => te_330)))) (e_TC 334 (e_TC 332 (e_TC 331 (fun _ => te_331) (fun _ => te_332)) (e_TC 333 (fun _ => te_333) (fun _ => te_334))) (e_TC 336 (e_TC 335 (fun _ => te_335) (fun _ => te_336)) (e_TC 337 (fun _ => te_337) (fun _ => te_338)))))))) (e_TC 395 (e_TC 366 (e_TC 352 (e_TC 345 (e_TC 341 (e_TC 339 (fun _ => te_339) (e_TC 340 (fun _ => te_340) (fun _ => te_341))) (e_TC 343 (e_TC 342 (fun _ => te_342) (fun _ => te_343)) (e_TC 344 (fun _ => te_344) (fun _ => te_345)))) (e_TC 348 (e_TC 346 (fun _ => te_346) (e_TC 347 (fun _ => te_347) (fun _ => te_348))) (e_TC 350 (e_TC 349 (fun _ => te_349) (fun _ => te_350)) (e_TC 351 (fun _ => te_351) (fun _ => te_352))))) (e_TC 359 (e_TC 355 (e_TC 353 (fun _ => te_353) (e_TC 354 (fun _ => te_354) (fun _ => te_355))) (e_TC 357 (e_TC 356 (fun _ => te_356) (fun _ => te_357)) (e_TC 358 (fun _ => te_358) (fun _ => te_359)))) (e_TC 362 (e_TC 360 (fun _ => te_360) (e_TC 361 (fun _ => te_361) (fun _ => te_362))) (e_TC 364 (e_TC 363 (fun _ => te_363) (fun _ => te_364)) (e_TC 365 (fun _ => te_365) (fun _ => te_366)))))) (e_TC 380 (e_TC 373 (e_TC 369 (e_TC 367 (fun _ => te_367) (e_TC 368 (fun _ => te_368) (fun _ => te_369))) (e_TC 371 (e_TC 370 (fun _ => te_370) (fun _ => te_371)) (e_TC 372 (fun _ => te_372) (fun _ => te_373)))) (e_TC 376 (e_TC 374 (fun _ => te_374) (e_TC 375 (fun _ => te_375) (fun _ => te_376))) (e_TC 378 (e_TC 377 (fun _ => te_377) (fun _ => te_378)) (e_TC 379 (fun _ => te_379) (fun _ => te_380))))) (e_TC 387 (e_TC 383 (e_TC 381 (fun _ => te_381) (e_TC 382 (fun _ => te_382) (fun _ => te_383))) (e_TC 385 (e_TC 384 (fun _ => te_384) (fun _ => te_385)) (e_TC 386 (fun _ => te_386) (fun _ => te_387)))) (e_TC 391 (e_TC 389 (e_TC 388 (fun _ => te_388) (fun _ => te_389m)) (e_TC 390 (fun _ => te_390) (fun _ => te_391))) (e_TC 393 (e_TC 392 (fun _ => te_392) (fun _ => te_393)) (e_TC 394 (fun _ => te_394) (fun _ => te_395))))))) (e_TC 423 (e_TC 409 (e_TC 402 (e_TC 398 (e_TC 396 (fun _ => te_396) (e_TC 397 (fun _ => te_397) (fun _ => te_398))) (e_TC 400 (e_TC 399 (fun _ => te_399) (fun _ => te_400)) (e_TC 401 (fun _ => te_401) (fun _ => te_402)))) (e_TC 405 (e_TC 403 (fun _ => te_403m) (e_TC 404 (fun _ => te_404) (fun _ => te_405))) (e_TC 407 (e_TC 406 (fun _ => te_406) (fun _ => te_407)) (e_TC 408 (fun _ => te_408) (fun _ => te_409))))) (e_TC 416 (e_TC 412 (e_TC 410 (fun _ => te_410) (e_TC 411 (fun _ => te_411) (fun _ => te_412))) (e_TC 414 (e_TC 413 (fun _ => te_413) (fun _ => te_414)) (e_TC 415 (fun _ => te_415) (fun _ => te_416)))) (e_TC 419 (e_TC 417 (fun _ => te_417) (e_TC 418 (fun _ => te_418) (fun _ => te_419))) (e_TC 421 (e_TC 420 (fun _ => te_420) (fun _ => te_421)) (e_TC 422 (fun _ => te_422) (fun _ => te_423)))))) (e_TC 437 (e_TC 430 (e_TC 426 (e_TC 424 (fun _ => te_424) (e_TC 425 (fun _ => te_425) (fun _ => te_426))) (e_TC 428 (e_TC 427 (fun _ => te_427) (fun _ => te_428)) (e_TC 429 (fun _ => te_429) (fun _ => te_430)))) (e_TC 433 (e_TC 431 (fun _ => te_431) (e_TC 432 (fun _ => te_432) (fun _ => te_433))) (e_TC 435 (e_TC 434 (fun _ => te_434) (fun _ => te_435)) (e_TC 436 (fun _ => te_436) (fun _ => te_437))))) (e_TC 444 (e_TC 440 (e_TC 438 (fun _ => te_438) (e_TC 439 (fun _ => te_439) (fun _ => te_440))) (e_TC 442 (e_TC 441 (fun _ => te_441) (fun _ => te_442)) (e_TC 443 (fun _ => te_443) (fun _ => te_444)))) (e_TC 448 (e_TC 446 (e_TC 445 (fun _ => te_445) (fun _ => te_446)) (e_TC 447 (fun _ => te_447) (fun _ => te_448))) (e_TC 450 (e_TC 449 (fun _ => te_449) (fun _ => te_450)) (e_TC 451 (fun _ => te_451) (fun _ => te_452))))))))))
def e_niP (en : eE) : Prop := ∀ f a b, en = (0, f, a, b) → e_NI elay f
theorem e_niP.of {q : xM} {pc : Nat} {en : eE} (h : e_EOq eft cls elay eI q pc en) : e_niP en := fun f a b e => by
  rw [e] at h
  exact h.2.1
theorem e_niP.tc {k : Nat} {a b : Nat → Nat → eE} (ha : ∀ M pc, e_niP (a M pc)) (hb : ∀ M pc, e_niP (b M pc)) : ∀ M pc, e_niP (e_TC k a b M pc) := fun M pc => by
  unfold e_TC
  cases Nat.ble M k with
  | true => exact ha M pc
  | false => exact hb M pc
theorem e_ni_tal (pc : Nat) : e_niP (te_389m pc) := fun f a b e => by
  unfold te_389m at e
  cases hb : Nat.beq pc 0 with
  | true => rw [hb] at e; cases e; exact ni_mTal
  | false => rw [hb] at e; exact e_niP.of (te_389_ok pc) f a b e
theorem e_ni_cj (pc : Nat) : e_niP (te_403m pc) := fun f a b e => by
  unfold te_403m at e
  cases hb : Nat.beq pc 0 with
  | true => rw [hb] at e; cases e; exact ni_mCj
  | false => rw [hb] at e; exact e_niP.of (te_403_ok pc) f a b e
theorem e_niP.bif {c : Bool} {x y : eE} (hx : e_niP x) (hy : e_niP y) : e_niP (bif c then x else y) := by
  cases c
  · exact hy
  · exact hx
theorem e_niP.en {f : eS → Option eS} (h : e_NI elay f) : e_niP (0, f, 0, 0) := fun f' a b e => by cases e; exact h
theorem e_ni_126 (pc : Nat) : e_niP (te_126m pc) := (e_niP.bif (e_niP.en ni_push) (e_niP.bif (e_niP.en ni_S) (e_niP.bif (e_niP.en ni_push) (e_niP.bif (e_niP.en ni_S) (e_niP.of (te_126_ok pc))))))
theorem e_ni_127 (pc : Nat) : e_niP (te_127m pc) := (e_niP.bif (e_niP.en ni_S) (e_niP.of (te_127_ok pc)))
theorem e_ni_128 (pc : Nat) : e_niP (te_128m pc) := (e_niP.bif (e_niP.en ni_push) (e_niP.bif (e_niP.en ni_S) (e_niP.of (te_128_ok pc))))
theorem e_ni_249 (pc : Nat) : e_niP (te_249m pc) := (e_niP.bif (e_niP.en ni_push) (e_niP.bif (e_niP.en ni_S) (e_niP.bif (e_niP.en ni_push) (e_niP.bif (e_niP.en ni_S) (e_niP.bif (e_niP.en ni_push) (e_niP.bif (e_niP.en ni_S) (e_niP.bif (e_niP.en ni_push) (e_niP.bif (e_niP.en ni_S) (e_niP.of (te_249_ok pc))))))))))
theorem e_ni_328 (pc : Nat) : e_niP (te_328m pc) := (e_niP.bif (e_niP.en ni_push) (e_niP.bif (e_niP.en ni_S) (e_niP.bif (e_niP.en ni_push) (e_niP.bif (e_niP.en ni_S) (e_niP.bif (e_niP.en ni_push) (e_niP.bif (e_niP.en ni_S) (e_niP.bif (e_niP.en ni_push) (e_niP.bif (e_niP.en ni_S) (e_niP.bif (e_niP.en ni_push) (e_niP.bif (e_niP.en ni_S) (e_niP.of (te_328_ok pc))))))))))))
set_option maxRecDepth 20000 in
set_option maxHeartbeats 4000000 in
theorem e_ni : ∀ M pc, e_niP (ecode M pc) := (e_niP.tc (k := 225) (e_niP.tc (k := 112) (e_niP.tc (k := 55) (e_niP.tc (k := 27) (e_niP.tc (k := 13) (e_niP.tc (k := 6) (e_niP.tc (k := 2) (e_niP.tc (k := 0) (fun _ _ f a b e => by cases e)
 (e_niP.tc (k := 1) (fun _ pc => e_niP.of (te_1_ok pc))
 (fun _ pc => e_niP.of (te_2_ok pc))))
 (e_niP.tc (k := 4) (e_niP.tc (k := 3) (fun _ pc => e_niP.of (te_3_ok pc))
 (fun _ pc => e_niP.of (te_4_ok pc)))
 (e_niP.tc (k := 5) (fun _ pc => e_niP.of (te_5_ok pc))
 (fun _ pc => e_niP.of (te_6_ok pc)))))
 (e_niP.tc (k := 9) (e_niP.tc (k := 7) (fun _ pc => e_niP.of (te_7_ok pc))
 (e_niP.tc (k := 8) (fun _ pc => e_niP.of (te_8_ok pc))
 (fun _ pc => e_niP.of (te_9_ok pc))))
 (e_niP.tc (k := 11) (e_niP.tc (k := 10) (fun _ pc => e_niP.of (te_10_ok pc))
 (fun _ pc => e_niP.of (te_11_ok pc)))
 (e_niP.tc (k := 12) (fun _ pc => e_niP.of (te_12_ok pc))
 (fun _ pc => e_niP.of (te_13_ok pc))))))
 (e_niP.tc (k := 20) (e_niP.tc (k := 16) (e_niP.tc (k := 14) (fun _ pc => e_niP.of (te_14_ok pc))
 (e_niP.tc (k := 15) (fun _ pc => e_niP.of (te_15_ok pc))
 (fun _ pc => e_niP.of (te_16_ok pc))))
 (e_niP.tc (k := 18) (e_niP.tc (k := 17) (fun _ pc => e_niP.of (te_17_ok pc))
 (fun _ pc => e_niP.of (te_18_ok pc)))
 (e_niP.tc (k := 19) (fun _ pc => e_niP.of (te_19_ok pc))
 (fun _ pc => e_niP.of (te_20_ok pc)))))
 (e_niP.tc (k := 23) (e_niP.tc (k := 21) (fun _ pc => e_niP.of (te_21_ok pc))
 (e_niP.tc (k := 22) (fun _ pc => e_niP.of (te_22_ok pc))
 (fun _ pc => e_niP.of (te_23_ok pc))))
 (e_niP.tc (k := 25) (e_niP.tc (k := 24) (fun _ pc => e_niP.of (te_24_ok pc))
 (fun _ pc => e_niP.of (te_25_ok pc)))
 (e_niP.tc (k := 26) (fun _ pc => e_niP.of (te_26_ok pc))
 (fun _ pc => e_niP.of (te_27_ok pc)))))))
 (e_niP.tc (k := 41) (e_niP.tc (k := 34) (e_niP.tc (k := 30) (e_niP.tc (k := 28) (fun _ pc => e_niP.of (te_28_ok pc))
 (e_niP.tc (k := 29) (fun _ pc => e_niP.of (te_29_ok pc))
 (fun _ pc => e_niP.of (te_30_ok pc))))
 (e_niP.tc (k := 32) (e_niP.tc (k := 31) (fun _ pc => e_niP.of (te_31_ok pc))
 (fun _ pc => e_niP.of (te_32_ok pc)))
 (e_niP.tc (k := 33) (fun _ pc => e_niP.of (te_33_ok pc))
 (fun _ pc => e_niP.of (te_34_ok pc)))))
 (e_niP.tc (k := 37) (e_niP.tc (k := 35) (fun _ pc => e_niP.of (te_35_ok pc))
 (e_niP.tc (k := 36) (fun _ pc => e_niP.of (te_36_ok pc))
 (fun _ pc => e_niP.of (te_37_ok pc))))
 (e_niP.tc (k := 39) (e_niP.tc (k := 38) (fun _ pc => e_niP.of (te_38_ok pc))
 (fun _ pc => e_niP.of (te_39_ok pc)))
 (e_niP.tc (k := 40) (fun _ pc => e_niP.of (te_40_ok pc))
 (fun _ pc => e_niP.of (te_41_ok pc))))))
 (e_niP.tc (k := 48) (e_niP.tc (k := 44) (e_niP.tc (k := 42) (fun _ pc => e_niP.of (te_42_ok pc))
 (e_niP.tc (k := 43) (fun _ pc => e_niP.of (te_43_ok pc))
 (fun _ pc => e_niP.of (te_44_ok pc))))
 (e_niP.tc (k := 46) (e_niP.tc (k := 45) (fun _ pc => e_niP.of (te_45_ok pc))
 (fun _ pc => e_niP.of (te_46_ok pc)))
 (e_niP.tc (k := 47) (fun _ pc => e_niP.of (te_47_ok pc))
 (fun _ pc => e_niP.of (te_48_ok pc)))))
 (e_niP.tc (k := 51) (e_niP.tc (k := 49) (fun _ pc => e_niP.of (te_49_ok pc))
 (e_niP.tc (k := 50) (fun _ pc => e_niP.of (te_50_ok pc))
 (fun _ pc => e_niP.of (te_51_ok pc))))
 (e_niP.tc (k := 53) (e_niP.tc (k := 52) (fun _ pc => e_niP.of (te_52_ok pc))
 (fun _ pc => e_niP.of (te_53_ok pc)))
 (e_niP.tc (k := 54) (fun _ pc => e_niP.of (te_54_ok pc))
 (fun _ pc => e_niP.of (te_55_ok pc))))))))
 (e_niP.tc (k := 83) (e_niP.tc (k := 69) (e_niP.tc (k := 62) (e_niP.tc (k := 58) (e_niP.tc (k := 56) (fun _ pc => e_niP.of (te_56_ok pc))
 (e_niP.tc (k := 57) (fun _ pc => e_niP.of (te_57_ok pc))
 (fun _ pc => e_niP.of (te_58_ok pc))))
 (e_niP.tc (k := 60) (e_niP.tc (k := 59) (fun _ pc => e_niP.of (te_59_ok pc))
 (fun _ pc => e_niP.of (te_60_ok pc)))
 (e_niP.tc (k := 61) (fun _ pc => e_niP.of (te_61_ok pc))
 (fun _ pc => e_niP.of (te_62_ok pc)))))
 (e_niP.tc (k := 65) (e_niP.tc (k := 63) (fun _ pc => e_niP.of (te_63_ok pc))
 (e_niP.tc (k := 64) (fun _ pc => e_niP.of (te_64_ok pc))
 (fun _ pc => e_niP.of (te_65_ok pc))))
 (e_niP.tc (k := 67) (e_niP.tc (k := 66) (fun _ pc => e_niP.of (te_66_ok pc))
 (fun _ pc => e_niP.of (te_67_ok pc)))
 (e_niP.tc (k := 68) (fun _ pc => e_niP.of (te_68_ok pc))
 (fun _ pc => e_niP.of (te_69_ok pc))))))
 (e_niP.tc (k := 76) (e_niP.tc (k := 72) (e_niP.tc (k := 70) (fun _ pc => e_niP.of (te_70_ok pc))
 (e_niP.tc (k := 71) (fun _ pc => e_niP.of (te_71_ok pc))
 (fun _ pc => e_niP.of (te_72_ok pc))))
 (e_niP.tc (k := 74) (e_niP.tc (k := 73) (fun _ pc => e_niP.of (te_73_ok pc))
 (fun _ pc => e_niP.of (te_74_ok pc)))
 (e_niP.tc (k := 75) (fun _ pc => e_niP.of (te_75_ok pc))
 (fun _ pc => e_niP.of (te_76_ok pc)))))
 (e_niP.tc (k := 79) (e_niP.tc (k := 77) (fun _ pc => e_niP.of (te_77_ok pc))
 (e_niP.tc (k := 78) (fun _ pc => e_niP.of (te_78_ok pc))
 (fun _ pc => e_niP.of (te_79_ok pc))))
 (e_niP.tc (k := 81) (e_niP.tc (k := 80) (fun _ pc => e_niP.of (te_80_ok pc))
 (fun _ pc => e_niP.of (te_81_ok pc)))
 (e_niP.tc (k := 82) (fun _ pc => e_niP.of (te_82_ok pc))
 (fun _ pc => e_niP.of (te_83_ok pc)))))))
 (e_niP.tc (k := 97) (e_niP.tc (k := 90) (e_niP.tc (k := 86) (e_niP.tc (k := 84) (fun _ pc => e_niP.of (te_84_ok pc))
 (e_niP.tc (k := 85) (fun _ pc => e_niP.of (te_85_ok pc))
 (fun _ pc => e_niP.of (te_86_ok pc))))
 (e_niP.tc (k := 88) (e_niP.tc (k := 87) (fun _ pc => e_niP.of (te_87_ok pc))
 (fun _ pc => e_niP.of (te_88_ok pc)))
 (e_niP.tc (k := 89) (fun _ pc => e_niP.of (te_89_ok pc))
 (fun _ pc => e_niP.of (te_90_ok pc)))))
 (e_niP.tc (k := 93) (e_niP.tc (k := 91) (fun _ pc => e_niP.of (te_91_ok pc))
 (e_niP.tc (k := 92) (fun _ pc => e_niP.of (te_92_ok pc))
 (fun _ pc => e_niP.of (te_93_ok pc))))
 (e_niP.tc (k := 95) (e_niP.tc (k := 94) (fun _ pc => e_niP.of (te_94_ok pc))
 (fun _ pc => e_niP.of (te_95_ok pc)))
 (e_niP.tc (k := 96) (fun _ pc => e_niP.of (te_96_ok pc))
 (fun _ pc => e_niP.of (te_97_ok pc))))))
 (e_niP.tc (k := 104) (e_niP.tc (k := 100) (e_niP.tc (k := 98) (fun _ pc => e_niP.of (te_98_ok pc))
 (e_niP.tc (k := 99) (fun _ pc => e_niP.of (te_99_ok pc))
 (fun _ pc => e_niP.of (te_100_ok pc))))
 (e_niP.tc (k := 102) (e_niP.tc (k := 101) (fun _ pc => e_niP.of (te_101_ok pc))
 (fun _ pc => e_niP.of (te_102_ok pc)))
 (e_niP.tc (k := 103) (fun _ pc => e_niP.of (te_103_ok pc))
 (fun _ pc => e_niP.of (te_104_ok pc)))))
 (e_niP.tc (k := 108) (e_niP.tc (k := 106) (e_niP.tc (k := 105) (fun _ pc => e_niP.of (te_105_ok pc))
 (fun _ pc => e_niP.of (te_106_ok pc)))
 (e_niP.tc (k := 107) (fun _ pc => e_niP.of (te_107_ok pc))
 (fun _ pc => e_niP.of (te_108_ok pc))))
 (e_niP.tc (k := 110) (e_niP.tc (k := 109) (fun _ pc => e_niP.of (te_109_ok pc))
 (fun _ pc => e_niP.of (te_110_ok pc)))
 (e_niP.tc (k := 111) (fun _ pc => e_niP.of (te_111_ok pc))
 (fun _ pc => e_niP.of (te_112_ok pc)))))))))
 (e_niP.tc (k := 168) (e_niP.tc (k := 140) (e_niP.tc (k := 126) (e_niP.tc (k := 119) (e_niP.tc (k := 115) (e_niP.tc (k := 113) (fun _ pc => e_niP.of (te_113_ok pc))
 (e_niP.tc (k := 114) (fun _ pc => e_niP.of (te_114_ok pc))
 (fun _ pc => e_niP.of (te_115_ok pc))))
 (e_niP.tc (k := 117) (e_niP.tc (k := 116) (fun _ pc => e_niP.of (te_116_ok pc))
 (fun _ pc => e_niP.of (te_117_ok pc)))
 (e_niP.tc (k := 118) (fun _ pc => e_niP.of (te_118_ok pc))
 (fun _ pc => e_niP.of (te_119_ok pc)))))
 (e_niP.tc (k := 122) (e_niP.tc (k := 120) (fun _ pc => e_niP.of (te_120_ok pc))
 (e_niP.tc (k := 121) (fun _ pc => e_niP.of (te_121_ok pc))
 (fun _ pc => e_niP.of (te_122_ok pc))))
 (e_niP.tc (k := 124) (e_niP.tc (k := 123) (fun _ pc => e_niP.of (te_123_ok pc))
 (fun _ pc => e_niP.of (te_124_ok pc)))
 (e_niP.tc (k := 125) (fun _ pc => e_niP.of (te_125_ok pc))
 (fun _ pc => e_ni_126 pc)))))
 (e_niP.tc (k := 133) (e_niP.tc (k := 129) (e_niP.tc (k := 127) (fun _ pc => e_ni_127 pc)
 (e_niP.tc (k := 128) (fun _ pc => e_ni_128 pc)
 (fun _ pc => e_niP.of (te_129_ok pc))))
 (e_niP.tc (k := 131) (e_niP.tc (k := 130) (fun _ pc => e_niP.of (te_130_ok pc))
 (fun _ pc => e_niP.of (te_131_ok pc)))
 (e_niP.tc (k := 132) (fun _ pc => e_niP.of (te_132_ok pc))
 (fun _ pc => e_niP.of (te_133_ok pc)))))
 (e_niP.tc (k := 136) (e_niP.tc (k := 134) (fun _ pc => e_niP.of (te_134_ok pc))
 (e_niP.tc (k := 135) (fun _ pc => e_niP.of (te_135_ok pc))
 (fun _ pc => e_niP.of (te_136_ok pc))))
 (e_niP.tc (k := 138) (e_niP.tc (k := 137) (fun _ pc => e_niP.of (te_137_ok pc))
 (fun _ pc => e_niP.of (te_138_ok pc)))
 (e_niP.tc (k := 139) (fun _ pc => e_niP.of (te_139_ok pc))
 (fun _ pc => e_niP.of (te_140_ok pc)))))))
 (e_niP.tc (k := 154) (e_niP.tc (k := 147) (e_niP.tc (k := 143) (e_niP.tc (k := 141) (fun _ pc => e_niP.of (te_141_ok pc))
 (e_niP.tc (k := 142) (fun _ pc => e_niP.of (te_142_ok pc))
 (fun _ pc => e_niP.of (te_143_ok pc))))
 (e_niP.tc (k := 145) (e_niP.tc (k := 144) (fun _ pc => e_niP.of (te_144_ok pc))
 (fun _ pc => e_niP.of (te_145_ok pc)))
 (e_niP.tc (k := 146) (fun _ pc => e_niP.of (te_146_ok pc))
 (fun _ pc => e_niP.of (te_147_ok pc)))))
 (e_niP.tc (k := 150) (e_niP.tc (k := 148) (fun _ pc => e_niP.of (te_148_ok pc))
 (e_niP.tc (k := 149) (fun _ pc => e_niP.of (te_149_ok pc))
 (fun _ pc => e_niP.of (te_150_ok pc))))
 (e_niP.tc (k := 152) (e_niP.tc (k := 151) (fun _ pc => e_niP.of (te_151_ok pc))
 (fun _ pc => e_niP.of (te_152_ok pc)))
 (e_niP.tc (k := 153) (fun _ pc => e_niP.of (te_153_ok pc))
 (fun _ pc => e_niP.of (te_154_ok pc))))))
 (e_niP.tc (k := 161) (e_niP.tc (k := 157) (e_niP.tc (k := 155) (fun _ pc => e_niP.of (te_155_ok pc))
 (e_niP.tc (k := 156) (fun _ pc => e_niP.of (te_156_ok pc))
 (fun _ pc => e_niP.of (te_157_ok pc))))
 (e_niP.tc (k := 159) (e_niP.tc (k := 158) (fun _ pc => e_niP.of (te_158_ok pc))
 (fun _ pc => e_niP.of (te_159_ok pc)))
 (e_niP.tc (k := 160) (fun _ pc => e_niP.of (te_160_ok pc))
 (fun _ pc => e_niP.of (te_161_ok pc)))))
 (e_niP.tc (k := 164) (e_niP.tc (k := 162) (fun _ pc => e_niP.of (te_162_ok pc))
 (e_niP.tc (k := 163) (fun _ pc => e_niP.of (te_163_ok pc))
 (fun _ pc => e_niP.of (te_164_ok pc))))
 (e_niP.tc (k := 166) (e_niP.tc (k := 165) (fun _ pc => e_niP.of (te_165_ok pc))
 (fun _ pc => e_niP.of (te_166_ok pc)))
 (e_niP.tc (k := 167) (fun _ pc => e_niP.of (te_167_ok pc))
 (fun _ pc => e_niP.of (te_168_ok pc))))))))
 (e_niP.tc (k := 196) (e_niP.tc (k := 182) (e_niP.tc (k := 175) (e_niP.tc (k := 171) (e_niP.tc (k := 169) (fun _ pc => e_niP.of (te_169_ok pc))
 (e_niP.tc (k := 170) (fun _ pc => e_niP.of (te_170_ok pc))
 (fun _ pc => e_niP.of (te_171_ok pc))))
 (e_niP.tc (k := 173) (e_niP.tc (k := 172) (fun _ pc => e_niP.of (te_172_ok pc))
 (fun _ pc => e_niP.of (te_173_ok pc)))
 (e_niP.tc (k := 174) (fun _ pc => e_niP.of (te_174_ok pc))
 (fun _ pc => e_niP.of (te_175_ok pc)))))
 (e_niP.tc (k := 178) (e_niP.tc (k := 176) (fun _ pc => e_niP.of (te_176_ok pc))
 (e_niP.tc (k := 177) (fun _ pc => e_niP.of (te_177_ok pc))
 (fun _ pc => e_niP.of (te_178_ok pc))))
 (e_niP.tc (k := 180) (e_niP.tc (k := 179) (fun _ pc => e_niP.of (te_179_ok pc))
 (fun _ pc => e_niP.of (te_180_ok pc)))
 (e_niP.tc (k := 181) (fun _ pc => e_niP.of (te_181_ok pc))
 (fun _ pc => e_niP.of (te_182_ok pc))))))
 (e_niP.tc (k := 189) (e_niP.tc (k := 185) (e_niP.tc (k := 183) (fun _ pc => e_niP.of (te_183_ok pc))
 (e_niP.tc (k := 184) (fun _ pc => e_niP.of (te_184_ok pc))
 (fun _ pc => e_niP.of (te_185_ok pc))))
 (e_niP.tc (k := 187) (e_niP.tc (k := 186) (fun _ pc => e_niP.of (te_186_ok pc))
 (fun _ pc => e_niP.of (te_187_ok pc)))
 (e_niP.tc (k := 188) (fun _ pc => e_niP.of (te_188_ok pc))
 (fun _ pc => e_niP.of (te_189_ok pc)))))
 (e_niP.tc (k := 192) (e_niP.tc (k := 190) (fun _ pc => e_niP.of (te_190_ok pc))
 (e_niP.tc (k := 191) (fun _ pc => e_niP.of (te_191_ok pc))
 (fun _ pc => e_niP.of (te_192_ok pc))))
 (e_niP.tc (k := 194) (e_niP.tc (k := 193) (fun _ pc => e_niP.of (te_193_ok pc))
 (fun _ pc => e_niP.of (te_194_ok pc)))
 (e_niP.tc (k := 195) (fun _ pc => e_niP.of (te_195_ok pc))
 (fun _ pc => e_niP.of (te_196_ok pc)))))))
 (e_niP.tc (k := 210) (e_niP.tc (k := 203) (e_niP.tc (k := 199) (e_niP.tc (k := 197) (fun _ pc => e_niP.of (te_197_ok pc))
 (e_niP.tc (k := 198) (fun _ pc => e_niP.of (te_198_ok pc))
 (fun _ pc => e_niP.of (te_199_ok pc))))
 (e_niP.tc (k := 201) (e_niP.tc (k := 200) (fun _ pc => e_niP.of (te_200_ok pc))
 (fun _ pc => e_niP.of (te_201_ok pc)))
 (e_niP.tc (k := 202) (fun _ pc => e_niP.of (te_202_ok pc))
 (fun _ pc => e_niP.of (te_203_ok pc)))))
 (e_niP.tc (k := 206) (e_niP.tc (k := 204) (fun _ pc => e_niP.of (te_204_ok pc))
 (e_niP.tc (k := 205) (fun _ pc => e_niP.of (te_205_ok pc))
 (fun _ pc => e_niP.of (te_206_ok pc))))
 (e_niP.tc (k := 208) (e_niP.tc (k := 207) (fun _ pc => e_niP.of (te_207_ok pc))
 (fun _ pc => e_niP.of (te_208_ok pc)))
 (e_niP.tc (k := 209) (fun _ pc => e_niP.of (te_209_ok pc))
 (fun _ pc => e_niP.of (te_210_ok pc))))))
 (e_niP.tc (k := 217) (e_niP.tc (k := 213) (e_niP.tc (k := 211) (fun _ pc => e_niP.of (te_211_ok pc))
 (e_niP.tc (k := 212) (fun _ pc => e_niP.of (te_212_ok pc))
 (fun _ pc => e_niP.of (te_213_ok pc))))
 (e_niP.tc (k := 215) (e_niP.tc (k := 214) (fun _ pc => e_niP.of (te_214_ok pc))
 (fun _ pc => e_niP.of (te_215_ok pc)))
 (e_niP.tc (k := 216) (fun _ pc => e_niP.of (te_216_ok pc))
 (fun _ pc => e_niP.of (te_217_ok pc)))))
 (e_niP.tc (k := 221) (e_niP.tc (k := 219) (e_niP.tc (k := 218) (fun _ pc => e_niP.of (te_218_ok pc))
 (fun _ pc => e_niP.of (te_219_ok pc)))
 (e_niP.tc (k := 220) (fun _ pc => e_niP.of (te_220_ok pc))
 (fun _ pc => e_niP.of (te_221_ok pc))))
 (e_niP.tc (k := 223) (e_niP.tc (k := 222) (fun _ pc => e_niP.of (te_222_ok pc))
 (fun _ pc => e_niP.of (te_223_ok pc)))
 (e_niP.tc (k := 224) (fun _ pc => e_niP.of (te_224_ok pc))
 (fun _ pc => e_niP.of (te_225_ok pc))))))))))
 (e_niP.tc (k := 338) (e_niP.tc (k := 281) (e_niP.tc (k := 253) (e_niP.tc (k := 239) (e_niP.tc (k := 232) (e_niP.tc (k := 228) (e_niP.tc (k := 226) (fun _ pc => e_niP.of (te_226_ok pc))
 (e_niP.tc (k := 227) (fun _ pc => e_niP.of (te_227_ok pc))
 (fun _ pc => e_niP.of (te_228_ok pc))))
 (e_niP.tc (k := 230) (e_niP.tc (k := 229) (fun _ pc => e_niP.of (te_229_ok pc))
 (fun _ pc => e_niP.of (te_230_ok pc)))
 (e_niP.tc (k := 231) (fun _ pc => e_niP.of (te_231_ok pc))
 (fun _ pc => e_niP.of (te_232_ok pc)))))
 (e_niP.tc (k := 235) (e_niP.tc (k := 233) (fun _ pc => e_niP.of (te_233_ok pc))
 (e_niP.tc (k := 234) (fun _ pc => e_niP.of (te_234_ok pc))
 (fun _ pc => e_niP.of (te_235_ok pc))))
 (e_niP.tc (k := 237) (e_niP.tc (k := 236) (fun _ pc => e_niP.of (te_236_ok pc))
 (fun _ pc => e_niP.of (te_237_ok pc)))
 (e_niP.tc (k := 238) (fun _ pc => e_niP.of (te_238_ok pc))
 (fun _ pc => e_niP.of (te_239_ok pc))))))
 (e_niP.tc (k := 246) (e_niP.tc (k := 242) (e_niP.tc (k := 240) (fun _ pc => e_niP.of (te_240_ok pc))
 (e_niP.tc (k := 241) (fun _ pc => e_niP.of (te_241_ok pc))
 (fun _ pc => e_niP.of (te_242_ok pc))))
 (e_niP.tc (k := 244) (e_niP.tc (k := 243) (fun _ pc => e_niP.of (te_243_ok pc))
 (fun _ pc => e_niP.of (te_244_ok pc)))
 (e_niP.tc (k := 245) (fun _ pc => e_niP.of (te_245_ok pc))
 (fun _ pc => e_niP.of (te_246_ok pc)))))
 (e_niP.tc (k := 249) (e_niP.tc (k := 247) (fun _ pc => e_niP.of (te_247_ok pc))
 (e_niP.tc (k := 248) (fun _ pc => e_niP.of (te_248_ok pc))
 (fun _ pc => e_ni_249 pc)))
 (e_niP.tc (k := 251) (e_niP.tc (k := 250) (fun _ pc => e_niP.of (te_250_ok pc))
 (fun _ pc => e_niP.of (te_251_ok pc)))
 (e_niP.tc (k := 252) (fun _ pc => e_niP.of (te_252_ok pc))
 (fun _ pc => e_niP.of (te_253_ok pc)))))))
 (e_niP.tc (k := 267) (e_niP.tc (k := 260) (e_niP.tc (k := 256) (e_niP.tc (k := 254) (fun _ pc => e_niP.of (te_254_ok pc))
 (e_niP.tc (k := 255) (fun _ pc => e_niP.of (te_255_ok pc))
 (fun _ pc => e_niP.of (te_256_ok pc))))
 (e_niP.tc (k := 258) (e_niP.tc (k := 257) (fun _ pc => e_niP.of (te_257_ok pc))
 (fun _ pc => e_niP.of (te_258_ok pc)))
 (e_niP.tc (k := 259) (fun _ pc => e_niP.of (te_259_ok pc))
 (fun _ pc => e_niP.of (te_260_ok pc)))))
 (e_niP.tc (k := 263) (e_niP.tc (k := 261) (fun _ pc => e_niP.of (te_261_ok pc))
 (e_niP.tc (k := 262) (fun _ pc => e_niP.of (te_262_ok pc))
 (fun _ pc => e_niP.of (te_263_ok pc))))
 (e_niP.tc (k := 265) (e_niP.tc (k := 264) (fun _ pc => e_niP.of (te_264_ok pc))
 (fun _ pc => e_niP.of (te_265_ok pc)))
 (e_niP.tc (k := 266) (fun _ pc => e_niP.of (te_266_ok pc))
 (fun _ pc => e_niP.of (te_267_ok pc))))))
 (e_niP.tc (k := 274) (e_niP.tc (k := 270) (e_niP.tc (k := 268) (fun _ pc => e_niP.of (te_268_ok pc))
 (e_niP.tc (k := 269) (fun _ pc => e_niP.of (te_269_ok pc))
 (fun _ pc => e_niP.of (te_270_ok pc))))
 (e_niP.tc (k := 272) (e_niP.tc (k := 271) (fun _ pc => e_niP.of (te_271_ok pc))
 (fun _ pc => e_niP.of (te_272_ok pc)))
 (e_niP.tc (k := 273) (fun _ pc => e_niP.of (te_273_ok pc))
 (fun _ pc => e_niP.of (te_274_ok pc)))))
 (e_niP.tc (k := 277) (e_niP.tc (k := 275) (fun _ pc => e_niP.of (te_275_ok pc))
 (e_niP.tc (k := 276) (fun _ pc => e_niP.of (te_276_ok pc))
 (fun _ pc => e_niP.of (te_277_ok pc))))
 (e_niP.tc (k := 279) (e_niP.tc (k := 278) (fun _ pc => e_niP.of (te_278_ok pc))
 (fun _ pc => e_niP.of (te_279_ok pc)))
 (e_niP.tc (k := 280) (fun _ pc => e_niP.of (te_280_ok pc))
 (fun _ pc => e_niP.of (te_281_ok pc))))))))
 (e_niP.tc (k := 309) (e_niP.tc (k := 295) (e_niP.tc (k := 288) (e_niP.tc (k := 284) (e_niP.tc (k := 282) (fun _ pc => e_niP.of (te_282_ok pc))
 (e_niP.tc (k := 283) (fun _ pc => e_niP.of (te_283_ok pc))
 (fun _ pc => e_niP.of (te_284_ok pc))))
 (e_niP.tc (k := 286) (e_niP.tc (k := 285) (fun _ pc => e_niP.of (te_285_ok pc))
 (fun _ pc => e_niP.of (te_286_ok pc)))
 (e_niP.tc (k := 287) (fun _ pc => e_niP.of (te_287_ok pc))
 (fun _ pc => e_niP.of (te_288_ok pc)))))
 (e_niP.tc (k := 291) (e_niP.tc (k := 289) (fun _ pc => e_niP.of (te_289_ok pc))
 (e_niP.tc (k := 290) (fun _ pc => e_niP.of (te_290_ok pc))
 (fun _ pc => e_niP.of (te_291_ok pc))))
 (e_niP.tc (k := 293) (e_niP.tc (k := 292) (fun _ pc => e_niP.of (te_292_ok pc))
 (fun _ pc => e_niP.of (te_293_ok pc)))
 (e_niP.tc (k := 294) (fun _ pc => e_niP.of (te_294_ok pc))
 (fun _ pc => e_niP.of (te_295_ok pc))))))
 (e_niP.tc (k := 302) (e_niP.tc (k := 298) (e_niP.tc (k := 296) (fun _ pc => e_niP.of (te_296_ok pc))
 (e_niP.tc (k := 297) (fun _ pc => e_niP.of (te_297_ok pc))
 (fun _ pc => e_niP.of (te_298_ok pc))))
 (e_niP.tc (k := 300) (e_niP.tc (k := 299) (fun _ pc => e_niP.of (te_299_ok pc))
 (fun _ pc => e_niP.of (te_300_ok pc)))
 (e_niP.tc (k := 301) (fun _ pc => e_niP.of (te_301_ok pc))
 (fun _ pc => e_niP.of (te_302_ok pc)))))
 (e_niP.tc (k := 305) (e_niP.tc (k := 303) (fun _ pc => e_niP.of (te_303_ok pc))
 (e_niP.tc (k := 304) (fun _ pc => e_niP.of (te_304_ok pc))
 (fun _ pc => e_niP.of (te_305_ok pc))))
 (e_niP.tc (k := 307) (e_niP.tc (k := 306) (fun _ pc => e_niP.of (te_306_ok pc))
 (fun _ pc => e_niP.of (te_307_ok pc)))
 (e_niP.tc (k := 308) (fun _ pc => e_niP.of (te_308_ok pc))
 (fun _ pc => e_niP.of (te_309_ok pc)))))))
 (e_niP.tc (k := 323) (e_niP.tc (k := 316) (e_niP.tc (k := 312) (e_niP.tc (k := 310) (fun _ pc => e_niP.of (te_310_ok pc))
 (e_niP.tc (k := 311) (fun _ pc => e_niP.of (te_311_ok pc))
 (fun _ pc => e_niP.of (te_312_ok pc))))
 (e_niP.tc (k := 314) (e_niP.tc (k := 313) (fun _ pc => e_niP.of (te_313_ok pc))
 (fun _ pc => e_niP.of (te_314_ok pc)))
 (e_niP.tc (k := 315) (fun _ pc => e_niP.of (te_315_ok pc))
 (fun _ pc => e_niP.of (te_316_ok pc)))))
 (e_niP.tc (k := 319) (e_niP.tc (k := 317) (fun _ pc => e_niP.of (te_317_ok pc))
 (e_niP.tc (k := 318) (fun _ pc => e_niP.of (te_318_ok pc))
 (fun _ pc => e_niP.of (te_319_ok pc))))
 (e_niP.tc (k := 321) (e_niP.tc (k := 320) (fun _ pc => e_niP.of (te_320_ok pc))
 (fun _ pc => e_niP.of (te_321_ok pc)))
 (e_niP.tc (k := 322) (fun _ pc => e_niP.of (te_322_ok pc))
 (fun _ pc => e_niP.of (te_323_ok pc))))))
 (e_niP.tc (k := 330) (e_niP.tc (k := 326) (e_niP.tc (k := 324) (fun _ pc => e_niP.of (te_324_ok pc))
 (e_niP.tc (k := 325) (fun _ pc => e_niP.of (te_325_ok pc))
 (fun _ pc => e_niP.of (te_326_ok pc))))
 (e_niP.tc (k := 328) (e_niP.tc (k := 327) (fun _ pc => e_niP.of (te_327_ok pc))
 (fun _ pc => e_ni_328 pc))
 (e_niP.tc (k := 329) (fun _ pc => e_niP.of (te_329_ok pc))
 (fun _ pc => e_niP.of (te_330_ok pc)))))
 (e_niP.tc (k := 334) (e_niP.tc (k := 332) (e_niP.tc (k := 331) (fun _ pc => e_niP.of (te_331_ok pc))
 (fun _ pc => e_niP.of (te_332_ok pc)))
 (e_niP.tc (k := 333) (fun _ pc => e_niP.of (te_333_ok pc))
 (fun _ pc => e_niP.of (te_334_ok pc))))
 (e_niP.tc (k := 336) (e_niP.tc (k := 335) (fun _ pc => e_niP.of (te_335_ok pc))
 (fun _ pc => e_niP.of (te_336_ok pc)))
 (e_niP.tc (k := 337) (fun _ pc => e_niP.of (te_337_ok pc))
 (fun _ pc => e_niP.of (te_338_ok pc)))))))))
 (e_niP.tc (k := 395) (e_niP.tc (k := 366) (e_niP.tc (k := 352) (e_niP.tc (k := 345) (e_niP.tc (k := 341) (e_niP.tc (k := 339) (fun _ pc => e_niP.of (te_339_ok pc))
 (e_niP.tc (k := 340) (fun _ pc => e_niP.of (te_340_ok pc))
 (fun _ pc => e_niP.of (te_341_ok pc))))
 (e_niP.tc (k := 343) (e_niP.tc (k := 342) (fun _ pc => e_niP.of (te_342_ok pc))
 (fun _ pc => e_niP.of (te_343_ok pc)))
 (e_niP.tc (k := 344) (fun _ pc => e_niP.of (te_344_ok pc))
 (fun _ pc => e_niP.of (te_345_ok pc)))))
 (e_niP.tc (k := 348) (e_niP.tc (k := 346) (fun _ pc => e_niP.of (te_346_ok pc))
 (e_niP.tc (k := 347) (fun _ pc => e_niP.of (te_347_ok pc))
 (fun _ pc => e_niP.of (te_348_ok pc))))
 (e_niP.tc (k := 350) (e_niP.tc (k := 349) (fun _ pc => e_niP.of (te_349_ok pc))
 (fun _ pc => e_niP.of (te_350_ok pc)))
 (e_niP.tc (k := 351) (fun _ pc => e_niP.of (te_351_ok pc))
 (fun _ pc => e_niP.of (te_352_ok pc))))))
 (e_niP.tc (k := 359) (e_niP.tc (k := 355) (e_niP.tc (k := 353) (fun _ pc => e_niP.of (te_353_ok pc))
 (e_niP.tc (k := 354) (fun _ pc => e_niP.of (te_354_ok pc))
 (fun _ pc => e_niP.of (te_355_ok pc))))
 (e_niP.tc (k := 357) (e_niP.tc (k := 356) (fun _ pc => e_niP.of (te_356_ok pc))
 (fun _ pc => e_niP.of (te_357_ok pc)))
 (e_niP.tc (k := 358) (fun _ pc => e_niP.of (te_358_ok pc))
 (fun _ pc => e_niP.of (te_359_ok pc)))))
 (e_niP.tc (k := 362) (e_niP.tc (k := 360) (fun _ pc => e_niP.of (te_360_ok pc))
 (e_niP.tc (k := 361) (fun _ pc => e_niP.of (te_361_ok pc))
 (fun _ pc => e_niP.of (te_362_ok pc))))
 (e_niP.tc (k := 364) (e_niP.tc (k := 363) (fun _ pc => e_niP.of (te_363_ok pc))
 (fun _ pc => e_niP.of (te_364_ok pc)))
 (e_niP.tc (k := 365) (fun _ pc => e_niP.of (te_365_ok pc))
 (fun _ pc => e_niP.of (te_366_ok pc)))))))
 (e_niP.tc (k := 380) (e_niP.tc (k := 373) (e_niP.tc (k := 369) (e_niP.tc (k := 367) (fun _ pc => e_niP.of (te_367_ok pc))
 (e_niP.tc (k := 368) (fun _ pc => e_niP.of (te_368_ok pc))
 (fun _ pc => e_niP.of (te_369_ok pc))))
 (e_niP.tc (k := 371) (e_niP.tc (k := 370) (fun _ pc => e_niP.of (te_370_ok pc))
 (fun _ pc => e_niP.of (te_371_ok pc)))
 (e_niP.tc (k := 372) (fun _ pc => e_niP.of (te_372_ok pc))
 (fun _ pc => e_niP.of (te_373_ok pc)))))
 (e_niP.tc (k := 376) (e_niP.tc (k := 374) (fun _ pc => e_niP.of (te_374_ok pc))
 (e_niP.tc (k := 375) (fun _ pc => e_niP.of (te_375_ok pc))
 (fun _ pc => e_niP.of (te_376_ok pc))))
 (e_niP.tc (k := 378) (e_niP.tc (k := 377) (fun _ pc => e_niP.of (te_377_ok pc))
 (fun _ pc => e_niP.of (te_378_ok pc)))
 (e_niP.tc (k := 379) (fun _ pc => e_niP.of (te_379_ok pc))
 (fun _ pc => e_niP.of (te_380_ok pc))))))
 (e_niP.tc (k := 387) (e_niP.tc (k := 383) (e_niP.tc (k := 381) (fun _ pc => e_niP.of (te_381_ok pc))
 (e_niP.tc (k := 382) (fun _ pc => e_niP.of (te_382_ok pc))
 (fun _ pc => e_niP.of (te_383_ok pc))))
 (e_niP.tc (k := 385) (e_niP.tc (k := 384) (fun _ pc => e_niP.of (te_384_ok pc))
 (fun _ pc => e_niP.of (te_385_ok pc)))
 (e_niP.tc (k := 386) (fun _ pc => e_niP.of (te_386_ok pc))
 (fun _ pc => e_niP.of (te_387_ok pc)))))
 (e_niP.tc (k := 391) (e_niP.tc (k := 389) (e_niP.tc (k := 388) (fun _ pc => e_niP.of (te_388_ok pc))
 (fun _ pc => e_ni_tal pc))
 (e_niP.tc (k := 390) (fun _ pc => e_niP.of (te_390_ok pc))
 (fun _ pc => e_niP.of (te_391_ok pc))))
 (e_niP.tc (k := 393) (e_niP.tc (k := 392) (fun _ pc => e_niP.of (te_392_ok pc))
 (fun _ pc => e_niP.of (te_393_ok pc)))
 (e_niP.tc (k := 394) (fun _ pc => e_niP.of (te_394_ok pc))
 (fun _ pc => e_niP.of (te_395_ok pc))))))))
 (e_niP.tc (k := 423) (e_niP.tc (k := 409) (e_niP.tc (k := 402) (e_niP.tc (k := 398) (e_niP.tc (k := 396) (fun _ pc => e_niP.of (te_396_ok pc))
 (e_niP.tc (k := 397) (fun _ pc => e_niP.of (te_397_ok pc))
 (fun _ pc => e_niP.of (te_398_ok pc))))
 (e_niP.tc (k := 400) (e_niP.tc (k := 399) (fun _ pc => e_niP.of (te_399_ok pc))
 (fun _ pc => e_niP.of (te_400_ok pc)))
 (e_niP.tc (k := 401) (fun _ pc => e_niP.of (te_401_ok pc))
 (fun _ pc => e_niP.of (te_402_ok pc)))))
 (e_niP.tc (k := 405) (e_niP.tc (k := 403) (fun _ pc => e_ni_cj pc)
 (e_niP.tc (k := 404) (fun _ pc => e_niP.of (te_404_ok pc))
 (fun _ pc => e_niP.of (te_405_ok pc))))
 (e_niP.tc (k := 407) (e_niP.tc (k := 406) (fun _ pc => e_niP.of (te_406_ok pc))
 (fun _ pc => e_niP.of (te_407_ok pc)))
 (e_niP.tc (k := 408) (fun _ pc => e_niP.of (te_408_ok pc))
 (fun _ pc => e_niP.of (te_409_ok pc))))))
 (e_niP.tc (k := 416) (e_niP.tc (k := 412) (e_niP.tc (k := 410) (fun _ pc => e_niP.of (te_410_ok pc))
 (e_niP.tc (k := 411) (fun _ pc => e_niP.of (te_411_ok pc))
 (fun _ pc => e_niP.of (te_412_ok pc))))
 (e_niP.tc (k := 414) (e_niP.tc (k := 413) (fun _ pc => e_niP.of (te_413_ok pc))
 (fun _ pc => e_niP.of (te_414_ok pc)))
 (e_niP.tc (k := 415) (fun _ pc => e_niP.of (te_415_ok pc))
 (fun _ pc => e_niP.of (te_416_ok pc)))))
 (e_niP.tc (k := 419) (e_niP.tc (k := 417) (fun _ pc => e_niP.of (te_417_ok pc))
 (e_niP.tc (k := 418) (fun _ pc => e_niP.of (te_418_ok pc))
 (fun _ pc => e_niP.of (te_419_ok pc))))
 (e_niP.tc (k := 421) (e_niP.tc (k := 420) (fun _ pc => e_niP.of (te_420_ok pc))
 (fun _ pc => e_niP.of (te_421_ok pc)))
 (e_niP.tc (k := 422) (fun _ pc => e_niP.of (te_422_ok pc))
 (fun _ pc => e_niP.of (te_423_ok pc)))))))
 (e_niP.tc (k := 437) (e_niP.tc (k := 430) (e_niP.tc (k := 426) (e_niP.tc (k := 424) (fun _ pc => e_niP.of (te_424_ok pc))
 (e_niP.tc (k := 425) (fun _ pc => e_niP.of (te_425_ok pc))
 (fun _ pc => e_niP.of (te_426_ok pc))))
 (e_niP.tc (k := 428) (e_niP.tc (k := 427) (fun _ pc => e_niP.of (te_427_ok pc))
 (fun _ pc => e_niP.of (te_428_ok pc)))
 (e_niP.tc (k := 429) (fun _ pc => e_niP.of (te_429_ok pc))
 (fun _ pc => e_niP.of (te_430_ok pc)))))
 (e_niP.tc (k := 433) (e_niP.tc (k := 431) (fun _ pc => e_niP.of (te_431_ok pc))
 (e_niP.tc (k := 432) (fun _ pc => e_niP.of (te_432_ok pc))
 (fun _ pc => e_niP.of (te_433_ok pc))))
 (e_niP.tc (k := 435) (e_niP.tc (k := 434) (fun _ pc => e_niP.of (te_434_ok pc))
 (fun _ pc => e_niP.of (te_435_ok pc)))
 (e_niP.tc (k := 436) (fun _ pc => e_niP.of (te_436_ok pc))
 (fun _ pc => e_niP.of (te_437_ok pc))))))
 (e_niP.tc (k := 444) (e_niP.tc (k := 440) (e_niP.tc (k := 438) (fun _ pc => e_niP.of (te_438_ok pc))
 (e_niP.tc (k := 439) (fun _ pc => e_niP.of (te_439_ok pc))
 (fun _ pc => e_niP.of (te_440_ok pc))))
 (e_niP.tc (k := 442) (e_niP.tc (k := 441) (fun _ pc => e_niP.of (te_441_ok pc))
 (fun _ pc => e_niP.of (te_442_ok pc)))
 (e_niP.tc (k := 443) (fun _ pc => e_niP.of (te_443_ok pc))
 (fun _ pc => e_niP.of (te_444_ok pc)))))
 (e_niP.tc (k := 448) (e_niP.tc (k := 446) (e_niP.tc (k := 445) (fun _ pc => e_niP.of (te_445_ok pc))
 (fun _ pc => e_niP.of (te_446_ok pc)))
 (e_niP.tc (k := 447) (fun _ pc => e_niP.of (te_447_ok pc))
 (fun _ pc => e_niP.of (te_448_ok pc))))
 (e_niP.tc (k := 450) (e_niP.tc (k := 449) (fun _ pc => e_niP.of (te_449_ok pc))
 (fun _ pc => e_niP.of (te_450_ok pc)))
 (e_niP.tc (k := 451) (fun _ pc => e_niP.of (te_451_ok pc))
 (fun _ pc => e_niP.of (te_452_ok pc)))))))))))
theorem eAlk : e_Alk elay ecode := fun M pc f a b h => e_ni M pc f a b h
end
end
-- part 48
section
noncomputable section
/-! what may change: sets of slots -/
def e_fr (S : Int → Int → Prop) (w w' : eW) : Prop := ∀ c k, ¬ S c k → w' c k = w c k
theorem e_fr.refl {S : Int → Int → Prop} (w : eW) : e_fr S w w := fun _ _ _ => rfl
theorem e_fr.trans {S : Int → Int → Prop} {a b c : eW} (h : e_fr S a b) (h' : e_fr S b c) : e_fr S a c := fun j k q => (h' j k q).trans (h j k q)
theorem e_fr.mono {S S' : Int → Int → Prop} {a b : eW} (h : e_fr S a b) (hs : ∀ c k, S c k → S' c k) : e_fr S' a b := fun j k q => h j k (fun p => q (hs j k p))
theorem e_fr.up {S : Int → Int → Prop} {w w1 w2 : eW} {c k z : Int} (h : e_fr S w w1) (hw : e_up w1 c k z = w2) (hs : S c k) : e_fr S w w2 := fun j i q => by
  subst hw
  rw [e_up_ne]
  · exact h j i q
  · by_cases e1 : j = c
    · by_cases e2 : i = k
      · rw [e1, e2] at q; exact absurd hs q
      · exact Or.inr e2
    · exact Or.inl e1
theorem e_Has.fr {ty : Int → Int → Int × Int} {S : Int → Int → Prop} {w w' : eW} (hS : ∀ c k, S c k → ty c k = (1, 0)) (f : e_fr S w w') (h : e_Has ty w) : e_Has ty w' := fun c k hl => by
  have n : ¬ S c k := fun q => by rw [hS c k q] at hl; exact absurd hl (by decide)
  rw [f c k n]
  exact h c k hl
/-- the lines that are held against each other -/
def mL (c k : Int) : Prop := (c = 275 ∧ 58 ≤ k ∧ k ≤ 60) ∨ c = 324 ∨ c = 325
def mB (c k : Int) : Prop := c = 275 ∧ 58 ≤ k ∧ k ≤ 60
def m1 (c _k : Int) : Prop := c = 324
def m2 (c _k : Int) : Prop := c = 325
/-- all that the model's methods use between -/
def mS (c k : Int) : Prop := (321 ≤ c ∧ c ≤ 327) ∨ (341 ≤ c ∧ c ≤ 353) ∨ (c = 275 ∧ ((58 ≤ k ∧ k ≤ 60) ∨ (78 ≤ k ∧ k ≤ 87) ∨ k = 94 ∨ (96 ≤ k ∧ k ≤ 100) ∨ k = 102 ∨ (110 ≤ k ∧ k ≤ 112)))
theorem mS_none (c k : Int) (h : mS c k) : mTy c k = (1, 0) := by
  unfold mS at h
  rcases h with h | h | ⟨rfl, h⟩
  · obtain rfl | rfl | rfl | rfl | rfl | rfl | rfl : c = 321 ∨ c = 322 ∨ c = 323 ∨ c = 324 ∨ c = 325 ∨ c = 326 ∨ c = 327 := by omega
    all_goals rfl
  · obtain rfl | rfl | rfl | rfl | rfl | rfl | rfl | rfl | rfl | rfl | rfl | rfl | rfl : c = 341 ∨ c = 342 ∨ c = 343 ∨ c = 344 ∨ c = 345 ∨ c = 346 ∨ c = 347 ∨ c = 348 ∨ c = 349 ∨ c = 350 ∨ c = 351 ∨ c = 352 ∨ c = 353 := by omega
    all_goals rfl
  · have h' : k = 58 ∨ k = 59 ∨ k = 60 ∨ k = 78 ∨ k = 79 ∨ k = 80 ∨ k = 81 ∨ k = 82 ∨ k = 83 ∨ k = 84 ∨ k = 85 ∨ k = 86 ∨ k = 87 ∨ k = 94 ∨ k = 96 ∨ k = 97 ∨ k = 98 ∨ k = 99 ∨ k = 100 ∨ k = 102 ∨ k = 110 ∨ k = 111 ∨ k = 112 := by omega
    rcases h' with rfl | rfl | rfl | rfl | rfl | rfl | rfl | rfl | rfl | rfl | rfl | rfl | rfl | rfl | rfl | rfl | rfl | rfl | rfl | rfl | rfl | rfl | rfl
    all_goals rfl
theorem mL_S (c k : Int) (h : mL c k) : mS c k := by unfold mL at h; unfold mS; omega
theorem mT_S {w w' : eW} (f : e_fr mS w w') (h : e_Has mTy w) : e_Has mTy w' := h.fr mS_none f
theorem mT_L {w w' : eW} (f : e_fr mL w w') (h : e_Has mTy w) : e_Has mTy w' := h.fr (fun c k q => mS_none c k (mL_S c k q)) f
theorem mT_B {w w' : eW} (f : e_fr mB w w') (h : e_Has mTy w) : e_Has mTy w' := mT_L (f.mono (fun c k q => Or.inl q)) h
theorem mT_1 {w w' : eW} (f : e_fr m1 w w') (h : e_Has mTy w) : e_Has mTy w' := mT_L (f.mono (fun c k q => Or.inr (Or.inl q))) h
theorem mT_2 {w w' : eW} (f : e_fr m2 w w') (h : e_Has mTy w) : e_Has mTy w' := mT_L (f.mono (fun c k q => Or.inr (Or.inr q))) h
/-- a row of numbers is known from a to b -/
def e_kn (w : eW) (c a b : Int) : Prop := ∀ i, a ≤ i → i ≤ b → -2147483648 ≤ w c i ∧ w c i ≤ 2147483647
theorem e_kn.fr {S : Int → Int → Prop} {w w' : eW} {c a b : Int} (f : e_fr S w w') (hS : ∀ k, ¬ S c k) (h : e_kn w c a b) : e_kn w' c a b := fun i h1 h2 => by rw [f c i (hS i)]; exact h i h1 h2
end
end
-- part 49
section
noncomputable section
/-! rows that are known, grown by a write; points of one arm -/
theorem e_kn.ext {w w' : eW} {c a b k z : Int} (h : e_kn w c a b) (hw : e_up w c k z = w') (hk : k = b + 1) (hz : -2147483648 ≤ z ∧ z ≤ 2147483647) : e_kn w' c a k := fun i h1 h2 => by
  subst hw
  by_cases e : i = k
  · rw [e, e_up_eq]; exact hz
  · rw [e_up_ne _ _ (Or.inr e)]; exact h i h1 (by omega)
theorem e_kn.oth {w w' : eW} {c c' a b k z : Int} (h : e_kn w c a b) (hw : e_up w c' k z = w') (hc : c ≠ c') : e_kn w' c a b := fun i h1 h2 => by
  subst hw
  rw [e_up_ne _ _ (Or.inl hc)]; exact h i h1 h2
/-- a write in the row keeps it known -/
theorem e_kn.upd {w w' : eW} {c a b k z : Int} (h : e_kn w c a b) (hw : e_up w c k z = w') (hz : -2147483648 ≤ z ∧ z ≤ 2147483647) : e_kn w' c a b := fun i h1 h2 => by
  subst hw
  by_cases e : i = k
  · rw [e, e_up_eq]; exact hz
  · rw [e_up_ne _ _ (Or.inr e)]; exact h i h1 h2
theorem e_kn.one {w w' : eW} {c k z : Int} (hw : e_up w c k z = w') (hz : -2147483648 ≤ z ∧ z ≤ 2147483647) : e_kn w' c k k := fun i h1 h2 => by
  subst hw
  have e : i = k := by omega
  rw [e, e_up_eq]; exact hz
def mPt (t c k : Int) : Prop := (c = 321 ∨ c = 322) ∧ t ≤ k ∧ k ≤ t + 6
def mP (c _k : Int) : Prop := c = 321 ∨ c = 322
theorem mT_P {w w' : eW} (f : e_fr mP w w') (h : e_Has mTy w) : e_Has mTy w' := h.fr (fun c k q => mS_none c k (by unfold mP at q; unfold mS; omega)) f
theorem mT_Pt {t : Int} {w w' : eW} (f : e_fr (mPt t) w w') (h : e_Has mTy w) : e_Has mTy w' := mT_P (f.mono (fun c k q => q.1)) h
/-- points of the arm b are known -/
def e_pk2 (w : eW) (t n : Int) : Prop := e_kn w 321 t (t + n) ∧ e_kn w 322 t (t + n)
theorem e_pk2.fr {S : Int → Int → Prop} {w w' : eW} {t n : Int} (f : e_fr S w w') (hS : ∀ k, t ≤ k → k ≤ t + n → ¬ S 321 k ∧ ¬ S 322 k) (h : e_pk2 w t n) : e_pk2 w' t n :=
  ⟨fun i h1 h2 => by rw [f 321 i (hS i h1 h2).1]; exact h.1 i h1 h2, fun i h1 h2 => by rw [f 322 i (hS i h1 h2).2]; exact h.2 i h1 h2⟩
end
end
-- part 49b
section
noncomputable section
/-! the other regions of the model's long row -/
theorem nR_OWN {p : Int} (h : 0 ≤ p ∧ p ≤ 63) : mTy 276 (p + 160) = (-2147483648, 2147483647) := by
  show nowR _ = _
  unfold nowR
  rw [if_neg (by omega), if_neg (by omega), if_pos (by omega)]
theorem nR_FORCED {p : Int} (h : 0 ≤ p ∧ p ≤ 63) : mTy 276 (p + 224) = (0, 1) := by
  show nowR _ = _
  unfold nowR
  rw [if_neg (by omega), if_neg (by omega), if_neg (by omega), if_pos (by omega)]
theorem nR_FORCE {p : Int} (h : 0 ≤ p ∧ p ≤ 63) : mTy 276 (p + 288) = (-2147483648, 2147483647) := by
  show nowR _ = _
  unfold nowR
  rw [if_neg (by omega), if_neg (by omega), if_neg (by omega), if_neg (by omega), if_pos (by omega)]
theorem nR_RISES {p : Int} (h : 0 ≤ p ∧ p ≤ 63) : mTy 276 (p + 352) = (-2147483648, 2147483647) := by
  show nowR _ = _
  unfold nowR
  rw [if_neg (by omega), if_neg (by omega), if_neg (by omega), if_neg (by omega), if_pos (by omega)]
theorem nR_WHERE {p : Int} (h : 0 ≤ p ∧ p ≤ 31) : mTy 276 (4 * p + 20576) = (0, 8) := by
  show nowR _ = _
  unfold nowR
  rw [if_neg (by omega), if_neg (by omega), if_neg (by omega), if_neg (by omega), if_neg (by omega), if_neg (by omega), if_pos (by omega), if_pos (by omega)]
theorem nR_PART {p k : Int} (h : 0 ≤ p ∧ p ≤ 31) (hk : 1 ≤ k ∧ k ≤ 3) : mTy 276 (4 * p + k + 20576) = (-2147483648, 2147483647) := by
  show nowR _ = _
  unfold nowR
  rw [if_neg (by omega), if_neg (by omega), if_neg (by omega), if_neg (by omega), if_neg (by omega), if_neg (by omega), if_pos (by omega), if_neg (by omega)]
theorem nR_PART1 {p : Int} (h : 0 ≤ p ∧ p ≤ 31) : mTy 276 (4 * p + 20577) = (-2147483648, 2147483647) := by
  have := nR_PART (k := 1) h (by omega)
  rwa [show 4 * p + 1 + 20576 = 4 * p + 20577 by omega] at this
theorem nR_PART2 {p : Int} (h : 0 ≤ p ∧ p ≤ 31) : mTy 276 (4 * p + 20578) = (-2147483648, 2147483647) := by
  have := nR_PART (k := 2) h (by omega)
  rwa [show 4 * p + 2 + 20576 = 4 * p + 20578 by omega] at this
theorem nR_PART3 {p : Int} (h : 0 ≤ p ∧ p ≤ 31) : mTy 276 (4 * p + 20579) = (-2147483648, 2147483647) := by
  have := nR_PART (k := 3) h (by omega)
  rwa [show 4 * p + 3 + 20576 = 4 * p + 20579 by omega] at this
theorem nR_ORDER {b : Int} (h : 0 ≤ b ∧ b ≤ 3) : mTy 276 (33 * b + 20704) = (0, 32) := by
  show nowR _ = _
  unfold nowR
  rw [if_neg (by omega), if_neg (by omega), if_neg (by omega), if_neg (by omega), if_neg (by omega), if_neg (by omega), if_neg (by omega), if_pos (by omega), if_pos (by omega)]
/-- any place of a belt's order -/
theorem nR_ORD {e : Int} (b : Int) (h : 0 ≤ b ∧ b ≤ 3) (hk : 33 * b + 20705 ≤ e ∧ e ≤ 33 * b + 20736) : mTy 276 e = (0, 31) := by
  show nowR _ = _
  unfold nowR
  rw [if_neg (by omega), if_neg (by omega), if_neg (by omega), if_neg (by omega), if_neg (by omega), if_neg (by omega), if_neg (by omega), if_pos (by omega), if_neg (by omega)]
theorem nR_INPUT {i f : Int} (h : 0 ≤ i ∧ i ≤ 7) (hf : f = 0 ∨ f = 1 ∨ f = 3) : mTy 276 (4 * i + (20836 + f)) = (0, 1) := by
  show nowR _ = _
  unfold nowR
  rw [if_neg (by omega), if_neg (by omega), if_neg (by omega), if_neg (by omega), if_neg (by omega), if_neg (by omega), if_neg (by omega), if_neg (by omega), if_pos (by omega), if_neg (by omega)]
theorem nR_INPUT2 {i : Int} (h : 0 ≤ i ∧ i ≤ 7) : mTy 276 (4 * i + 20838) = (-2147483648, 2147483647) := by
  show nowR _ = _
  unfold nowR
  rw [if_neg (by omega), if_neg (by omega), if_neg (by omega), if_neg (by omega), if_neg (by omega), if_neg (by omega), if_neg (by omega), if_neg (by omega), if_pos (by omega), if_pos (by omega)]
theorem nR_LOCK {l : Int} (h : 0 ≤ l ∧ l ≤ 7) : mTy 276 (l + 20868) = (-1, 15) := by
  show nowR _ = _
  unfold nowR
  rw [if_neg (by omega), if_neg (by omega), if_neg (by omega), if_neg (by omega), if_neg (by omega), if_neg (by omega), if_neg (by omega), if_neg (by omega), if_neg (by omega), if_pos (by omega)]
theorem nR_mid {e : Int} (h : 20876 ≤ e ∧ e < 21060) : mTy 276 e = (-2147483648, 2147483647) := by
  show nowR _ = _
  unfold nowR
  rw [if_neg (by omega), if_neg (by omega), if_neg (by omega), if_neg (by omega), if_neg (by omega), if_neg (by omega), if_neg (by omega), if_neg (by omega), if_neg (by omega), if_neg (by omega), if_pos (by omega)]
theorem nR_WAY {e : Int} (h : 21060 ≤ e ∧ e < 25060) : mTy 276 e = (0, 11) := by
  show nowR _ = _
  unfold nowR
  rw [if_neg (by omega), if_neg (by omega), if_neg (by omega), if_neg (by omega), if_neg (by omega), if_neg (by omega), if_neg (by omega), if_neg (by omega), if_neg (by omega), if_neg (by omega), if_neg (by omega), if_pos (by omega)]
theorem nR_EV {e : Int} (h : 25060 ≤ e) : mTy 276 e = (-2147483648, 2147483647) := by
  show nowR _ = _
  unfold nowR
  rw [if_neg (by omega), if_neg (by omega), if_neg (by omega), if_neg (by omega), if_neg (by omega), if_neg (by omega), if_neg (by omega), if_neg (by omega), if_neg (by omega), if_neg (by omega), if_neg (by omega), if_neg (by omega)]
/-- numbers of a row, from a to b, in bounds -/
def e_kr (w : eW) (c a b lo hi : Int) : Prop := ∀ i, a ≤ i → i ≤ b → lo ≤ w c i ∧ w c i ≤ hi
theorem e_kr.fr {S : Int → Int → Prop} {w w' : eW} {c a b lo hi : Int} (f : e_fr S w w') (hS : ∀ k, ¬ S c k) (h : e_kr w c a b lo hi) : e_kr w' c a b lo hi := fun i h1 h2 => by rw [f c i (hS i)]; exact h i h1 h2
theorem e_kr.ext {w w' : eW} {c a b k z lo hi : Int} (h : e_kr w c a b lo hi) (hw : e_up w c k z = w') (hk : k = b + 1) (hz : lo ≤ z ∧ z ≤ hi) : e_kr w' c a k lo hi := fun i h1 h2 => by
  subst hw
  by_cases e : i = k
  · rw [e, e_up_eq]; exact hz
  · rw [e_up_ne _ _ (Or.inr e)]; exact h i h1 (by omega)
theorem e_kr.oth {w w' : eW} {c c' a b k z lo hi : Int} (h : e_kr w c a b lo hi) (hw : e_up w c' k z = w') (hc : c ≠ c') : e_kr w' c a b lo hi := fun i h1 h2 => by
  subst hw
  rw [e_up_ne _ _ (Or.inl hc)]; exact h i h1 h2
theorem e_kr.nil {w : eW} {c a b lo hi : Int} (h : b < a) : e_kr w c a b lo hi := fun i h1 h2 => by omega
theorem e_kn.nil {w : eW} {c a b : Int} (h : b < a) : e_kn w c a b := fun i h1 h2 => by omega
def mQ (c _k : Int) : Prop := c = 326
def mE (c k : Int) : Prop := c = 276 ∧ (k = 5 ∨ 25060 ≤ k)
/-- wires have no circle -/
def mAc (w : eW) : Prop := ∃ rk : Int → Int, ∀ p, 0 ≤ p → p ≤ 63 → (0 ≤ rk p ∧ rk p ≤ 63) ∧ (0 ≤ w 318 p → rk (w 318 p) < rk p)
theorem mAc.fr' {S : Int → Int → Prop} {w w' : eW} (hS : ∀ k, ¬ S 318 k) (f : e_fr S w w') (h : mAc w) : mAc w' := by
  obtain ⟨rk, h⟩ := h
  exact ⟨rk, fun p h1 h2 => by rw [f 318 p (hS p)]; exact h p h1 h2⟩
def mW (c _k : Int) : Prop := c = 326 ∨ c = 327
def mR (c k : Int) : Prop := (c = 276 ∧ 352 ≤ k ∧ k ≤ 415) ∨ c = 326
def mO (c k : Int) : Prop := (c = 276 ∧ ((160 ≤ k ∧ k ≤ 223) ∨ (352 ≤ k ∧ k ≤ 415))) ∨ c = 326 ∨ c = 327
def mK (c k : Int) : Prop := (c = 276 ∧ 20876 ≤ k ∧ k ≤ 20931) ∨ c = 321 ∨ c = 322
theorem mT_Q {w w' : eW} (f : e_fr mQ w w') (h : e_Has mTy w) : e_Has mTy w' := h.fr (fun c k q => mS_none c k (by unfold mQ at q; unfold mS; omega)) f
theorem mT_W {w w' : eW} (f : e_fr mW w w') (h : e_Has mTy w) : e_Has mTy w' := h.fr (fun c k q => mS_none c k (by unfold mW at q; unfold mS; omega)) f
end
end
-- part 49c
section
noncomputable section
/-! the machine does what a table with macros says, from every contents that know more -/
def e_Mac (fd : Nat) (ft : Nat → Nat → Nat) (cl : List vw_C) (lay : List eY) (q : xM) (l : Launch) (pc : Nat) (f : eS → Option eS) : Prop :=
  ∀ {d : Nat} {ad : List Nat} {ce sl : Nat} {p : Program} {e : Env} {R : Room} {s : State} {m : MethodId} {args : Array Value} {below : List Frame} {meth : Method} {c : Code} {D : va_G} {A : Nat → Prop} {H0 : Heap} {Q : State → Prop},
    fd ≤ d → x_Cx (xm_b q) (xm_y q).cls (xm_l q) (xm_y q).name (xm_c q) (xm_s q) p R s m args meth c → ce ≤ xm_c q → sl ≤ xm_s q → d ≤ R.frames → 64 * d ≤ R.locals → (∀ q : Nat, H0.size ≤ q → A q) →
    ∀ (t t' : eS) (l' : eL) (u : eW), t.1 = pc → f t = some t' → e_sub t.2.1 l' → e_rf t.2.2.2 u → (∀ (l1 : eL) (u1 : eW), e_sub t'.2.1 l1 → e_rf t'.2.2.2 u1 → e_Good ft cl lay ad ce sl (xm_l q) p l e R s m args below meth c D A H0 Q (t'.1, l1, t'.2.2.1, u1)) → e_Good ft cl lay ad ce sl (xm_l q) p l e R s m args below meth c D A H0 Q (t.1, l', t.2.2.1, u)
def e_EOR (fd : Nat) (ft : Nat → Nat → Nat) (cl : List vw_C) (lay : List eY) (I : Nat → xM) (q : xM) (l : Launch) (pc : Nat) (en : eE) : Prop := match en with
  | (0, f, _, _) => (e_Snd ft cl lay (xm_b q) (xm_y q).cls (xm_l q) (xm_y q).name (xm_c q) (xm_s q) pc f ∧ e_NI lay f) ∨ e_Mac fd ft cl lay q l pc f
  | (1, _, k, _) => x_Rt (xm_b q) (xm_r q) pc k
  | (2, _, M', na) => x_Cl (xm_b q) (xm_y q).cls (xm_l q) (xm_y q).name (xm_c q) (xm_s q) pc (I M') na
  | _ => True
def e_TabR (fd : Nat) (ft : Nat → Nat → Nat) (cl : List vw_C) (lay : List eY) (I : Nat → xM) (code : Nat → Nat → eE) (l : Launch) : Prop :=
  1 ≤ fd ∧ (∀ M pc, e_EOR fd ft cl lay I (I M) l pc (code M pc)) ∧ (∀ M, plainName (xm_y (I M)).cls = true) ∧ (∀ M, xm_o (I M) ≠ 999 → (xm_o (I M) = 998 ∧ (xm_y (I M)).cls = "java/lang/String" ∧ ∀ (k n : Nat), lay[k]? ≠ some (0, 998, n)) ∨ (xm_o (I M) ≠ 998 ∧ ∃ r, cl[xm_o (I M)]? = some r ∧ r.1 = (xm_y (I M)).cls))
def e_QR (ft : Nat → Nat → Nat) (cl : List vw_C) (lay : List eY) (ad : List Nat) (D : va_G) (ws0 : va_W) (sz : Nat) (r : List eV) (Wc : eW → Prop) : Array Value → State → Outcome → State → Prop := fun _ st oc t =>
  (∃ (v : Option Value) (ws : va_W) (tys : List (ClassId × FieldType)) (w : eW), Wc w ∧ oc = .returned v ∧ x_all2 (e_rel ad) r v.toList ∧ e_world ft cl lay ad tys w ws ∧ va_K D cl tys t ∧ va_P D cl ws t.heap ∧ va_D (va_A ws0 sz) ws) ∧ va_F (va_A ws0 sz) st t
def e_MetR (ft : Nat → Nat → Nat) (cl : List vw_C) (lay : List eY) (I : Nat → xM) (l : Launch) (d M : Nat) (as : List eV) (w : eW) (r : List eV) (Wc : eW → Prop) : Prop :=
  ∀ (ad : List Nat) (D : va_G) (ws : va_W) (tys : List (ClassId × FieldType)) (vs : List Value) (sz : Nat), x_all2 (e_rel ad) as vs → e_world ft cl lay ad tys w ws →
    Met l (xm_y (I M)) (x_ws (I M)) (x_rm d (I M)) (va_Pc vs (fun U => U.heap.size = sz ∧ va_P D cl ws U.heap ∧ va_K D cl tys U ∧ va_D (fun _ => True) ws ∧ x_Ex U ∧ e_Old ad (va_A ws sz) U U.heap)) (e_QR ft cl lay ad D ws sz r Wc) (xm_c (I M)) (xm_s (I M)) (va_A ws sz)
def e_FrmR (fd : Nat) (ft : Nat → Nat → Nat) (cl : List vw_C) (lay : List eY) (I : Nat → xM) (code : Nat → Nat → eE) (l : Launch) (n : Nat) : Prop :=
  ∀ (d M : Nat) (t : eS) (r : List eV) (w' : eW), fd ≤ d → e_go fd lay code I n d M t = some (r, w') → ∀ (l' : eL) (u : eW), e_sub t.2.1 l' → e_rf t.2.2.2 u → ∀ {ad : List Nat} {ce sl : Nat} {p : Program} {e : Env} {R : Room} {s : State} {m : MethodId} {args : Array Value} {below : List Frame} {meth : Method} {c : Code} {D : va_G} {A : Nat → Prop} {H0 : Heap} {Q : State → Prop},
    x_Cx (xm_b (I M)) (xm_y (I M)).cls (xm_l (I M)) (xm_y (I M)).name (xm_c (I M)) (xm_s (I M)) p R s m args meth c → ce ≤ xm_c (I M) → sl ≤ xm_s (I M) → d ≤ R.frames → 64 * d ≤ R.locals → (∀ q : Nat, H0.size ≤ q → A q) →
    (∀ (t' : eS) (f : eS → Option eS) (k b : Nat), code M t'.1 = (1, f, k, b) → e_retv k t'.2.2.1 = some r → e_rf w' t'.2.2.2 → e_Good ft cl lay ad ce sl (xm_l (I M)) p l e R s m args below meth c D A H0 Q t') → e_Good ft cl lay ad ce sl (xm_l (I M)) p l e R s m args below meth c D A H0 Q (t.1, l', t.2.2.1, u)
section EDZ
variable {fd : Nat} {ft : Nat → Nat → Nat} {cl : List vw_C} {lay : List eY} {I : Nat → xM} {code : Nat → Nat → eE} {l : Launch}
theorem e_met_ofR (hT : e_TabR fd ft cl lay I code l) {n : Nat} (hF : e_FrmR fd ft cl lay I code l n) {d M : Nat} {as : List eV} {w : eW} {r : List eV} {w' : eW} (hd : fd ≤ d) (hl : e_cats as ≤ xm_l (I M)) (h : e_go fd lay code I n d M (0, e_ent 0 as, [], w) = some (r, w')) {u : eW} (hu : e_rf w u) : e_MetR ft cl lay I l d M as u r (fun u' => e_rf w' u') := by
  intro ad D ws tys vs sz has hw
  refine Met.ofW (cc := xm_b (I M)) (maxL := xm_l (I M)) (ret := xm_r (I M)) (hT.2.2.1 M) rfl ?_
  intro p e s m args below meth c s₁ B hml hv
  obtain ⟨rfl, hsz, hP, hK, hD0, hEx, hOld⟩ := hv
  have hx := B.exec
  have hb := B.bytes
  have hr := B.returns
  have hts := atoms_spec (ws := x_ws (I M)) B.pre
  have hown : s.vm.findClass (xm_y (I M)).cls = some m.cls := findClass_of_methodNamed B.named
  have hlocks := B.notSynchronized
  have hin : meth.name = (xm_y (I M)).name := (name_of_methodNamed B.named B.method).1
  subst hsz
  have hD := hD0.self (sz := s.heap.size)
  have hA : ∀ q : Nat, s.heap.size ≤ q → va_A ws s.heap.size q := fun q h => Or.inr h
  rw [lg_entry_eq]
  have hle : (lg_sl vs).length ≤ xm_l (I M) := by rw [(e_cats_ok has).2]; exact hl
  refine hF d M _ r w' hd h (e_ent 0 as) u (e_sub.ent as) hu (ce := 0) (sl := 0) (D := D) (A := va_A ws s.heap.size) (H0 := s.heap) ⟨⟨hx, hb, hml, hown, fun w hw => hts w (List.mem_cons_of_mem _ hw)⟩, hin, rfl, rfl, by show 1 ≤ d; have := hT.1; omega, by show 32 ≤ 64 * d; have := hT.1; omega, hEx⟩ (Nat.zero_le _) (Nat.zero_le _) (Nat.le_refl d) (Nat.le_refl (64 * d)) hA ?_ _ [] s.heap [] ⟨lv_args 0 vs, ws, tys, lv_entry vs hle, e_ent_ok 0 has, trivial, hw, ⟨hK, hOld⟩, hP, hD, va_S.rf⟩
  intro t f k b hc hlf hw' ls' stk H locs hI
  obtain ⟨lv, ws', tys', h1, h2, h3, h4, h5, h6, h7, h8⟩ := hI
  have hE := hT.2.1 M t.1
  rw [hc] at hE
  replace hE : x_Rt (xm_b (I M)) (xm_r (I M)) t.1 k := hE
  refine W.widen (k := xm_c (I M)) (n := xm_s (I M)) (Nat.zero_le _) (Nat.zero_le _) ?_
  have fin : ∀ (v : Option Value) (T : State), x_all2 (e_rel ad) r v.toList → T.heap = H → s.WarmedH T.vm → e_QR ft cl lay ad D ws s.heap.size r (fun u' => e_rf w' u') vs.toArray s (.returned v) T := by
    intro v T hr hTh hW
    exact ⟨⟨v, ws', tys', t.2.2.2, hw', rfl, hr, h4, va_K.moved hW.alike h5.1, by rw [hTh]; exact h6, h7⟩, h8.F hTh⟩
  unfold e_retv at hlf
  split at hlf
  · rename_i hst
    cases hlf
    rw [hst] at h3
    match stk, h3 with
    | [], _ =>
      obtain ⟨g1, g2⟩ := hE
      exact W.vret hx hb (by rw [hr, g2]) (fun T hTh hW => fin none T trivial hTh hW) h8.2.2 g1
  · rename_i x hst
    cases hy : Nat.beq (e_ty x) 0 with
    | false => rw [hy] at hlf; cases hlf
    | true =>
      rw [hy] at hlf
      cases hlf
      rw [hst] at h3
      match stk, h3 with
      | [v], h3 =>
        obtain ⟨g1, g2⟩ := hE
        have hk := e_ty_ok h3.1
        rw [Nat.eq_of_beq_eq_true hy] at hk
        obtain ⟨z, rfl⟩ := hk
        exact W.iret hx hb (by rw [hr, g2]) (fun T hTh hW => fin (some (.int z)) T h3 hTh hW) h8.2.2 g1
  · rename_i x hst
    cases hy : Nat.beq (e_ty x) 1 with
    | false => rw [hy] at hlf; cases hlf
    | true =>
      rw [hy] at hlf
      cases hlf
      rw [hst] at h3
      match stk, h3 with
      | [v], h3 =>
        obtain ⟨g1, g2⟩ := hE
        have hk := e_ty_ok h3.1
        rw [Nat.eq_of_beq_eq_true hy] at hk
        obtain ⟨z, rfl⟩ := hk
        exact W.lret hx hb (by rw [hr, g2]) (fun T hTh hW => fin (some (.long z)) T h3 hTh hW) h8.2.2 g1
  · rename_i x hst
    cases hy : Nat.beq (e_ty x) 2 with
    | false => rw [hy] at hlf; cases hlf
    | true =>
      rw [hy] at hlf
      cases hlf
      rw [hst] at h3
      match stk, h3 with
      | [v], h3 =>
        obtain ⟨g1, rt, g2, g3⟩ := hE
        have hk := e_ty_ok h3.1
        rw [Nat.eq_of_beq_eq_true hy] at hk
        exact W.aret hx hb (by rw [hr, g2]) g3 hk (fun T hTh hW => fin (some v) T h3 hTh hW) h8.2.2 g1
  · rename_i x hst
    cases hy : e_pk 1 x with
    | false => rw [hy] at hlf; cases hlf
    | true =>
      rw [hy] at hlf
      cases hlf
      rw [hst] at h3
      match stk, h3 with
      | [v], h3 =>
        obtain ⟨g1, g2⟩ := hE
        have hk : v = .int 0 ∨ v = .int 1 := e_pk_ok h3.1 hy
        rcases hk with rfl | rfl
        · exact W.zret hx hb (by rw [hr, g2]) (by decide) (fun T hTh hW => fin (some (.int 0)) T h3 hTh hW) h8.2.2 g1
        · exact W.zret hx hb (by rw [hr, g2]) (by decide) (fun T hTh hW => fin (some (.int 1)) T h3 hTh hW) h8.2.2 g1
  · rename_i x hst
    cases hy : e_pc x with
    | false => rw [hy] at hlf; cases hlf
    | true =>
      rw [hy] at hlf
      cases hlf
      rw [hst] at h3
      match stk, h3 with
      | [v], h3 =>
        obtain ⟨g1, g2⟩ := hE
        obtain ⟨z, rfl, n1, n2⟩ := e_pc_ok h3.1 hy
        rcases g2 with g2 | g2
        · exact W.zret hx hb (by rw [hr, g2]) n1 (fun T hTh hW => fin (some (.int z)) T h3 hTh hW) h8.2.2 g1
        · exact W.zret hx hb (by rw [hr, g2]) n2 (fun T hTh hW => fin (some (.int z)) T h3 hTh hW) h8.2.2 g1
  · cases hlf
/-- a call of a method of which it is known what it does -/
theorem e_callR (hT : e_TabR fd ft cl lay I code l) {d' M M' na : Nat} {t : eS} {r : List eV} {Wc : eW → Prop} (hE : x_Cl (xm_b (I M)) (xm_y (I M)).cls (xm_l (I M)) (xm_y (I M)).name (xm_c (I M)) (xm_s (I M)) t.1 (I M') na) (hb : e_may fd lay d' M' na (I M') t.2.2.1 (t.2.2.1.take na).reverse (t.2.2.1.drop na) = true) (hMet : e_MetR ft cl lay I l d' M' (t.2.2.1.take na).reverse t.2.2.2 r Wc)
    {ad : List Nat} {ce sl : Nat} {p : Program} {e : Env} {R : Room} {s : State} {m : MethodId} {args : Array Value} {below : List Frame} {meth : Method} {c : Code} {D : va_G} {A : Nat → Prop} {H0 : Heap} {Q : State → Prop} (C : x_Cx (xm_b (I M)) (xm_y (I M)).cls (xm_l (I M)) (xm_y (I M)).name (xm_c (I M)) (xm_s (I M)) p R s m args meth c) (hce : ce ≤ xm_c (I M)) (hsl : sl ≤ xm_s (I M)) (hd : d' + 1 ≤ R.frames) (hdl : 64 * (d' + 1) ≤ R.locals) (hA : ∀ q : Nat, H0.size ≤ q → A q)
    (hgo : ∀ u', Wc u' → e_Good ft cl lay ad ce sl (xm_l (I M)) p l e R s m args below meth c D A H0 Q (t.1 + 3, t.2.1, r ++ t.2.2.1.drop na, u')) : e_Good ft cl lay ad ce sl (xm_l (I M)) p l e R s m args below meth c D A H0 Q t := by
  obtain ⟨h64, hE⟩ := hE
  unfold e_may at hb
  simp only [Bool.and_eq_true] at hb
  obtain ⟨b1, b2, b3, b4, b5, b6, b7, b8⟩ := hb
  have b1 := Nat.le_of_ble_eq_true b1
  have b2 := Nat.le_of_ble_eq_true b2
  have b3 := Nat.le_of_ble_eq_true b3
  have b4 := Nat.le_of_ble_eq_true b4
  have b5 := Nat.le_of_ble_eq_true b5
  have b6 := Nat.eq_of_beq_eq_true b6
  have b7 := Nat.eq_of_beq_eq_true b7
  intro lsl stk H locs hI
  obtain ⟨lv, ws, tys, h1, h2, h3, h4, h5, h6, h7, h8⟩ := hI
  have hspl := x_split na h3
  have hargs := x_all2_rev hspl.1
  have hM := hMet ad D ws tys (stk.take na).reverse H.size hargs h4
  have hlen : stk.length = t.2.2.1.length := (x_all2_len h3).symm
  have hvA : ∀ q : Nat, va_A ws H.size q → A q := by
    intro q hq
    rcases hq with ⟨k, e9, hk⟩ | hq
    · exact h7.2 k _ hk
    · exact hA q (Nat.le_trans h8.1 hq)
  have hrun := hE (e := e) (below := below) C (H := H) (locs := locs) (cells := ce) (slots := sl) (ls := lsl) (rest := stk.drop na) hM
    (fun a U g mk q => by obtain ⟨q0, q1, qP, qK, qD, qE, qO⟩ := q; exact ⟨q0, q1, qP, va_K.moved (u := U) (U := U.calling g mk a) (Vm.Alike.refl U.vm) qK, qD, qE.same (U := U.calling g mk a) rfl, qO.same (U := U.calling g mk a) rfl⟩)
    (fun U hU hW => ⟨rfl, by rw [hU], by rw [hU]; exact h6, va_K.moved hW.alike h5.1, h7.weaken (fun _ _ _ _ => trivial), C.2.2.2.2.2.2.warm hW, by rw [hU]; exact ((h5.2.kept h8.2.1).narrow hvA).warm hW⟩)
    (by
      by_cases ho : xm_o (I M') = 999
      · exact Or.inl ho
      · refine Or.inr ?_
        unfold e_rcv at b8
        rw [x_nb ho] at b8
        simp only [cond_false] at b8
        split at b8
        · rename_i j as' has'
          split at b8
          · rename_i c9 r9 hcell
            have e9 := Nat.eq_of_beq_eq_true b8
            rw [has'] at hargs
            match hv : (stk.take na).reverse, hargs with
            | v :: As, hargs =>
              obtain ⟨a, ee, hq, rfl, hcc, -⟩ := e_ref h4 hargs.1 hcell
              obtain ⟨fs, rfl, -, -⟩ := hcc
              rcases hT.2.2.2 M' ho with ⟨h998, -, hno⟩ | ⟨-, r, hr1, hr2⟩
              · rw [e9, h998] at hcell
                exact absurd hcell (hno _ _)
              · rw [← e9] at hr1
                obtain ⟨cellB, k1, k2, k3⟩ := va_recv h5.1 h6 hr1 hq
                exact ⟨a, As, rfl, cellB, k1, k2, by rw [← hr2]; exact k3⟩
          · simp only [Bool.and_eq_true, Bool.or_eq_true, decide_eq_true_eq] at b8
            have e9 := Nat.eq_of_beq_eq_true b8.1
            rw [has'] at hargs
            match hv : (stk.take na).reverse, hargs with
            | v :: As, hargs =>
              rcases hT.2.2.2 M' ho with ⟨-, hstr, -⟩ | ⟨h998, -⟩
              · obtain ⟨a, rfl, cellB, k1, k2, k3⟩ := e_Old.recv h5.2 h8 hargs.1 b8.2
                exact ⟨a, As, rfl, cellB, k1, k2, by rw [hstr]; exact k3⟩
              · exact absurd e9 h998
          · cases b8
        · cases b8)
    (by rw [List.length_reverse, List.length_take, hlen]; omega) rfl rfl (by show d' + 1 ≤ R.frames; omega) (by show 8 + (xm_l (I M') + 11) + 64 * d' ≤ R.locals; omega) h1.1
    (by rw [(e_cats_ok hspl.2).1]; exact b4) ⟨by rw [C.2.2.1, b6]; exact hce, by rw [C.2.2.2.1, b7]; exact hsl⟩
  rw [List.reverse_reverse, List.take_append_drop] at hrun
  refine x_after hrun h8 (fun st v T hq => hq.2) (fun q _ h => hvA q h) hvA (fun v st T H1 locs1 hst hTh hal hq hS1 => ?_)
  obtain ⟨⟨v', ws', tys', u9, hu9, ev, hr, hw', hK', hP', hD'⟩, hFr⟩ := hq
  cases ev
  rw [b6, b7]
  exact hgo u9 hu9 lsl (v.toList ++ stk.drop na) H1 locs1 ⟨lv, ws', tys', h1, h2, x_all2_app hr hspl.2, hw', ⟨va_K.moved hal.symm hK', h5.2⟩, by rw [← hTh]; exact hP', hD'.weaken (fun _ q _ h => hvA q.1 h), hS1⟩
theorem e_frmR (hT : e_TabR fd ft cl lay I code l) : ∀ n, e_FrmR fd ft cl lay I code l n := by
  intro n
  induction n with
  | zero => intro d M t r w' _ h; cases h
  | succ n ih =>
    intro d M t r w' hfd h l' u hs hu ad ce sl p e R s m args below meth c D A H0 Q C hce hsl hd hdl hA hret
    unfold e_go at h
    have hE := hT.2.1 M t.1
    split at h
    · rename_i f a b hc
      rw [hc] at hE
      replace hE : (e_Snd ft cl lay (xm_b (I M)) (xm_y (I M)).cls (xm_l (I M)) (xm_y (I M)).name (xm_c (I M)) (xm_s (I M)) t.1 f ∧ e_NI lay f) ∨ e_Mac fd ft cl lay (I M) l t.1 f := hE
      split at h
      · rename_i t' hf
        rcases hE with ⟨hE, hN⟩ | hE
        · obtain ⟨l1, v1, g1, g2, g3, g4⟩ := hN.1 t.1 t.2.1 l' t.2.2.1 t.2.2.2 u t' hf hs hu
          exact hE C hce hsl hA (t.1, l', t.2.2.1, u) (t'.1, l1, t'.2.2.1, v1) rfl g1 (ih d M t' r w' hfd h l1 v1 g2 g3 C hce hsl hd hdl hA hret)
        · exact hE hfd C hce hsl hd hdl hA t t' l' u rfl hf hs hu (fun l1 u1 g2 g3 => ih d M t' r w' hfd h l1 u1 g2 g3 C hce hsl hd hdl hA hret)
      · cases h
    · rename_i f k b hc
      split at h
      · rename_i r' hr
        cases h
        exact hret (t.1, l', t.2.2.1, u) f k b hc hr hu
      · cases h
    · rename_i f M' na hc
      rw [hc] at hE
      replace hE : x_Cl (xm_b (I M)) (xm_y (I M)).cls (xm_l (I M)) (xm_y (I M)).name (xm_c (I M)) (xm_s (I M)) t.1 (I M') na := hE
      cases d with
      | zero => cases h
      | succ d' =>
        simp only at h
        cases hb : e_may fd lay d' M' na (I M') t.2.2.1 (t.2.2.1.take na).reverse (t.2.2.1.drop na) with
        | false => rw [hb] at h; cases h
        | true =>
          rw [hb] at h
          simp only [cond_true] at h
          split at h
          · rename_i rw9 hls
            obtain ⟨r9, w9⟩ := rw9
            have hbb := hb
            unfold e_may at hbb
            simp only [Bool.and_eq_true] at hbb
            exact e_callR hT (t := (t.1, l', t.2.2.1, u)) hE hb (e_met_ofR hT ih (Nat.le_of_ble_eq_true hbb.1) (Nat.le_of_ble_eq_true hbb.2.2.2.2.1) hls hu) C hce hsl hd hdl hA (fun u' hu' => ih (d' + 1) M _ r w' hfd h l' u' hs hu' C hce hsl hd hdl hA hret)
          · cases h
    · cases h
/-- a contract over a table with macros, on the machine: from every contents that know more -/
theorem e_Ok.metR (hT : e_TabR fd ft cl lay I code l) {d M : Nat} {as : List eV} {w : eW} {Q : List eV → eW → Prop} (hd : fd ≤ d) (hl : e_cats as ≤ xm_l (I M)) (h : e_Ok fd lay code I d M (0, e_ent 0 as, [], w) Q) {u : eW} (hu : e_rf w u) : ∃ r w', Q r w' ∧ e_MetR ft cl lay I l d M as u r (fun u' => e_rf w' u') := by
  obtain ⟨n, r, w', h1, h2⟩ := h
  exact ⟨r, w', h2, e_met_ofR hT (e_frmR hT n) hd hl h1 hu⟩
end EDZ
end
end
-- part 49d
section
noncomputable section
/-! the rules for any G that is closed under steps and calls -/
def e_GS (code : Nat → Nat → eE) (M : Nat) (G : eS → Prop) : Prop := ∀ (t t' : eS) (f : eS → Option eS) (a b : Nat), code M t.1 = (0, f, a, b) → f t = some t' → G t' → G t
def e_GC (fd : Nat) (lay : List eY) (code : Nat → Nat → eE) (I : Nat → xM) (d M : Nat) (G : eS → Prop) : Prop := ∀ (t : eS) (f : eS → Option eS) (M' na : Nat) (Q' : List eV → eW → Prop), code M t.1 = (2, f, M', na) → e_may fd lay d M' na (I M') t.2.2.1 (t.2.2.1.take na).reverse (t.2.2.1.drop na) = true → e_Ok fd lay code I d M' (0, e_ent 0 (t.2.2.1.take na).reverse, [], t.2.2.2) Q' → (∀ r w, Q' r w → G (t.1 + 3, t.2.1, r ++ t.2.2.1.drop na, w)) → G t
section EEA
variable {fd : Nat} {ft : Nat → Nat → Nat} {lay : List eY} {code : Nat → Nat → eE} {I : Nat → xM} {d M k tg nx a b p n ci : Nat} {l : eL} {r : List eV} {w : eW} {Q' : List eV → eW → Prop} {G : eS → Prop}
theorem e_GS.step (hG : e_GS code M G) {a b : Nat} {t t' : eS} {f : eS → Option eS} (hc : code M t.1 = (0, f, a, b)) (hf : f t = some t') (h : G t') : G t := hG t t' f a b hc hf h
theorem e_GS.getr (hG : e_GS code M G) {c z : Int} (hc : code M p = (0, ei_getf ft lay ci k nx, a, b)) (hl : lay[c.toNat]? = some (0, ci, n)) (hk : Nat.ble (k + 1) n = true) (hf : ft ci k = 1) (hz : w c k = z) (h1 : 0 ≤ z ∧ z ≤ 2147483647) (h : G (nx, l, (1, z) :: r, w)) : G (p, l, (1, c) :: r, w) := by
  refine hG.step hc ?_ h
  subst hz
  unfold ei_getf
  simp only [hl, Nat.beq_refl, hk, e_okz_of (show _ from ⟨by omega, h1.2⟩), Bool.and_self, cond_true, hf, e_rd]
  rw [decide_eq_false (by omega)]
  rfl
theorem e_GS.getf (hG : e_GS code M G) {c z : Int} (hc : code M p = (0, ei_getf ft lay ci k nx, a, b)) (hl : lay[c.toNat]? = some (0, ci, n)) (hk : Nat.ble (k + 1) n = true) (hf : ft ci k = 0) (hz : w c k = z) (h1 : -2147483648 ≤ z ∧ z ≤ 2147483647) (h : G (nx, l, (0, z) :: r, w)) : G (p, l, (1, c) :: r, w) := by
  refine hG.step hc ?_ h
  subst hz
  unfold ei_getf
  simp only [hl, Nat.beq_refl, hk, e_okz_of h1, Bool.and_self, cond_true, hf]
  rfl
theorem e_GS.if1 (hG : e_GS code M G) {x : Int} (hc : code M p = (0, ei_if1 k tg nx, a, b)) (ht : x_cnd k x 0 → G (tg, l, r, w)) (hf : ¬ x_cnd k x 0 → G (nx, l, r, w)) : G (p, l, (0, x) :: r, w) := by
  by_cases h : x_cnd k x 0
  · exact hG.step hc (e_if1_t h) (ht h)
  · exact hG.step hc (e_if1_f h) (hf h)
theorem e_GS.if2 (hG : e_GS code M G) {x y : Int} (hc : code M p = (0, ei_if2 k tg nx, a, b)) (ht : x_cnd k x y → G (tg, l, r, w)) (hf : ¬ x_cnd k x y → G (nx, l, r, w)) : G (p, l, (0, y) :: (0, x) :: r, w) := by
  by_cases h : x_cnd k x y
  · exact hG.step hc (e_if2_t h) (ht h)
  · exact hG.step hc (e_if2_f h) (hf h)
theorem e_GS.ald (hG : e_GS code M G) {c i z : Int} {b' : Bool} {kd c' : Nat} (hc : code M p = (0, ei_ald lay b' nx, a, b)) (hl : lay[c.toNat]? = some (kd, c', n)) (hk : x_akd b' kd = true) (h0 : 0 ≤ i ∧ i < n) (hz : w c i = z) (h1 : -2147483648 ≤ z ∧ z ≤ 2147483647) (h : G (nx, l, (0, z) :: r, w)) : G (p, l, (0, i) :: (1, c) :: r, w) := by
  refine hG.step hc ?_ h
  subst hz
  unfold ei_ald
  simp only [hl, hk, decide_eq_true h0.1, decide_eq_true h0.2, e_okz_of h1, Bool.and_self, cond_true]
theorem e_GS.ast (hG : e_GS code M G) {c i x z : Int} {b' : Bool} {kd c' : Nat} (hc : code M p = (0, ei_ast lay b' nx, a, b)) (hl : lay[c.toNat]? = some (kd, c', n)) (hk : x_akd b' kd = true) (hz : e_nar kd x = some z) (h0 : 0 ≤ i ∧ i < n) (h : G (nx, l, r, e_up w c i z)) : G (p, l, (0, x) :: (0, i) :: (1, c) :: r, w) := by
  refine hG.step hc ?_ h
  unfold ei_ast
  simp only [hl, hz, hk, decide_eq_true h0.1, decide_eq_true h0.2, Bool.and_self, cond_true]
theorem e_GS.any (hG : e_GS code M G) {F : Int → Int → Option Int} {x y : Int} (hc : code M p = (0, ei_bin F nx, a, b)) (hF : ∃ z, F x y = some z ∧ -2147483648 ≤ z ∧ z ≤ 2147483647) (h : ∀ z, -2147483648 ≤ z → z ≤ 2147483647 → G (nx, l, (0, z) :: r, w)) : G (p, l, (0, y) :: (0, x) :: r, w) := by
  obtain ⟨z, h1, h2, h3⟩ := hF
  refine hG.step hc ?_ (h z h2 h3)
  show (match F x y with | some z => _ | none => none) = _
  rw [h1]
theorem e_GS.add (hG : e_GS code M G) {x y z : Int} (hc : code M p = (0, ei_bin eF_add nx, a, b)) (hz : x + y = z) (h1 : -2147483648 ≤ z ∧ z ≤ 2147483647) (h : G (nx, l, (0, z) :: r, w)) : G (p, l, (0, y) :: (0, x) :: r, w) := by
  refine hG.step hc ?_ h
  show some _ = some _
  rw [hz, e32_id h1.1 h1.2]
theorem e_GS.run (hG : e_GS code M G) {t t' : eS} (n : Nat) (h0 : e_steps code M n t = some t') (h : G t') : G t := by
  induction n generalizing t with
  | zero => cases h0; exact h
  | succ n ih =>
    unfold e_steps at h0
    split at h0
    · rename_i f a b hc
      split at h0
      · rename_i t1 hf
        exact hG.step hc hf (ih h0)
      · cases h0
    · cases h0
theorem e_GS.callV (hG : e_GC fd lay code I d M G) {M' na c n : Nat} {j : Int} {f : eS → Option eS} {st as : List eV} (hc : code M p = (2, f, M', na)) (hd : fd ≤ d) (hs : (st.take na).reverse = (1, j) :: as) (hl : lay[j.toNat]? = some (0, c, n)) (ho : xm_o (I M') = c) (hm : e_mayS M' na (I M') st = true) (h' : e_Ok fd lay code I d M' (0, e_ent 0 (st.take na).reverse, [], w) Q') (h : ∀ r w', Q' r w' → G (p + 3, l, r ++ st.drop na, w')) : G (p, l, st, w) := by
  refine hG (p, l, st, w) f M' na Q' hc ?_ h' h
  unfold e_mayS at hm
  unfold e_may
  simp only [Bool.and_eq_true] at hm ⊢
  refine ⟨Nat.ble_eq_true_of_le hd, hm.1, hm.2.1, hm.2.2.1, hm.2.2.2.1, hm.2.2.2.2.1, hm.2.2.2.2.2, ?_⟩
  rw [hs]
  unfold e_rcv
  simp only [hl, ho, Nat.beq_refl]
  cases Nat.beq c 999 <;> rfl
theorem e_GS.callS (hG : e_GC fd lay code I d M G) {M' na : Nat} {f : eS → Option eS} {st : List eV} (hc : code M p = (2, f, M', na)) (hd : fd ≤ d) (ho : xm_o (I M') = 999) (hm : e_mayS M' na (I M') st = true) (h' : e_Ok fd lay code I d M' (0, e_ent 0 (st.take na).reverse, [], w) Q') (h : ∀ r w', Q' r w' → G (p + 3, l, r ++ st.drop na, w')) : G (p, l, st, w) := by
  refine hG (p, l, st, w) f M' na Q' hc ?_ h' h
  unfold e_mayS at hm
  unfold e_may e_rcv
  simp only [Bool.and_eq_true] at hm ⊢
  exact ⟨Nat.ble_eq_true_of_le hd, hm.1, hm.2.1, hm.2.2.1, hm.2.2.2.1, hm.2.2.2.2.1, hm.2.2.2.2.2, by rw [ho]; rfl⟩
end EEA
section EEB
variable {fd : Nat} {ft : Nat → Nat → Nat} {cl : List vw_C} {lay : List eY} {I : Nat → xM} {code : Nat → Nat → eE} {l : Launch}
theorem e_Good.gs (hT : e_Tab fd ft cl lay I code) {M : Nat} {ad : List Nat} {ce sl : Nat} {p : Program} {e : Env} {R : Room} {s : State} {m : MethodId} {args : Array Value} {below : List Frame} {meth : Method} {c : Code} {D : va_G} {A : Nat → Prop} {H0 : Heap} {Q : State → Prop} (C : x_Cx (xm_b (I M)) (xm_y (I M)).cls (xm_l (I M)) (xm_y (I M)).name (xm_c (I M)) (xm_s (I M)) p R s m args meth c) (hce : ce ≤ xm_c (I M)) (hsl : sl ≤ xm_s (I M)) (hA : ∀ q : Nat, H0.size ≤ q → A q) : e_GS code M (fun t => e_Good ft cl lay ad ce sl (xm_l (I M)) p l e R s m args below meth c D A H0 Q t) := fun t t' f a b hc hf h => by
  have hE := hT.2.1 M t.1
  rw [hc] at hE
  replace hE : e_Snd ft cl lay (xm_b (I M)) (xm_y (I M)).cls (xm_l (I M)) (xm_y (I M)).name (xm_c (I M)) (xm_s (I M)) t.1 f := hE.1
  exact hE C hce hsl hA t t' rfl hf h
theorem e_Good.gc (hT : e_Tab fd ft cl lay I code) {d M : Nat} {ad : List Nat} {ce sl : Nat} {p : Program} {e : Env} {R : Room} {s : State} {m : MethodId} {args : Array Value} {below : List Frame} {meth : Method} {c : Code} {D : va_G} {A : Nat → Prop} {H0 : Heap} {Q : State → Prop} (C : x_Cx (xm_b (I M)) (xm_y (I M)).cls (xm_l (I M)) (xm_y (I M)).name (xm_c (I M)) (xm_s (I M)) p R s m args meth c) (hce : ce ≤ xm_c (I M)) (hsl : sl ≤ xm_s (I M)) (hd : d + 1 ≤ R.frames) (hdl : 64 * (d + 1) ≤ R.locals) (hA : ∀ q : Nat, H0.size ≤ q → A q) : e_GC fd lay code I d M (fun t => e_Good ft cl lay ad ce sl (xm_l (I M)) p l e R s m args below meth c D A H0 Q t) := fun t f M' na Q' hc hm h' h => by
  have hE := hT.2.1 M t.1
  rw [hc] at hE
  replace hE : x_Cl (xm_b (I M)) (xm_y (I M)).cls (xm_l (I M)) (xm_y (I M)).name (xm_c (I M)) (xm_s (I M)) t.1 (I M') na := hE
  have hb := hm
  unfold e_may at hb
  simp only [Bool.and_eq_true] at hb
  obtain ⟨r, w', hq, hM⟩ := e_Ok.met (l := l) hT (Nat.le_of_ble_eq_true hb.1) (Nat.le_of_ble_eq_true hb.2.2.2.2.1) h'
  exact e_call hT hE hm hM C hce hsl hd hdl hA (h r w' hq)
end EEB
theorem e_GS.load {code : Nat → Nat → eE} {M p a b nx i ty : Nat} {l : eL} {st : List eV} {w : eW} {x : eV} {G : eS → Prop} (hG : e_GS code M G) (hL : e_find l i = some x) (hc : code M p = (0, ei_load i ty nx, a, b)) (hy : Nat.beq (e_ty x) ty = true) (h : G (nx, l, x :: st, w)) : G (p, l, st, w) := by
  refine hG.step hc ?_ h
  unfold ei_load
  simp only [hL, hy, cond_true]
def kn1 (z : Int) : Prop := -2147483648 ≤ z ∧ z ≤ 2147483647
section EED
variable {ad : List Nat} {tys : List (ClassId × FieldType)} {u : eW} {ws : va_W}
theorem e_world.q (h : e_world eft cls elay ad tys u ws) {j : Nat} {y : eY} (hy : elay[j]? = some y) : ∃ q, ws[j]? = some q ∧ e_cell eft cls ad tys y (u j) q.2 := by
  have hj : j < ws.length := by
    rw [← h.2.1]
    exact (List.getElem?_eq_some_iff.mp hy).1
  exact ⟨ws[j], List.getElem?_eq_getElem hj, h.2.2 j y _ hy (List.getElem?_eq_getElem hj)⟩
/-- on the machine every number of a row of ints is known -/
theorem e_world.ar (h : e_world eft cls elay ad tys u ws) {j c n : Nat} (hy : elay[j]? = some (1, c, n)) (k : Nat) (hk : k < n) : kn1 (u j k) := by
  obtain ⟨q, -, hq⟩ := h.q hy
  obtain ⟨t0, cA, f, -, -, -, hf⟩ := hq
  have e := hf k hk
  have a := Int32.le_toInt (f k)
  have b := Int32.toInt_le (f k)
  rw [e] at a b
  exact ⟨a, b⟩
theorem e_world.fd (h : e_world eft cls elay ad tys u ws) {j c n : Nat} (hy : elay[j]? = some (0, c, n)) (k : Nat) (hk : k < n) (h0 : eft c k = 0) : kn1 (u j k) := by
  obtain ⟨q, -, hq⟩ := h.q hy
  obtain ⟨fs, -, -, hf⟩ := hq
  obtain ⟨v, -, hv⟩ := hf k hk
  rw [show eft ((0, c, n) : eY).2.1 k = 0 from h0] at hv
  obtain ⟨z, -, e⟩ := hv
  have a := Int32.le_toInt z
  have b := Int32.toInt_le z
  rw [e] at a b
  exact ⟨a, b⟩
end EED
end
end
-- part 49e
section
noncomputable section
/-! the table without macros (and without the texts' places, but for the sines) -/
def code1 (M pc : Nat) : eE := bif Nat.beq M 249 then te_249m pc else ecode0 M pc
theorem c1_ni (M pc : Nat) : e_niP (code1 M pc) := by
  unfold code1
  cases Nat.beq M 249 with
  | true => exact e_ni_249 pc
  | false => exact e_niP.of (e_tr_ok M pc)
theorem c1lk : e_Alk elay code1 := fun M pc f a b h => c1_ni M pc f a b h
end
end
-- part 49f
section
noncomputable section
/-! the model: tally as a stretch -/
def kC80 (c k : Int) : Prop := c = 280
theorem g_389 {G : eS → Prop} {l : eL} (hS : e_GS code1 389 G) {w : eW} {x y : Int} (gx : 0 ≤ x ∧ x ≤ 3) (h7 : w 275 7 = 280) (hn : kn1 (w 280 x)) (ha : kn1 (w 275 6)) (hL0 : e_find l 0 = some (1, 275)) (hL1 : e_find l 1 = some (0, x)) (hL2 : e_find l 2 = some (0, y)) (hK : ∀ u1, e_fr kC80 w u1 → G (25, l, [], u1)) : G (0, l, [], w) := by
  unfold kn1 at hn ha
  refine e_GS.load hS hL0 rfl rfl ?_
  refine e_GS.getr hS (z := 280) rfl rfl rfl rfl h7 (by omega) ?_
  refine e_GS.load hS hL1 rfl rfl ?_
  refine e_GS.run hS (t' := (6, l, [(0, x), (1, 280), (0, x), (1, 280)], w)) 1 rfl ?_
  refine e_GS.ald hS (z := w 280 x) rfl rfl rfl (by omega) rfl (by omega) ?_
  refine e_GS.load hS hL2 rfl rfl ?_
  refine e_GS.if1 hS rfl (fun h1 => ?_) (fun h1 => ?_)
  · replace h1 : (y : Int) = 0 := h1
    refine e_GS.run hS (t' := (23, l, [(0, 0), (0, w 280 x), (0, x), (1, 280)], w)) 1 rfl ?_
    refine e_GS.add hS (z := w 280 x) rfl (by omega) (by omega) ?_
    refine e_GS.ast hS rfl rfl rfl rfl (by omega) ?_
    generalize hw2 : e_up w 280 x (w 280 x) = w2
    have f3 : e_fr kC80 w w2 := e_fr.up (e_fr.refl w) hw2 (by unfold kC80; omega)
    exact hK _ f3
  · replace h1 : (y : Int) ≠ 0 := by have q : ¬ ((y : Int) = 0) := h1; omega
    refine e_GS.load hS hL0 rfl rfl ?_
    refine e_GS.getf hS (z := w 275 6) rfl rfl rfl rfl rfl (by omega) ?_
    refine e_GS.if1 hS rfl (fun h4 => ?_) (fun h4 => ?_)
    · replace h4 : (w 275 6 : Int) ≠ 0 := h4
      refine e_GS.run hS (t' := (23, l, [(0, 0), (0, w 280 x), (0, x), (1, 280)], w)) 1 rfl ?_
      refine e_GS.add hS (z := w 280 x) rfl (by omega) (by omega) ?_
      refine e_GS.ast hS rfl rfl rfl rfl (by omega) ?_
      generalize hw5 : e_up w 280 x (w 280 x) = w5
      have f6 : e_fr kC80 w w5 := e_fr.up (e_fr.refl w) hw5 (by unfold kC80; omega)
      exact hK _ f6
    · replace h4 : (w 275 6 : Int) = 0 := by have q : ¬ ((w 275 6 : Int) ≠ 0) := h4; omega
      refine e_GS.run hS (t' := (23, l, [(0, 1), (0, w 280 x), (0, x), (1, 280)], w)) 2 rfl ?_
      refine e_GS.any hS rfl (eF_add_any _ _) (fun z7 z7a z7b => ?_)
      refine e_GS.ast hS rfl rfl rfl rfl (by omega) ?_
      generalize hw8 : e_up w 280 x z7 = w8
      have f9 : e_fr kC80 w w8 := e_fr.up (e_fr.refl w) hw8 (by unfold kC80; omega)
      exact hK _ f9
theorem hv_rf {w u u1 : eW} (hu : e_rf w u) (f1 : e_fr kC80 u u1) : e_rf (e_hv 280 w) u1 := fun c k h => by
  unfold e_hv at h ⊢
  by_cases q : c = 280
  · rw [if_pos q] at h
    exact absurd h (by decide)
  · rw [if_neg q] at h ⊢
    rw [f1 c k q]
    exact hu c k h
theorem mac_389 (hT : e_Tab 1 eft cls elay eI code1) {l : Launch} : e_Mac 20 eft cls elay (eI 389) l 0 e_mTal := by
  intro d ad ce sl p e R s m args below meth c D A H0 Q hfd C hce hsl hd hdl hA t t' l' u ht hf hs hu IH
  obtain ⟨pc0, l0, st, w⟩ := t
  subst ht
  unfold e_mTal at hf
  simp only at hf
  split at hf
  · rename_i j x y h0 h1 h2
    split at hf
    · rename_i hc
      cases hf
      obtain ⟨rfl, gx0, gx3, e7⟩ := hc
      intro ls stk H locs hI
      obtain ⟨lv, ws, tys, k1, k2, k3, k4, k5, k6, k7, k8⟩ := hI
      have hu2 : e_rf w u := hu
      have u7 : u 275 7 = 280 := Eq.trans (hu2 275 7 (by rw [e7]; decide)) e7
      have ka := k4.fd (j := 275) (c := 12) (n := 119) rfl 6 (by decide) rfl
      have kn : kn1 (u 280 x) := by
        have z := k4.ar (j := 280) (n := 4) rfl x.toNat (by omega)
        rw [show ((x.toNat : Nat) : Int) = x by omega] at z
        exact z
      have hS := e_Good.gs (ad := ad) (e := e) (below := below) (D := D) (Q := Q) (l := l) hT C hce hsl hA
      have key := g_389 hS (w := u) (l := l') ⟨gx0, gx3⟩ u7 kn ka (hs.find h0) (hs.find h1) (hs.find h2) (fun u1 f1 => IH l' u1 hs (hv_rf hu f1))
      exact key ls stk H locs ⟨lv, ws, tys, k1, k2, k3, k4, k5, k6, k7, k8⟩
    · cases hf
  · cases hf
end
end
-- part 49g
section
noncomputable section
/-! texts on the exact machine: rows -/
section ETX
variable {ft : Nat → Nat → Nat} {cl : List vw_C} {lay : List eY} {cc : ByteArray} {own : String} {nL : Nat} {nm : String} {MC MS pc : Nat}
theorem e_T_ok {g : List eV → Option (Nat × List eV)} (h : ∀ {ad : List Nat} {ce sl : Nat} {p : Program} {l : Launch} {e : Env} {R : Room} {s : State} {m : MethodId} {args : Array Value} {below : List Frame} {meth : Method} {c : Code} {A : Nat → Prop} {H : Heap} {locs : List Loc} {Q : State → Prop} {ls : Array Slot} {st : List eV} {stk : List Value} {q : Nat × List eV}, x_Cx cc own nL nm MC MS p R s m args meth c → e_Old ad A s H → g st = some q → x_all2 (e_rel ad) st stk → ∃ stk', x_all2 (e_rel ad) q.2 stk' ∧ (W p l e R s m args below meth c H locs ce sl Q (F0 m q.1 ls stk') → W p l e R s m args below meth c H locs ce sl Q (F0 m pc ls stk))) : e_Snd ft cl lay cc own nL nm MC MS pc (e_S g) := by
  intro ad ce sl p l e R s m args below meth c D A H0 Q C hce hsl hA t t' hpc hf hg ls stk H locs hI
  obtain ⟨lv, ws, tys, h1, h2, h3, h4, h5, h6, h7, h8⟩ := hI
  subst hpc
  unfold e_S at hf
  cases hgt : g t.2.2.1 with
  | none => rw [hgt] at hf; cases hf
  | some q =>
    rw [hgt] at hf
    have hf' : some (q.1, t.2.1, q.2, t.2.2.2) = some t' := hf
    cases hf'
    obtain ⟨stk', k1, k2⟩ := h C (h5.2.kept h8.2.1) hgt h3
    exact k2 (hg ls stk' H locs ⟨lv, ws, tys, h1, h2, k1, h4, h5, h6, h7, h8⟩)
theorem e_ref1 {ad : List Nat} {j : Int} {a : Nat} (h0 : 0 ≤ j) (h : ad[j.toNat]? = some a) : e_rel ad (1, j) (.ref a) := ⟨h0, a, h, rfl⟩
theorem e_refE {ad : List Nat} {j : Int} {a : Nat} {v : Value} (hr : e_rel ad (1, j) v) (h : ad[j.toNat]? = some a) : v = .ref a := by
  obtain ⟨-, b, hb, rfl⟩ := hr
  have e : some a = some b := h.symm.trans hb
  cases e
  rfl
theorem er_ldcK (d : decode cc pc = .ok (.ldc 106, 2)) : e_Snd ft cl lay cc "RobotCellHouse$Reader" nL nm MC MS pc (ei_push (1, 357) (pc + 2)) :=
  e_T_ok (g := fun st => some (pc + 2, (1, 357) :: st)) (by
    intro ad ce sl p l e R s m args below meth c A H locs Q ls st stk q C hO hg h3
    cases hg
    obtain ⟨aK, aS, aN, bK, bS, h1, h2, -⟩ := hO
    exact ⟨.ref aK :: stk, ⟨e_ref1 (by decide) h1.1, h3⟩, fun k => va_ldcS C.1.1 C.1.2.1 C.1.2.2.2.1 h2.1 d k⟩)
theorem er_ldcG (d : decode cc pc = .ok (.ldc 135, 2)) : e_Snd ft cl lay cc "RobotCellHouse$Reader" nL nm MC MS pc (ei_push (1, 358) (pc + 2)) :=
  e_T_ok (g := fun st => some (pc + 2, (1, 358) :: st)) (by
    intro ad ce sl p l e R s m args below meth c A H locs Q ls st stk q C hO hg h3
    cases hg
    obtain ⟨aK, aS, aN, bK, bS, h1, h2, -⟩ := hO
    exact ⟨.ref aS :: stk, ⟨e_ref1 (by decide) h1.2.1, h3⟩, fun k => va_ldcS C.1.1 C.1.2.1 C.1.2.2.2.1 h2.2.1 d k⟩)
theorem e_ldcwS {p : Program} {l : Launch} {e : Env} {R : Room} {s : State} {m : MethodId} {args : Array Value} {below : List Frame} {meth : Method} {c : Code} {H : Heap} {locs : List Loc} {cells slots : Nat} {Q : State → Prop} {ls : Array Slot} {rest : List Value} (hexec : p.tables.exec = Jvm.exec) (hb : c.code = cc) {tx : String} {index q : Nat} (hown : s.vm.findClass own = some m.cls) (hZ : vk_R own index tx q s) (hdg : decode cc pc = .ok (.ldc_w index, 3))
    (k : W p l e R s m args below meth c H locs cells slots Q (F0 m (pc + 3) ls (.ref q :: rest))) : W p l e R s m args below meth c H locs cells slots Q (F0 m pc ls rest) := by
  intro T hT X
  obtain ⟨t, a1, b1⟩ := k T hT X
  refine ⟨t, ?_, b1⟩
  obtain ⟨k0, cf, i, a', hk, hcf, hcp, -, hr, hev'⟩ := Cond.stringRef_spec hown hZ.1
  cases hZ.2.symm.trans hev'
  obtain ⟨k', hk', he⟩ := X.warmed.alike.2.2 _ _ hk
  have hr' : k'.resolved[index]? = some (some (.string q)) := by
    rcases X.warmed.entry hk hk' index with h | ⟨h, -⟩
    · rw [h]; exact hr
    · rw [hr] at h; cases h
  have hdg2 : decode c.code (F0 m pc ls rest).pc = .ok (.ldc_w index, 3) := by rw [hb]; exact hdg
  jvm_step X.here [hexec, hdg2, ldc_w.wp_string (e := e) (s := T) (f := F0 m pc ls rest) X.here.top hk' (by rw [he]; exact hcf) hcp hr']
  exact a1
theorem er_ldcM (d : decode cc pc = .ok (.ldc_w 515, 3)) : e_Snd ft cl lay cc "RobotCellHouseModel" nL nm MC MS pc (ei_push (1, 357) (pc + 3)) :=
  e_T_ok (g := fun st => some (pc + 3, (1, 357) :: st)) (by
    intro ad ce sl p l e R s m args below meth c A H locs Q ls st stk q C hO hg h3
    cases hg
    obtain ⟨aK, aS, aN, bK, bS, h1, h2, -⟩ := hO
    exact ⟨.ref aK :: stk, ⟨e_ref1 (by decide) h1.1, h3⟩, fun k => e_ldcwS C.1.1 C.1.2.1 C.1.2.2.2.1 h2.2.2 d k⟩)
theorem e_gets {p : Program} {l : Launch} {e : Env} {R : Room} {s : State} {m : MethodId} {args : Array Value} {below : List Frame} {meth : Method} {c : Code} {H : Heap} {locs : List Loc} {cells slots : Nat} {Q : State → Prop} {ls : Array Slot} {rest : List Value} {A : Nat → Prop} {K n d : String} {v : Value} {ix : Nat} (C : x_Cx cc own nL nm MC MS p R s m args meth c) (hZ : va_Z K n d v A s H) (hw : Cond.fieldLink own ix K n d ∈ x_tbl) (hd : decode cc pc = .ok (.getstatic ix, 3))
    (k : W p l e R s m args below meth c H locs cells slots Q (F0 m (pc + 3) ls (v :: rest))) : W p l e R s m args below meth c H locs cells slots Q (F0 m pc ls rest) := by
  obtain ⟨cf, kf, fi, f, a, cell, k1, k2, k3, k4, k5, k6, k7, k8⟩ := hZ
  exact W.gets C.1.1 C.1.2.1 C.1.2.2.2.1 (C.1.2.2.2.2 _ hw) k1 k2 k3 k4 k5 (fun e => by rw [e] at k6; cases k6) k7 rfl hd k
theorem er_comp {ix : Nat} (hw : Cond.fieldLink own ix "java/lang/String" "COMPACT_STRINGS" "Z" ∈ x_tbl) (d : decode cc pc = .ok (.getstatic ix, 3)) : e_Snd ft cl lay cc own nL nm MC MS pc (ei_push (0, 1) (pc + 3)) :=
  e_T_ok (g := fun st => some (pc + 3, (0, 1) :: st)) (by
    intro ad ce sl p l e R s m args below meth c A H locs Q ls st stk q C hO hg h3
    cases hg
    obtain ⟨aK, aS, aN, bK, bS, h1, h2, h4, h5, h6, h7, -⟩ := hO
    exact ⟨.int 1 :: stk, ⟨⟨1, rfl, by decide⟩, h3⟩, fun k => e_gets C h7 hw d k⟩)
theorem er_sio {ix : Nat} (hw : Cond.fieldLink own ix "jdk/internal/util/Preconditions" "SIOOBE_FORMATTER" "Ljava/util/function/BiFunction;" ∈ x_tbl) (d : decode cc pc = .ok (.getstatic ix, 3)) : e_Snd ft cl lay cc own nL nm MC MS pc (ei_push (5, 0) (pc + 3)) :=
  e_T_ok (g := fun st => some (pc + 3, (5, 0) :: st)) (by
    intro ad ce sl p l e R s m args below meth c A H locs Q ls st stk q C hO hg h3
    cases hg
    obtain ⟨aK, aS, aN, bK, bS, h1, h2, h4, h5, h6, h7, vF, h8, h9⟩ := hO
    exact ⟨vF :: stk, ⟨h8, h3⟩, fun k => e_gets C h9 hw d k⟩)
theorem er_sines {ix : Nat} (hw : Cond.fieldLink own ix "RobotCellHouse" "SINES" "[I" ∈ x_tbl) (d : decode cc pc = .ok (.getstatic ix, 3)) : e_Snd ft cl lay cc own nL nm MC MS pc (ei_push (1, 359) (pc + 3)) :=
  e_T_ok (g := fun st => some (pc + 3, (1, 359) :: st)) (by
    intro ad ce sl p l e R s m args below meth c A H locs Q ls st stk q C hO hg h3
    cases hg
    obtain ⟨aK, aS, aN, bK, bS, h1, h2, h4, h5, -⟩ := hO
    exact ⟨.ref aN :: stk, ⟨e_ref1 (by decide) h1.2.2.1, h3⟩, fun k => e_gets C h5 hw d k⟩)
def g_cod (nx : Nat) : List eV → Option (Nat × List eV)
  | (1, j) :: r => if j = 357 ∨ j = 358 then some (nx, (0, 0) :: r) else none
  | _ => none
def g_val (nx : Nat) : List eV → Option (Nat × List eV)
  | (1, j) :: r => if j = 357 then some (nx, (1, 360) :: r) else if j = 358 then some (nx, (1, 361) :: r) else none
  | _ => none
def g_tln (nx : Nat) : List eV → Option (Nat × List eV)
  | (1, j) :: r => if j = 360 then some (nx, (0, 171) :: r) else if j = 361 then some (nx, (0, 13) :: r) else none
  | _ => none
def g_tld (nx : Nat) : List eV → Option (Nat × List eV)
  | (0, i) :: (1, j) :: r => if j = 360 ∧ 0 ≤ i ∧ i < 171 then some (nx, (0, (e_key.getD i.toNat 0).toInt) :: r) else if j = 361 ∧ 0 ≤ i ∧ i < 13 then some (nx, (0, (e_sgn.getD i.toNat 0).toInt) :: r) else none
  | _ => none
theorem e_tgetf {p : Program} {l : Launch} {e : Env} {R : Room} {s : State} {m : MethodId} {args : Array Value} {below : List Frame} {meth : Method} {c : Code} {H : Heap} {locs : List Loc} {cells slots : Nat} {Q : State → Prop} {ls : Array Slot} {rest : List Value} {A : Nat → Prop} {o n d : String} {v : Value} {ix a : Nat} (C : x_Cx cc own nL nm MC MS p R s m args meth c) (hZ : va_OF o n d v a A s H) (hw : Cond.fieldLink own ix o n d ∈ x_tbl) (hd : decode cc pc = .ok (.getfield ix, 3))
    (k : W p l e R s m args below meth c H locs cells slots Q (F0 m (pc + 3) ls (v :: rest))) : W p l e R s m args below meth c H locs cells slots Q (F0 m pc ls (.ref a :: rest)) := by
  obtain ⟨cf, k0, fi, f, cell, h1, h2, h3, h4, h5, h6⟩ := hZ
  exact W.getf C.1.1 C.1.2.1 C.1.2.2.2.1 (C.1.2.2.2.2 _ hw) h1 h2 h3 h4 (v := v) h5 rfl rfl hd k
theorem er_tcod {ix : Nat} (hw : Cond.fieldLink own ix "java/lang/String" "coder" "B" ∈ x_tbl) (d : decode cc pc = .ok (.getfield ix, 3)) : e_Snd ft cl lay cc own nL nm MC MS pc (e_S (g_cod (pc + 3))) :=
  e_T_ok (by
    intro ad ce sl p l e R s m args below meth c A H locs Q ls st stk q C hO hg h3
    unfold g_cod at hg
    split at hg
    · rename_i j r
      split at hg
      · rename_i hj
        cases hg
        obtain ⟨aK, aS, aN, bK, bS, h1, h2, h4, -⟩ := hO
        match stk, h3 with
        | v :: rest, h3 =>
          rcases hj with rfl | rfl
          · have e := e_refE h3.1 h1.1
            subst e
            exact ⟨.int 0 :: rest, ⟨⟨0, rfl, by decide⟩, h3.2⟩, fun k => e_tgetf C (h4.1 0 (by decide)).2.1 hw d k⟩
          · have e := e_refE h3.1 h1.2.1
            subst e
            exact ⟨.int 0 :: rest, ⟨⟨0, rfl, by decide⟩, h3.2⟩, fun k => e_tgetf C (h4.1 1 (by decide)).2.1 hw d k⟩
      · cases hg
    · cases hg)
theorem er_tval {ix : Nat} (hw : Cond.fieldLink own ix "java/lang/String" "value" "[B" ∈ x_tbl) (d : decode cc pc = .ok (.getfield ix, 3)) : e_Snd ft cl lay cc own nL nm MC MS pc (e_S (g_val (pc + 3))) :=
  e_T_ok (by
    intro ad ce sl p l e R s m args below meth c A H locs Q ls st stk q C hO hg h3
    unfold g_val at hg
    split at hg
    · rename_i j r
      obtain ⟨aK, aS, aN, bK, bS, h1, h2, h4, -⟩ := hO
      match stk, h3 with
      | v :: rest, h3 =>
        split at hg
        · rename_i hj
          cases hg
          subst hj
          have e := e_refE h3.1 h1.1
          subst e
          exact ⟨.ref bK :: rest, ⟨e_ref1 (by decide) h1.2.2.2.1, h3.2⟩, fun k => e_tgetf C (h4.1 0 (by decide)).2.2.1 hw d k⟩
        · split at hg
          · rename_i hj
            cases hg
            subst hj
            have e := e_refE h3.1 h1.2.1
            subst e
            exact ⟨.ref bS :: rest, ⟨e_ref1 (by decide) h1.2.2.2.2, h3.2⟩, fun k => e_tgetf C (h4.1 1 (by decide)).2.2.1 hw d k⟩
          · cases hg
    · cases hg)
theorem er_tln (d : decode cc pc = .ok (.arraylength, 1)) : e_Snd ft cl lay cc own nL nm MC MS pc (e_S (g_tln (pc + 1))) :=
  e_T_ok (by
    intro ad ce sl p l e R s m args below meth c A H locs Q ls st stk q C hO hg h3
    unfold g_tln at hg
    split at hg
    · rename_i j r
      obtain ⟨aK, aS, aN, bK, bS, h1, h2, h4, -⟩ := hO
      match stk, h3 with
      | v :: rest, h3 =>
        split at hg
        · rename_i hj
          cases hg
          subst hj
          have e := e_refE h3.1 h1.2.2.2.1
          subst e
          obtain ⟨cell, k1, k2, k3, k4, k5, k6, k7⟩ := (h4.1 0 (by decide)).2.2.2
          exact ⟨.int (Int32.ofNat 171) :: rest, ⟨⟨_, rfl, by decide⟩, h3.2⟩, fun k => W.alen (n := Int32.ofNat 171) C.1.1 C.1.2.1 k1 k2 k5 rfl rfl d k⟩
        · split at hg
          · rename_i hj
            cases hg
            subst hj
            have e := e_refE h3.1 h1.2.2.2.2
            subst e
            obtain ⟨cell, k1, k2, k3, k4, k5, k6, k7⟩ := (h4.1 1 (by decide)).2.2.2
            exact ⟨.int (Int32.ofNat 13) :: rest, ⟨⟨_, rfl, by decide⟩, h3.2⟩, fun k => W.alen (n := Int32.ofNat 13) C.1.1 C.1.2.1 k1 k2 k5 rfl rfl d k⟩
          · cases hg
    · cases hg)
/-- an index that lies in a row -/
theorem e_inr {z : Int32} {N n : Nat} (h0 : 0 ≤ z.toInt) (h1 : z.toInt < N) (h : N ≤ n) : ¬ (z < 0 ∨ n ≤ z.toNatClampNeg) := by
  intro q
  rcases q with q | q
  · have : z.toInt < (0 : Int32).toInt := x_lt32.mp q
    have e : (0 : Int32).toInt = 0 := by decide
    omega
  · have e : z.toNatClampNeg = z.toInt.toNat := rfl
    omega
theorem er_tld (d : decode cc pc = .ok (.baload, 1)) : e_Snd ft cl lay cc own nL nm MC MS pc (e_S (g_tld (pc + 1))) :=
  e_T_ok (by
    intro ad ce sl p l e R s m args below meth c A H locs Q ls st stk q C hO hg h3
    unfold g_tld at hg
    split at hg
    · rename_i i j r
      obtain ⟨aK, aS, aN, bK, bS, h1, h2, h4, -⟩ := hO
      match stk, h3 with
      | v1 :: v :: rest, h3 =>
        obtain ⟨z, rfl, rfl⟩ := e_int h3.1
        split at hg
        · rename_i hj
          cases hg
          obtain ⟨rfl, g0, g1⟩ := hj
          have e := e_refE h3.2.1 h1.2.2.2.1
          subst e
          obtain ⟨cell, k1, k2, k3, k4, k5, k6, k7⟩ := (h4.1 0 (by decide)).2.2.2
          exact ⟨.int (e_key.getD z.toInt.toNat 0) :: rest, ⟨⟨_, rfl, rfl⟩, h3.2.2⟩, fun k => W.bald (v := .int (e_key.getD z.toInt.toNat 0)) C.1.1 C.1.2.1 k1 k2 k3 (e_inr (N := 171) g0 g1 k4) (k6 z.toInt.toNat (show z.toInt.toNat < 171 by omega)) rfl rfl d k⟩
        · split at hg
          · rename_i hj
            cases hg
            obtain ⟨rfl, g0, g1⟩ := hj
            have e := e_refE h3.2.1 h1.2.2.2.2
            subst e
            obtain ⟨cell, k1, k2, k3, k4, k5, k6, k7⟩ := (h4.1 1 (by decide)).2.2.2
            exact ⟨.int (e_sgn.getD z.toInt.toNat 0) :: rest, ⟨⟨_, rfl, rfl⟩, h3.2.2⟩, fun k => W.bald (v := .int (e_sgn.getD z.toInt.toNat 0)) C.1.1 C.1.2.1 k1 k2 k3 (e_inr (N := 13) g0 g1 k4) (k6 z.toInt.toNat (show z.toInt.toNat < 13 by omega)) rfl rfl d k⟩
          · cases hg
    · cases hg)
theorem er_sn (d : decode cc pc = .ok (.iaload, 1)) : e_Snd ft cl lay cc own nL nm MC MS pc (e_S (g_sn (pc + 1))) :=
  e_T_ok (by
    intro ad ce sl p l e R s m args below meth c A H locs Q ls st stk q C hO hg h3
    unfold g_sn at hg
    split at hg
    · rename_i i j r
      obtain ⟨aK, aS, aN, bK, bS, h1, h2, h4, h5, h6, -⟩ := hO
      match stk, h3 with
      | v1 :: v :: rest, h3 =>
        obtain ⟨z, rfl, rfl⟩ := e_int h3.1
        split at hg
        · rename_i hj
          cases hg
          obtain ⟨rfl, g0, g1⟩ := hj
          have e := e_refE h3.2.1 h1.2.2.1
          subst e
          obtain ⟨cell, k1, k2, k3, k4, k5, k6, k7⟩ := h6
          exact ⟨.int (e_sin.getD z.toInt.toNat 0) :: rest, ⟨⟨_, rfl, rfl⟩, h3.2.2⟩, fun k => W.iald (v := .int (e_sin.getD z.toInt.toNat 0)) C.1.1 C.1.2.1 k1 k2 k3 (e_inr (N := 1025) g0 g1 k4) (k6 z.toInt.toNat (show z.toInt.toNat < 1025 by omega)) rfl rfl d k⟩
        · cases hg
    · cases hg)
theorem er_ml {ix : Nat} (hl : Cond.methodLink own ix Lib.MathLoose.min_long.x ∈ x_tbl) (hst : Cond.static Lib.MathLoose.min_long.x ∈ x_tbl) (hi : Cond.initialized "java/lang/Math" ∈ x_tbl) (hc : Cond.code Lib.MathLoose.min_long.x Lib.MathLoose.min_long.code 4 (some .long) ∈ x_tbl) (d : decode cc pc = .ok (.invokestatic ix, 3)) : e_Snd ft cl lay cc own nL nm MC MS pc (e_S (g_ml (pc + 3))) := by
  intro ad ce sl p l e R s m args below meth c D A H0 Q C hce hsl hA t t' hpc hf hg
  unfold e_S g_ml at hf
  split at hf
  · rename_i y x r hst'
    cases hb : Nat.ble (e_cats r) 8 with
    | false => rw [hb] at hf; cases hf
    | true =>
      rw [hb] at hf
      cases hf
      have b1 := Nat.le_of_ble_eq_true hb
      subst hpc
      intro ls stk H locs ⟨lv, ws, tys, h1, h2, h3, h4⟩
      rw [hst'] at h3
      match stk, h3 with
      | v1 :: v2 :: rest, h3 =>
        obtain ⟨ny, rfl, rfl⟩ := e_long h3.1
        obtain ⟨nx', rfl, rfl⟩ := e_long h3.2.1
        have hcat := (e_cats_ok h3.2.2).1
        have hts := C.1.2.2.2.2
        refine va_mmin_long C.1.1 C.1.2.1 (by rw [C.1.2.2.1, h1.1]) C.1.2.2.2.1 (hts _ hl) (hts _ hst) (hts _ hi) (hts _ hc) C.2.2.2.2.1 (by have := C.2.2.2.2.2.1; omega) (by rw [C.2.2.1]; exact hce) (by rw [C.2.2.2.1]; exact hsl) d (hg ls (.long (if ny < nx' then ny else nx') :: rest) H locs ⟨lv, ws, tys, h1, h2, ⟨⟨_, rfl, ?_⟩, h3.2.2⟩, h4⟩)
        show _ = (if nx'.toInt ≤ ny.toInt then nx'.toInt else ny.toInt)
        by_cases hlt : ny < nx'
        · rw [if_pos hlt, if_neg (by have := Int64.lt_iff_toInt_lt.mp hlt; omega)]
        · rw [if_neg hlt, if_pos (by have : ¬ ny.toInt < nx'.toInt := fun q => hlt (Int64.lt_iff_toInt_lt.mpr q); omega)]
  · cases hf
theorem nx_S {g : List eV → Option (Nat × List eV)} (hg : ∀ st q, g st = some q → ∀ x ∈ q.2, x ∈ st ∨ x.1 ≠ 1 ∨ (357 ≤ x.2 ∧ x.2 ≤ 400)) : e_NI lay (e_S g) ∧ e_IN ft lay (e_S g) := ⟨ni_S, e_IN.stk g (fun _ => rfl) hg⟩
/-- one value comes, k go -/
theorem bS_one {x : eV} {st r : List eV} (hx : x.1 ≠ 1 ∨ (357 ≤ x.2 ∧ x.2 ≤ 400)) (hr : ∀ y ∈ r, y ∈ st) : ∀ y ∈ x :: r, y ∈ st ∨ y.1 ≠ 1 ∨ (357 ≤ y.2 ∧ y.2 ≤ 400) := fun y hy => by
  rcases List.mem_cons.mp hy with rfl | hy
  · exact Or.inr hx
  · exact Or.inl (hr y hy)
theorem bS_cod {nx : Nat} : ∀ st q, g_cod nx st = some q → ∀ x ∈ q.2, x ∈ st ∨ x.1 ≠ 1 ∨ (357 ≤ x.2 ∧ x.2 ≤ 400) := fun st q h => by
  unfold g_cod at h
  split at h
  · split at h
    · cases h; exact bS_one (Or.inl (show (0 : Nat) ≠ 1 by decide)) (fun y hy => List.mem_cons_of_mem _ hy)
    · cases h
  · cases h
theorem bS_val {nx : Nat} : ∀ st q, g_val nx st = some q → ∀ x ∈ q.2, x ∈ st ∨ x.1 ≠ 1 ∨ (357 ≤ x.2 ∧ x.2 ≤ 400) := fun st q h => by
  unfold g_val at h
  split at h
  · split at h
    · cases h; exact bS_one (Or.inr ⟨(show (357 : Int) ≤ 360 by decide), (show (360 : Int) ≤ 400 by decide)⟩) (fun y hy => List.mem_cons_of_mem _ hy)
    · split at h
      · cases h; exact bS_one (Or.inr ⟨(show (357 : Int) ≤ 361 by decide), (show (361 : Int) ≤ 400 by decide)⟩) (fun y hy => List.mem_cons_of_mem _ hy)
      · cases h
  · cases h
theorem bS_tln {nx : Nat} : ∀ st q, g_tln nx st = some q → ∀ x ∈ q.2, x ∈ st ∨ x.1 ≠ 1 ∨ (357 ≤ x.2 ∧ x.2 ≤ 400) := fun st q h => by
  unfold g_tln at h
  split at h
  · split at h
    · cases h; exact bS_one (Or.inl (show (0 : Nat) ≠ 1 by decide)) (fun y hy => List.mem_cons_of_mem _ hy)
    · split at h
      · cases h; exact bS_one (Or.inl (show (0 : Nat) ≠ 1 by decide)) (fun y hy => List.mem_cons_of_mem _ hy)
      · cases h
  · cases h
theorem bS_tld {nx : Nat} : ∀ st q, g_tld nx st = some q → ∀ x ∈ q.2, x ∈ st ∨ x.1 ≠ 1 ∨ (357 ≤ x.2 ∧ x.2 ≤ 400) := fun st q h => by
  unfold g_tld at h
  split at h
  · split at h
    · cases h; exact bS_one (Or.inl (show (0 : Nat) ≠ 1 by decide)) (fun y hy => List.mem_cons_of_mem _ (List.mem_cons_of_mem _ hy))
    · split at h
      · cases h; exact bS_one (Or.inl (show (0 : Nat) ≠ 1 by decide)) (fun y hy => List.mem_cons_of_mem _ (List.mem_cons_of_mem _ hy))
      · cases h
  · cases h
theorem bS_sn {nx : Nat} : ∀ st q, g_sn nx st = some q → ∀ x ∈ q.2, x ∈ st ∨ x.1 ≠ 1 ∨ (357 ≤ x.2 ∧ x.2 ≤ 400) := fun st q h => by
  unfold g_sn at h
  split at h
  · split at h
    · cases h; exact bS_one (Or.inl (show (0 : Nat) ≠ 1 by decide)) (fun y hy => List.mem_cons_of_mem _ (List.mem_cons_of_mem _ hy))
    · cases h
  · cases h
theorem bS_sl {nx : Nat} : ∀ st q, g_sl nx st = some q → ∀ x ∈ q.2, x ∈ st ∨ x.1 ≠ 1 ∨ (357 ≤ x.2 ∧ x.2 ≤ 400) := fun st q h => by
  unfold g_sl at h
  split at h
  · rename_i r
    cases hb : Nat.ble (e_cats r) 8 with
    | false => rw [hb] at h; cases h
    | true =>
      rw [hb] at h
      simp only [cond_true, Option.map_eq_some_iff] at h
      obtain ⟨n, -, rfl⟩ := h
      exact bS_one (Or.inl (show (0 : Nat) ≠ 1 by decide)) (fun y hy => List.mem_cons_of_mem _ hy)
  · cases h
theorem bS_sc {nx : Nat} : ∀ st q, g_sc nx st = some q → ∀ x ∈ q.2, x ∈ st ∨ x.1 ≠ 1 ∨ (357 ≤ x.2 ∧ x.2 ≤ 400) := fun st q h => by
  unfold g_sc at h
  split at h
  · rename_i r
    cases hb : Nat.ble (e_cats r) 8 with
    | false => rw [hb] at h; cases h
    | true =>
      rw [hb] at h
      simp only [cond_true, Option.map_eq_some_iff] at h
      obtain ⟨n, -, rfl⟩ := h
      exact bS_one (Or.inl (show (0 : Nat) ≠ 1 by decide)) (fun y hy => List.mem_cons_of_mem _ (List.mem_cons_of_mem _ hy))
  · cases h
theorem bS_ix {nx : Nat} : ∀ st q, g_ix nx st = some q → ∀ x ∈ q.2, x ∈ st ∨ x.1 ≠ 1 ∨ (357 ≤ x.2 ∧ x.2 ≤ 400) := fun st q h => by
  unfold g_ix at h
  split at h
  · rename_i r
    cases hb : Nat.ble (e_cats r) 8 with
    | false => rw [hb] at h; cases h
    | true =>
      rw [hb] at h
      simp only [cond_true, Option.map_eq_some_iff] at h
      obtain ⟨n, -, rfl⟩ := h
      exact bS_one (Or.inl (show (0 : Nat) ≠ 1 by decide)) (fun y hy => List.mem_cons_of_mem _ (List.mem_cons_of_mem _ hy))
  · cases h
theorem bS_ml {nx : Nat} : ∀ st q, g_ml nx st = some q → ∀ x ∈ q.2, x ∈ st ∨ x.1 ≠ 1 ∨ (357 ≤ x.2 ∧ x.2 ≤ 400) := fun st q h => by
  unfold g_ml at h
  split at h
  · rename_i r
    cases hb : Nat.ble (e_cats r) 8 with
    | false => rw [hb] at h; cases h
    | true =>
      rw [hb] at h
      cases h
      exact bS_one (Or.inl (show (4 : Nat) ≠ 1 by decide)) (fun y hy => List.mem_cons_of_mem _ (List.mem_cons_of_mem _ hy))
  · cases h
end ETX
end
end
-- part 49h
section
noncomputable section
/-! the JDK's own methods of a text: their table -/
def n_500 : xM := (⟨"java/lang/String", "coder", "()B"⟩, prog_17_method_152_code, 1, (some .byte), 0, 0, 998)
def n_501 : xM := (⟨"java/lang/String", "length", "()I"⟩, prog_17_method_54_code, 1, (some .int), 0, 0, 998)
def n_502 : xM := (⟨"java/lang/String", "isLatin1", "()Z"⟩, prog_17_method_154_code, 1, (some .boolean), 0, 0, 998)
def n_503 : xM := (⟨"java/lang/String", "checkIndex", "(II)V"⟩, prog_17_method_155_code, 2, none, 0, 0, 999)
def n_504 : xM := (⟨"jdk/internal/util/Preconditions", "checkIndex", "(IILjava/util/function/BiFunction;)I"⟩, prog_21_method_11_code, 3, (some .int), 0, 0, 999)
def n_505 : xM := (⟨"java/lang/StringLatin1", "charAt", "([BI)C"⟩, prog_18_method_2_code, 2, (some .char), 0, 0, 999)
def n_506 : xM := (⟨"java/lang/String", "charAt", "(I)C"⟩, prog_17_method_56_code, 2, (some .char), 0, 0, 998)
def n_507 : xM := (⟨"java/lang/StringLatin1", "canEncode", "(I)Z"⟩, prog_18_method_4_code, 1, (some .boolean), 0, 0, 999)
def n_508 : xM := (⟨"java/lang/StringLatin1", "indexOfChar", "([BIII)I"⟩, prog_18_method_23_code, 6, (some .int), 0, 0, 999)
def n_509 : xM := (⟨"java/lang/StringLatin1", "indexOf", "([BIII)I"⟩, prog_18_method_22_code, 4, (some .int), 0, 0, 999)
def n_510 : xM := (⟨"java/lang/String", "indexOf", "(II)I"⟩, prog_17_method_80_code, 3, (some .int), 0, 0, 998)
def n_511 : xM := (⟨"java/lang/String", "indexOf", "(I)I"⟩, prog_17_method_79_code, 2, (some .int), 0, 0, 998)
def I3 (M : Nat) : xM := bif Nat.beq M 500 then n_500 else bif Nat.beq M 501 then n_501 else bif Nat.beq M 502 then n_502 else bif Nat.beq M 503 then n_503 else bif Nat.beq M 504 then n_504 else bif Nat.beq M 505 then n_505 else bif Nat.beq M 506 then n_506 else bif Nat.beq M 507 then n_507 else bif Nat.beq M 508 then n_508 else bif Nat.beq M 509 then n_509 else bif Nat.beq M 510 then n_510 else bif Nat.beq M 511 then n_511 else eI M
def dn_500_0 : List (Nat × Instr × Nat) := [(0, .getstatic 38, 3), (3, .ifCond .eq 10, 3), (6, .aload_n 0, 1), (7, .getfield 15, 3), (10, .goto 4, 3), (13, .iconst 1, 1), (14, .ireturn, 1)]
set_option maxRecDepth 20000 in
theorem dn_500_0_ok : dn_500_0.all (fun q => decide (decode prog_17_method_152_code q.1 = .ok (q.2.1, q.2.2))) = true := by decide +kernel
def te_500 : Nat → eE := (e_T 6 (e_T 0 (e_L 0 (0, ei_push (0, 1) 3, 0, 0)) (e_T 3 (e_L 3 (0, ei_if1 0 13 6, 0, 0)) (e_L 6 (0, ei_load 0 2 7, 0, 0)))) (e_T 7 (e_L 7 (0, e_S (g_cod 10), 0, 0)) (e_T 10 (e_L 10 (0, ei_goto 14, 0, 0)) (e_L 14 (1, e_nof, 5, 0)))))
set_option maxRecDepth 20000 in
set_option maxHeartbeats 4000000 in
theorem te_500_ok : ∀ pc, e_EOq eft cls elay I3 n_500 pc (te_500 pc) :=
  (e_Tok2
  (e_Tok2
  (e_Lok (e_st (I := I3) (er_comp (ix := 38) (in_t5 (List.mem_of_getElem? (i := 123) rfl) rfl) (x_dk dn_500_0_ok 0 rfl)) (nx_push (Or.inl rfl))))
  (e_Tok2
  (e_Lok (e_st (I := I3) (er_ifeq (off := 10) (tg := 13) (x_dk dn_500_0_ok 1 rfl) (by decide)) nx_if1))
  (e_Lok (e_st (I := I3) (er_aload_n (i := 0) (x_dk dn_500_0_ok 2 rfl)) nx_load))))
  (e_Tok2
  (e_Lok (e_st (I := I3) (er_tcod (ix := 15) (in_t14 (List.mem_of_getElem? (i := 26) rfl) rfl) (x_dk dn_500_0_ok 3 rfl)) (nx_S bS_cod)))
  (e_Tok2
  (e_Lok (e_st (I := I3) (er_goto (off := 4) (tg := 14) (x_dk dn_500_0_ok 4 rfl) (by decide)) nx_goto))
  (e_Lok (e_rt (I := I3) (k := 5) ⟨(x_dk dn_500_0_ok 6 rfl), Or.inl rfl⟩)))))
def dn_501_0 : List (Nat × Instr × Nat) := [(0, .aload_n 0, 1), (1, .getfield 9, 3), (4, .arraylength, 1), (5, .aload_n 0, 1), (6, .invokevirtual 335, 3), (9, .ishr, 1), (10, .ireturn, 1)]
set_option maxRecDepth 20000 in
theorem dn_501_0_ok : dn_501_0.all (fun q => decide (decode prog_17_method_54_code q.1 = .ok (q.2.1, q.2.2))) = true := by decide +kernel
def te_501 : Nat → eE := (e_T 4 (e_T 0 (e_L 0 (0, ei_load 0 2 1, 0, 0)) (e_T 1 (e_L 1 (0, e_S (g_val 4), 0, 0)) (e_L 4 (0, e_S (g_tln 5), 0, 0)))) (e_T 6 (e_T 5 (e_L 5 (0, ei_load 0 2 6, 0, 0)) (e_L 6 (2, e_nof, 500, 1))) (e_T 9 (e_L 9 (0, ei_bin (eB (fun x y => x >>> (y &&& 31))) 10, 0, 0)) (e_L 10 (1, e_nof, 1, 0)))))
set_option maxRecDepth 20000 in
set_option maxHeartbeats 4000000 in
theorem te_501_ok : ∀ pc, e_EOq eft cls elay I3 n_501 pc (te_501 pc) :=
  (e_Tok2
  (e_Tok2
  (e_Lok (e_st (I := I3) (er_aload_n (i := 0) (x_dk dn_501_0_ok 0 rfl)) nx_load))
  (e_Tok2
  (e_Lok (e_st (I := I3) (er_tval (ix := 9) (in_t14 (List.mem_of_getElem? (i := 25) rfl) rfl) (x_dk dn_501_0_ok 1 rfl)) (nx_S bS_val)))
  (e_Lok (e_st (I := I3) (er_tln (x_dk dn_501_0_ok 2 rfl)) (nx_S bS_tln)))))
  (e_Tok2
  (e_Tok2
  (e_Lok (e_st (I := I3) (er_aload_n (i := 0) (x_dk dn_501_0_ok 3 rfl)) nx_load))
  (e_Lok (e_ca (I := I3) (q' := n_500) rfl (xr_callV (q' := n_500) (ix := 335) (n := 0) (in_t5 (List.mem_of_getElem? (i := 122) rfl) rfl) good_w (in_t1 (List.mem_of_getElem? (i := 16) rfl) rfl) (in_t5 (List.mem_of_getElem? (i := 119) rfl) rfl) (in_t5 (List.mem_of_getElem? (i := 120) rfl) rfl) (in_t5 (List.mem_of_getElem? (i := 121) rfl) rfl) (by decide +kernel) (by decide +kernel) (by decide +kernel) (x_dk dn_501_0_ok 4 rfl)))))
  (e_Tok2
  (e_Lok (e_st (I := I3) (er_ishr (x_dk dn_501_0_ok 5 rfl)) nx_bin))
  (e_Lok (e_rt (I := I3) (k := 1) ⟨(x_dk dn_501_0_ok 6 rfl), rfl⟩)))))
def dn_502_0 : List (Nat × Instr × Nat) := [(0, .getstatic 38, 3), (3, .ifCond .eq 14, 3), (6, .aload_n 0, 1), (7, .getfield 15, 3), (10, .ifCond .ne 7, 3), (13, .iconst 1, 1), (14, .goto 4, 3), (17, .iconst 0, 1), (18, .ireturn, 1)]
set_option maxRecDepth 20000 in
theorem dn_502_0_ok : dn_502_0.all (fun q => decide (decode prog_17_method_154_code q.1 = .ok (q.2.1, q.2.2))) = true := by decide +kernel
def te_502 : Nat → eE := (e_T 7 (e_T 3 (e_T 0 (e_L 0 (0, ei_push (0, 1) 3, 0, 0)) (e_L 3 (0, ei_if1 0 17 6, 0, 0))) (e_T 6 (e_L 6 (0, ei_load 0 2 7, 0, 0)) (e_L 7 (0, e_S (g_cod 10), 0, 0)))) (e_T 13 (e_T 10 (e_L 10 (0, ei_if1 1 17 13, 0, 0)) (e_L 13 (0, ei_push (0, 1) 14, 0, 0))) (e_T 14 (e_L 14 (0, ei_goto 18, 0, 0)) (e_T 17 (e_L 17 (0, ei_push (0, 0) 18, 0, 0)) (e_L 18 (1, e_nof, 4, 0))))))
set_option maxRecDepth 20000 in
set_option maxHeartbeats 4000000 in
theorem te_502_ok : ∀ pc, e_EOq eft cls elay I3 n_502 pc (te_502 pc) :=
  (e_Tok2
  (e_Tok2
  (e_Tok2
  (e_Lok (e_st (I := I3) (er_comp (ix := 38) (in_t5 (List.mem_of_getElem? (i := 123) rfl) rfl) (x_dk dn_502_0_ok 0 rfl)) (nx_push (Or.inl rfl))))
  (e_Lok (e_st (I := I3) (er_ifeq (off := 14) (tg := 17) (x_dk dn_502_0_ok 1 rfl) (by decide)) nx_if1)))
  (e_Tok2
  (e_Lok (e_st (I := I3) (er_aload_n (i := 0) (x_dk dn_502_0_ok 2 rfl)) nx_load))
  (e_Lok (e_st (I := I3) (er_tcod (ix := 15) (in_t14 (List.mem_of_getElem? (i := 26) rfl) rfl) (x_dk dn_502_0_ok 3 rfl)) (nx_S bS_cod)))))
  (e_Tok2
  (e_Tok2
  (e_Lok (e_st (I := I3) (er_ifne (off := 7) (tg := 17) (x_dk dn_502_0_ok 4 rfl) (by decide)) nx_if1))
  (e_Lok (e_st (I := I3) (er_iconst (n := 1) (z := 1) (v := 1) (x_dk dn_502_0_ok 5 rfl) (by decide) (by decide)) (nx_push (Or.inl rfl)))))
  (e_Tok2
  (e_Lok (e_st (I := I3) (er_goto (off := 4) (tg := 18) (x_dk dn_502_0_ok 6 rfl) (by decide)) nx_goto))
  (e_Tok2
  (e_Lok (e_st (I := I3) (er_iconst (n := 0) (z := 0) (v := 0) (x_dk dn_502_0_ok 7 rfl) (by decide) (by decide)) (nx_push (Or.inl rfl))))
  (e_Lok (e_rt (I := I3) (k := 4) ⟨(x_dk dn_502_0_ok 8 rfl), rfl⟩))))))
def dn_503_0 : List (Nat × Instr × Nat) := [(0, .iload_n 0, 1), (1, .iload_n 1, 1), (2, .getstatic 1053, 3), (5, .invokestatic 1059, 3), (8, .pop, 1), (9, .return_, 1)]
set_option maxRecDepth 20000 in
theorem dn_503_0_ok : dn_503_0.all (fun q => decide (decode prog_17_method_155_code q.1 = .ok (q.2.1, q.2.2))) = true := by decide +kernel
def te_503 : Nat → eE := (e_T 2 (e_T 0 (e_L 0 (0, ei_load 0 0 1, 0, 0)) (e_T 1 (e_L 1 (0, ei_load 1 0 2, 0, 0)) (e_L 2 (0, ei_push (5, 0) 5, 0, 0)))) (e_T 5 (e_L 5 (2, e_nof, 504, 3)) (e_T 8 (e_L 8 (0, ei_stk ef_pop 9, 0, 0)) (e_L 9 (1, e_nof, 0, 0)))))
set_option maxRecDepth 20000 in
set_option maxHeartbeats 4000000 in
theorem te_503_ok : ∀ pc, e_EOq eft cls elay I3 n_503 pc (te_503 pc) :=
  (e_Tok2
  (e_Tok2
  (e_Lok (e_st (I := I3) (er_iload_n (i := 0) (x_dk dn_503_0_ok 0 rfl)) nx_load))
  (e_Tok2
  (e_Lok (e_st (I := I3) (er_iload_n (i := 1) (x_dk dn_503_0_ok 1 rfl)) nx_load))
  (e_Lok (e_st (I := I3) (er_sio (ix := 1053) (in_t5 (List.mem_of_getElem? (i := 139) rfl) rfl) (x_dk dn_503_0_ok 2 rfl)) (nx_push (Or.inl rfl))))))
  (e_Tok2
  (e_Lok (e_ca (I := I3) (q' := n_504) rfl (xr_callS (q' := n_504) (ix := 1059) (n := 3) (in_t5 (List.mem_of_getElem? (i := 143) rfl) rfl) good_w (in_t1 (List.mem_of_getElem? (i := 18) rfl) rfl) (in_t5 (List.mem_of_getElem? (i := 141) rfl) rfl) (in_t5 (List.mem_of_getElem? (i := 142) rfl) rfl) (by decide +kernel) (by decide +kernel) (x_dk dn_503_0_ok 3 rfl))))
  (e_Tok2
  (e_Lok (e_st (I := I3) (er_pop (x_dk dn_503_0_ok 4 rfl)) (nx_stk bf_pop)))
  (e_Lok (e_rt (I := I3) (k := 0) ⟨(x_dk dn_503_0_ok 5 rfl), rfl⟩)))))
def dn_504_0 : List (Nat × Instr × Nat) := [(0, .iload_n 0, 1), (1, .ifCond .lt 8, 3), (4, .iload_n 0, 1), (5, .iload_n 1, 1), (6, .if_icmp .lt 10, 3), (9, .aload_n 2, 1), (10, .iload_n 0, 1), (11, .iload_n 1, 1), (12, .invokestatic 95, 3), (15, .athrow, 1), (16, .iload_n 0, 1), (17, .ireturn, 1)]
set_option maxRecDepth 20000 in
theorem dn_504_0_ok : dn_504_0.all (fun q => decide (decode prog_21_method_11_code q.1 = .ok (q.2.1, q.2.2))) = true := by decide +kernel
def te_504 : Nat → eE := (e_T 4 (e_T 0 (e_L 0 (0, ei_load 0 0 1, 0, 0)) (e_T 1 (e_L 1 (0, ei_if1 2 9 4, 0, 0)) (e_L 4 (0, ei_load 0 0 5, 0, 0)))) (e_T 6 (e_T 5 (e_L 5 (0, ei_load 1 0 6, 0, 0)) (e_L 6 (0, ei_if2 2 16 9, 0, 0))) (e_T 16 (e_L 16 (0, ei_load 0 0 17, 0, 0)) (e_L 17 (1, e_nof, 1, 0)))))
set_option maxRecDepth 20000 in
set_option maxHeartbeats 4000000 in
theorem te_504_ok : ∀ pc, e_EOq eft cls elay I3 n_504 pc (te_504 pc) :=
  (e_Tok2
  (e_Tok2
  (e_Lok (e_st (I := I3) (er_iload_n (i := 0) (x_dk dn_504_0_ok 0 rfl)) nx_load))
  (e_Tok2
  (e_Lok (e_st (I := I3) (er_iflt (off := 8) (tg := 9) (x_dk dn_504_0_ok 1 rfl) (by decide)) nx_if1))
  (e_Lok (e_st (I := I3) (er_iload_n (i := 0) (x_dk dn_504_0_ok 2 rfl)) nx_load))))
  (e_Tok2
  (e_Tok2
  (e_Lok (e_st (I := I3) (er_iload_n (i := 1) (x_dk dn_504_0_ok 3 rfl)) nx_load))
  (e_Lok (e_st (I := I3) (er_icmplt (off := 10) (tg := 16) (x_dk dn_504_0_ok 4 rfl) (by decide)) nx_if2)))
  (e_Tok2
  (e_Lok (e_st (I := I3) (er_iload_n (i := 0) (x_dk dn_504_0_ok 10 rfl)) nx_load))
  (e_Lok (e_rt (I := I3) (k := 1) ⟨(x_dk dn_504_0_ok 11 rfl), rfl⟩)))))
def dn_505_0 : List (Nat × Instr × Nat) := [(0, .iload_n 1, 1), (1, .aload_n 0, 1), (2, .arraylength, 1), (3, .invokestatic 9, 3), (6, .aload_n 0, 1), (7, .iload_n 1, 1), (8, .baload, 1), (9, .sipush 255, 3), (12, .iand, 1), (13, .i2c, 1), (14, .ireturn, 1)]
set_option maxRecDepth 20000 in
theorem dn_505_0_ok : dn_505_0.all (fun q => decide (decode prog_18_method_2_code q.1 = .ok (q.2.1, q.2.2))) = true := by decide +kernel
def te_505 : Nat → eE := (e_T 6 (e_T 1 (e_T 0 (e_L 0 (0, ei_load 1 0 1, 0, 0)) (e_L 1 (0, ei_load 0 2 2, 0, 0))) (e_T 2 (e_L 2 (0, e_S (g_tln 3), 0, 0)) (e_T 3 (e_L 3 (2, e_nof, 503, 2)) (e_L 6 (0, ei_load 0 2 7, 0, 0))))) (e_T 9 (e_T 7 (e_L 7 (0, ei_load 1 0 8, 0, 0)) (e_T 8 (e_L 8 (0, e_S (g_tld 9), 0, 0)) (e_L 9 (0, ei_push (0, 255) 12, 0, 0)))) (e_T 12 (e_L 12 (0, ei_bin (eB (fun x y => x &&& y)) 13, 0, 0)) (e_T 13 (e_L 13 (0, ei_un (fun x => (0, ((Int32.ofInt x).toUInt32 % 65536).toInt32.toInt)) 14, 0, 0)) (e_L 14 (1, e_nof, 5, 0))))))
set_option maxRecDepth 20000 in
set_option maxHeartbeats 4000000 in
theorem te_505_ok : ∀ pc, e_EOq eft cls elay I3 n_505 pc (te_505 pc) :=
  (e_Tok2
  (e_Tok2
  (e_Tok2
  (e_Lok (e_st (I := I3) (er_iload_n (i := 1) (x_dk dn_505_0_ok 0 rfl)) nx_load))
  (e_Lok (e_st (I := I3) (er_aload_n (i := 0) (x_dk dn_505_0_ok 1 rfl)) nx_load)))
  (e_Tok2
  (e_Lok (e_st (I := I3) (er_tln (x_dk dn_505_0_ok 2 rfl)) (nx_S bS_tln)))
  (e_Tok2
  (e_Lok (e_ca (I := I3) (q' := n_503) rfl (xr_callS (q' := n_503) (ix := 9) (n := 2) (in_t5 (List.mem_of_getElem? (i := 138) rfl) rfl) good_w (in_t1 (List.mem_of_getElem? (i := 16) rfl) rfl) (in_t5 (List.mem_of_getElem? (i := 136) rfl) rfl) (in_t5 (List.mem_of_getElem? (i := 137) rfl) rfl) (by decide +kernel) (by decide +kernel) (x_dk dn_505_0_ok 3 rfl))))
  (e_Lok (e_st (I := I3) (er_aload_n (i := 0) (x_dk dn_505_0_ok 4 rfl)) nx_load)))))
  (e_Tok2
  (e_Tok2
  (e_Lok (e_st (I := I3) (er_iload_n (i := 1) (x_dk dn_505_0_ok 5 rfl)) nx_load))
  (e_Tok2
  (e_Lok (e_st (I := I3) (er_tld (x_dk dn_505_0_ok 6 rfl)) (nx_S bS_tld)))
  (e_Lok (e_st (I := I3) (er_sipush (n := 255) (z := 255) (v := 255) (x_dk dn_505_0_ok 7 rfl) (by decide) (by decide)) (nx_push (Or.inl rfl))))))
  (e_Tok2
  (e_Lok (e_st (I := I3) (er_iand (x_dk dn_505_0_ok 8 rfl)) nx_bin))
  (e_Tok2
  (e_Lok (e_st (I := I3) (er_i2c (x_dk dn_505_0_ok 9 rfl)) (nx_un (fun _ => rfl))))
  (e_Lok (e_rt (I := I3) (k := 5) ⟨(x_dk dn_505_0_ok 10 rfl), Or.inr rfl⟩))))))
def dn_506_0 : List (Nat × Instr × Nat) := [(0, .aload_n 0, 1), (1, .invokevirtual 492, 3), (4, .ifCond .eq 12, 3), (7, .aload_n 0, 1), (8, .getfield 9, 3), (11, .iload_n 1, 1), (12, .invokestatic 495, 3), (15, .ireturn, 1), (16, .aload_n 0, 1), (17, .getfield 9, 3), (20, .iload_n 1, 1), (21, .invokestatic 498, 3), (24, .ireturn, 1)]
set_option maxRecDepth 20000 in
theorem dn_506_0_ok : dn_506_0.all (fun q => decide (decode prog_17_method_56_code q.1 = .ok (q.2.1, q.2.2))) = true := by decide +kernel
def te_506 : Nat → eE := (e_T 7 (e_T 1 (e_T 0 (e_L 0 (0, ei_load 0 2 1, 0, 0)) (e_L 1 (2, e_nof, 502, 1))) (e_T 4 (e_L 4 (0, ei_if1 0 16 7, 0, 0)) (e_L 7 (0, ei_load 0 2 8, 0, 0)))) (e_T 11 (e_T 8 (e_L 8 (0, e_S (g_val 11), 0, 0)) (e_L 11 (0, ei_load 1 0 12, 0, 0))) (e_T 12 (e_L 12 (2, e_nof, 505, 2)) (e_L 15 (1, e_nof, 5, 0)))))
set_option maxRecDepth 20000 in
set_option maxHeartbeats 4000000 in
theorem te_506_ok : ∀ pc, e_EOq eft cls elay I3 n_506 pc (te_506 pc) :=
  (e_Tok2
  (e_Tok2
  (e_Tok2
  (e_Lok (e_st (I := I3) (er_aload_n (i := 0) (x_dk dn_506_0_ok 0 rfl)) nx_load))
  (e_Lok (e_ca (I := I3) (q' := n_502) rfl (xr_callV (q' := n_502) (ix := 492) (n := 0) (in_t5 (List.mem_of_getElem? (i := 132) rfl) rfl) good_w (in_t1 (List.mem_of_getElem? (i := 16) rfl) rfl) (in_t5 (List.mem_of_getElem? (i := 129) rfl) rfl) (in_t5 (List.mem_of_getElem? (i := 130) rfl) rfl) (in_t5 (List.mem_of_getElem? (i := 131) rfl) rfl) (by decide +kernel) (by decide +kernel) (by decide +kernel) (x_dk dn_506_0_ok 1 rfl)))))
  (e_Tok2
  (e_Lok (e_st (I := I3) (er_ifeq (off := 12) (tg := 16) (x_dk dn_506_0_ok 2 rfl) (by decide)) nx_if1))
  (e_Lok (e_st (I := I3) (er_aload_n (i := 0) (x_dk dn_506_0_ok 3 rfl)) nx_load))))
  (e_Tok2
  (e_Tok2
  (e_Lok (e_st (I := I3) (er_tval (ix := 9) (in_t14 (List.mem_of_getElem? (i := 25) rfl) rfl) (x_dk dn_506_0_ok 4 rfl)) (nx_S bS_val)))
  (e_Lok (e_st (I := I3) (er_iload_n (i := 1) (x_dk dn_506_0_ok 5 rfl)) nx_load)))
  (e_Tok2
  (e_Lok (e_ca (I := I3) (q' := n_505) rfl (xr_callS (q' := n_505) (ix := 495) (n := 2) (in_t5 (List.mem_of_getElem? (i := 135) rfl) rfl) good_w (in_t1 (List.mem_of_getElem? (i := 17) rfl) rfl) (in_t5 (List.mem_of_getElem? (i := 133) rfl) rfl) (in_t5 (List.mem_of_getElem? (i := 134) rfl) rfl) (by decide +kernel) (by decide +kernel) (x_dk dn_506_0_ok 6 rfl))))
  (e_Lok (e_rt (I := I3) (k := 5) ⟨(x_dk dn_506_0_ok 7 rfl), Or.inr rfl⟩)))))
def dn_507_0 : List (Nat × Instr × Nat) := [(0, .iload_n 0, 1), (1, .ifCond .lt 14, 3), (4, .iload_n 0, 1), (5, .sipush 255, 3), (8, .if_icmp .gt 7, 3), (11, .iconst 1, 1), (12, .goto 4, 3), (15, .iconst 0, 1), (16, .ireturn, 1)]
set_option maxRecDepth 20000 in
theorem dn_507_0_ok : dn_507_0.all (fun q => decide (decode prog_18_method_4_code q.1 = .ok (q.2.1, q.2.2))) = true := by decide +kernel
def te_507 : Nat → eE := (e_T 5 (e_T 1 (e_T 0 (e_L 0 (0, ei_load 0 0 1, 0, 0)) (e_L 1 (0, ei_if1 2 15 4, 0, 0))) (e_T 4 (e_L 4 (0, ei_load 0 0 5, 0, 0)) (e_L 5 (0, ei_push (0, 255) 8, 0, 0)))) (e_T 11 (e_T 8 (e_L 8 (0, ei_if2 4 15 11, 0, 0)) (e_L 11 (0, ei_push (0, 1) 12, 0, 0))) (e_T 12 (e_L 12 (0, ei_goto 16, 0, 0)) (e_T 15 (e_L 15 (0, ei_push (0, 0) 16, 0, 0)) (e_L 16 (1, e_nof, 4, 0))))))
set_option maxRecDepth 20000 in
set_option maxHeartbeats 4000000 in
theorem te_507_ok : ∀ pc, e_EOq eft cls elay I3 n_507 pc (te_507 pc) :=
  (e_Tok2
  (e_Tok2
  (e_Tok2
  (e_Lok (e_st (I := I3) (er_iload_n (i := 0) (x_dk dn_507_0_ok 0 rfl)) nx_load))
  (e_Lok (e_st (I := I3) (er_iflt (off := 14) (tg := 15) (x_dk dn_507_0_ok 1 rfl) (by decide)) nx_if1)))
  (e_Tok2
  (e_Lok (e_st (I := I3) (er_iload_n (i := 0) (x_dk dn_507_0_ok 2 rfl)) nx_load))
  (e_Lok (e_st (I := I3) (er_sipush (n := 255) (z := 255) (v := 255) (x_dk dn_507_0_ok 3 rfl) (by decide) (by decide)) (nx_push (Or.inl rfl))))))
  (e_Tok2
  (e_Tok2
  (e_Lok (e_st (I := I3) (er_icmpgt (off := 7) (tg := 15) (x_dk dn_507_0_ok 4 rfl) (by decide)) nx_if2))
  (e_Lok (e_st (I := I3) (er_iconst (n := 1) (z := 1) (v := 1) (x_dk dn_507_0_ok 5 rfl) (by decide) (by decide)) (nx_push (Or.inl rfl)))))
  (e_Tok2
  (e_Lok (e_st (I := I3) (er_goto (off := 4) (tg := 16) (x_dk dn_507_0_ok 6 rfl) (by decide)) nx_goto))
  (e_Tok2
  (e_Lok (e_st (I := I3) (er_iconst (n := 0) (z := 0) (v := 0) (x_dk dn_507_0_ok 7 rfl) (by decide) (by decide)) (nx_push (Or.inl rfl))))
  (e_Lok (e_rt (I := I3) (k := 4) ⟨(x_dk dn_507_0_ok 8 rfl), rfl⟩))))))
def dn_508_0 : List (Nat × Instr × Nat) := [(0, .iload_n 1, 1), (1, .i2b, 1), (2, .istore 4, 2), (4, .iload_n 2, 1), (5, .istore 5, 2), (7, .iload 5, 2), (9, .iload_n 3, 1), (10, .if_icmp .ge 21, 3), (13, .aload_n 0, 1), (14, .iload 5, 2), (16, .baload, 1), (17, .iload 4, 2), (19, .if_icmp .ne 6, 3), (22, .iload 5, 2), (24, .ireturn, 1), (25, .iinc 5 1, 3), (28, .goto (-21), 3), (31, .iconst (-1), 1), (32, .ireturn, 1)]
set_option maxRecDepth 20000 in
theorem dn_508_0_ok : dn_508_0.all (fun q => decide (decode prog_18_method_23_code q.1 = .ok (q.2.1, q.2.2))) = true := by decide +kernel
def te_508 : Nat → eE := (e_T 13 (e_T 4 (e_T 1 (e_T 0 (e_L 0 (0, ei_load 1 0 1, 0, 0)) (e_L 1 (0, ei_un (fun x => (0, x.bmod 256)) 2, 0, 0))) (e_T 2 (e_L 2 (0, ei_stor 4 0 4, 0, 0)) (e_L 4 (0, ei_load 2 0 5, 0, 0)))) (e_T 7 (e_T 5 (e_L 5 (0, ei_stor 5 0 7, 0, 0)) (e_L 7 (0, ei_load 5 0 9, 0, 0))) (e_T 9 (e_L 9 (0, ei_load 3 0 10, 0, 0)) (e_T 10 (e_L 10 (0, ei_if2 3 31 13, 0, 0)) (e_L 13 (0, ei_load 0 2 14, 0, 0)))))) (e_T 22 (e_T 16 (e_T 14 (e_L 14 (0, ei_load 5 0 16, 0, 0)) (e_L 16 (0, e_S (g_tld 17), 0, 0))) (e_T 17 (e_L 17 (0, ei_load 4 0 19, 0, 0)) (e_T 19 (e_L 19 (0, ei_if2 1 25 22, 0, 0)) (e_L 22 (0, ei_load 5 0 24, 0, 0))))) (e_T 25 (e_T 24 (e_L 24 (1, e_nof, 1, 0)) (e_L 25 (0, ei_inc 5 1 28, 0, 0))) (e_T 28 (e_L 28 (0, ei_goto 7, 0, 0)) (e_T 31 (e_L 31 (0, ei_push (0, (-1)) 32, 0, 0)) (e_L 32 (1, e_nof, 1, 0)))))))
set_option maxRecDepth 20000 in
set_option maxHeartbeats 4000000 in
theorem te_508_ok : ∀ pc, e_EOq eft cls elay I3 n_508 pc (te_508 pc) :=
  (e_Tok2
  (e_Tok2
  (e_Tok2
  (e_Tok2
  (e_Lok (e_st (I := I3) (er_iload_n (i := 1) (x_dk dn_508_0_ok 0 rfl)) nx_load))
  (e_Lok (e_st (I := I3) (er_i2b (x_dk dn_508_0_ok 1 rfl)) (nx_un (fun _ => rfl)))))
  (e_Tok2
  (e_Lok (e_st (I := I3) (er_istore (i := 4) (x_dk dn_508_0_ok 2 rfl) (by decide +kernel)) nx_stor))
  (e_Lok (e_st (I := I3) (er_iload_n (i := 2) (x_dk dn_508_0_ok 3 rfl)) nx_load))))
  (e_Tok2
  (e_Tok2
  (e_Lok (e_st (I := I3) (er_istore (i := 5) (x_dk dn_508_0_ok 4 rfl) (by decide +kernel)) nx_stor))
  (e_Lok (e_st (I := I3) (er_iload (i := 5) (x_dk dn_508_0_ok 5 rfl)) nx_load)))
  (e_Tok2
  (e_Lok (e_st (I := I3) (er_iload_n (i := 3) (x_dk dn_508_0_ok 6 rfl)) nx_load))
  (e_Tok2
  (e_Lok (e_st (I := I3) (er_icmpge (off := 21) (tg := 31) (x_dk dn_508_0_ok 7 rfl) (by decide)) nx_if2))
  (e_Lok (e_st (I := I3) (er_aload_n (i := 0) (x_dk dn_508_0_ok 8 rfl)) nx_load))))))
  (e_Tok2
  (e_Tok2
  (e_Tok2
  (e_Lok (e_st (I := I3) (er_iload (i := 5) (x_dk dn_508_0_ok 9 rfl)) nx_load))
  (e_Lok (e_st (I := I3) (er_tld (x_dk dn_508_0_ok 10 rfl)) (nx_S bS_tld))))
  (e_Tok2
  (e_Lok (e_st (I := I3) (er_iload (i := 4) (x_dk dn_508_0_ok 11 rfl)) nx_load))
  (e_Tok2
  (e_Lok (e_st (I := I3) (er_icmpne (off := 6) (tg := 25) (x_dk dn_508_0_ok 12 rfl) (by decide)) nx_if2))
  (e_Lok (e_st (I := I3) (er_iload (i := 5) (x_dk dn_508_0_ok 13 rfl)) nx_load)))))
  (e_Tok2
  (e_Tok2
  (e_Lok (e_rt (I := I3) (k := 1) ⟨(x_dk dn_508_0_ok 14 rfl), rfl⟩))
  (e_Lok (e_st (I := I3) (er_iinc (i := 5) (n := 1) (x_dk dn_508_0_ok 15 rfl) (by decide +kernel) (by decide)) nx_inc)))
  (e_Tok2
  (e_Lok (e_st (I := I3) (er_goto (off := (-21)) (tg := 7) (x_dk dn_508_0_ok 16 rfl) (by decide)) nx_goto))
  (e_Tok2
  (e_Lok (e_st (I := I3) (er_iconst (n := (-1)) (z := (-1)) (v := (-1)) (x_dk dn_508_0_ok 17 rfl) (by decide) (by decide)) (nx_push (Or.inl rfl))))
  (e_Lok (e_rt (I := I3) (k := 1) ⟨(x_dk dn_508_0_ok 18 rfl), rfl⟩)))))))
def dn_509_0 : List (Nat × Instr × Nat) := [(0, .iload_n 1, 1), (1, .invokestatic 88, 3), (4, .ifCond .ne 5, 3), (7, .iconst (-1), 1), (8, .ireturn, 1), (9, .iload_n 2, 1), (10, .iconst 0, 1), (11, .invokestatic 92, 3), (14, .istore_n 2, 1), (15, .iload_n 3, 1), (16, .aload_n 0, 1), (17, .arraylength, 1), (18, .invokestatic 38, 3), (21, .istore_n 3, 1), (22, .iload_n 2, 1), (23, .iload_n 3, 1), (24, .if_icmp .lt 5, 3), (27, .iconst (-1), 1), (28, .ireturn, 1), (29, .aload_n 0, 1), (30, .iload_n 1, 1), (31, .iload_n 2, 1), (32, .iload_n 3, 1), (33, .invokestatic 95, 3), (36, .ireturn, 1)]
set_option maxRecDepth 20000 in
theorem dn_509_0_ok : dn_509_0.all (fun q => decide (decode prog_18_method_22_code q.1 = .ok (q.2.1, q.2.2))) = true := by decide +kernel
def te_509 : Nat → eE := (e_T 17 (e_T 9 (e_T 4 (e_T 0 (e_L 0 (0, ei_load 1 0 1, 0, 0)) (e_T 1 (e_L 1 (2, e_nof, 507, 1)) (e_L 4 (0, ei_if1 1 9 7, 0, 0)))) (e_T 7 (e_L 7 (0, ei_push (0, (-1)) 8, 0, 0)) (e_T 8 (e_L 8 (1, e_nof, 1, 0)) (e_L 9 (0, ei_load 2 0 10, 0, 0))))) (e_T 14 (e_T 10 (e_L 10 (0, ei_push (0, 0) 11, 0, 0)) (e_T 11 (e_L 11 (0, ei_m2 eM_max 14, 0, 0)) (e_L 14 (0, ei_stor 2 0 15, 0, 0)))) (e_T 15 (e_L 15 (0, ei_load 3 0 16, 0, 0)) (e_T 16 (e_L 16 (0, ei_load 0 2 17, 0, 0)) (e_L 17 (0, e_S (g_tln 18), 0, 0)))))) (e_T 27 (e_T 22 (e_T 18 (e_L 18 (0, ei_m2 eM_min 21, 0, 0)) (e_T 21 (e_L 21 (0, ei_stor 3 0 22, 0, 0)) (e_L 22 (0, ei_load 2 0 23, 0, 0)))) (e_T 23 (e_L 23 (0, ei_load 3 0 24, 0, 0)) (e_T 24 (e_L 24 (0, ei_if2 2 29 27, 0, 0)) (e_L 27 (0, ei_push (0, (-1)) 28, 0, 0))))) (e_T 30 (e_T 28 (e_L 28 (1, e_nof, 1, 0)) (e_T 29 (e_L 29 (0, ei_load 0 2 30, 0, 0)) (e_L 30 (0, ei_load 1 0 31, 0, 0)))) (e_T 32 (e_T 31 (e_L 31 (0, ei_load 2 0 32, 0, 0)) (e_L 32 (0, ei_load 3 0 33, 0, 0))) (e_T 33 (e_L 33 (2, e_nof, 508, 4)) (e_L 36 (1, e_nof, 1, 0)))))))
set_option maxRecDepth 20000 in
set_option maxHeartbeats 4000000 in
theorem te_509_ok : ∀ pc, e_EOq eft cls elay I3 n_509 pc (te_509 pc) :=
  (e_Tok2
  (e_Tok2
  (e_Tok2
  (e_Tok2
  (e_Lok (e_st (I := I3) (er_iload_n (i := 1) (x_dk dn_509_0_ok 0 rfl)) nx_load))
  (e_Tok2
  (e_Lok (e_ca (I := I3) (q' := n_507) rfl (xr_callS (q' := n_507) (ix := 88) (n := 1) (in_t5 (List.mem_of_getElem? (i := 182) rfl) rfl) good_w (in_t1 (List.mem_of_getElem? (i := 17) rfl) rfl) (in_t5 (List.mem_of_getElem? (i := 180) rfl) rfl) (in_t5 (List.mem_of_getElem? (i := 181) rfl) rfl) (by decide +kernel) (by decide +kernel) (x_dk dn_509_0_ok 1 rfl))))
  (e_Lok (e_st (I := I3) (er_ifne (off := 5) (tg := 9) (x_dk dn_509_0_ok 2 rfl) (by decide)) nx_if1))))
  (e_Tok2
  (e_Lok (e_st (I := I3) (er_iconst (n := (-1)) (z := (-1)) (v := (-1)) (x_dk dn_509_0_ok 3 rfl) (by decide) (by decide)) (nx_push (Or.inl rfl))))
  (e_Tok2
  (e_Lok (e_rt (I := I3) (k := 1) ⟨(x_dk dn_509_0_ok 4 rfl), rfl⟩))
  (e_Lok (e_st (I := I3) (er_iload_n (i := 2) (x_dk dn_509_0_ok 5 rfl)) nx_load)))))
  (e_Tok2
  (e_Tok2
  (e_Lok (e_st (I := I3) (er_iconst (n := 0) (z := 0) (v := 0) (x_dk dn_509_0_ok 6 rfl) (by decide) (by decide)) (nx_push (Or.inl rfl))))
  (e_Tok2
  (e_Lok (e_st (I := I3) (er_max (ix := 92) (in_t5 (List.mem_of_getElem? (i := 183) rfl) rfl) (in_t5 (List.mem_of_getElem? (i := 184) rfl) rfl) (in_t1 (List.mem_of_getElem? (i := 15) rfl) rfl) (in_t5 (List.mem_of_getElem? (i := 185) rfl) rfl) (x_dk dn_509_0_ok 7 rfl)) nx_m2))
  (e_Lok (e_st (I := I3) (er_istore_n (i := 2) (x_dk dn_509_0_ok 8 rfl) (by decide +kernel)) nx_stor))))
  (e_Tok2
  (e_Lok (e_st (I := I3) (er_iload_n (i := 3) (x_dk dn_509_0_ok 9 rfl)) nx_load))
  (e_Tok2
  (e_Lok (e_st (I := I3) (er_aload_n (i := 0) (x_dk dn_509_0_ok 10 rfl)) nx_load))
  (e_Lok (e_st (I := I3) (er_tln (x_dk dn_509_0_ok 11 rfl)) (nx_S bS_tln)))))))
  (e_Tok2
  (e_Tok2
  (e_Tok2
  (e_Lok (e_st (I := I3) (er_min (ix := 38) (in_t5 (List.mem_of_getElem? (i := 186) rfl) rfl) (in_t5 (List.mem_of_getElem? (i := 187) rfl) rfl) (in_t1 (List.mem_of_getElem? (i := 15) rfl) rfl) (in_t5 (List.mem_of_getElem? (i := 188) rfl) rfl) (x_dk dn_509_0_ok 12 rfl)) nx_m2))
  (e_Tok2
  (e_Lok (e_st (I := I3) (er_istore_n (i := 3) (x_dk dn_509_0_ok 13 rfl) (by decide +kernel)) nx_stor))
  (e_Lok (e_st (I := I3) (er_iload_n (i := 2) (x_dk dn_509_0_ok 14 rfl)) nx_load))))
  (e_Tok2
  (e_Lok (e_st (I := I3) (er_iload_n (i := 3) (x_dk dn_509_0_ok 15 rfl)) nx_load))
  (e_Tok2
  (e_Lok (e_st (I := I3) (er_icmplt (off := 5) (tg := 29) (x_dk dn_509_0_ok 16 rfl) (by decide)) nx_if2))
  (e_Lok (e_st (I := I3) (er_iconst (n := (-1)) (z := (-1)) (v := (-1)) (x_dk dn_509_0_ok 17 rfl) (by decide) (by decide)) (nx_push (Or.inl rfl)))))))
  (e_Tok2
  (e_Tok2
  (e_Lok (e_rt (I := I3) (k := 1) ⟨(x_dk dn_509_0_ok 18 rfl), rfl⟩))
  (e_Tok2
  (e_Lok (e_st (I := I3) (er_aload_n (i := 0) (x_dk dn_509_0_ok 19 rfl)) nx_load))
  (e_Lok (e_st (I := I3) (er_iload_n (i := 1) (x_dk dn_509_0_ok 20 rfl)) nx_load))))
  (e_Tok2
  (e_Tok2
  (e_Lok (e_st (I := I3) (er_iload_n (i := 2) (x_dk dn_509_0_ok 21 rfl)) nx_load))
  (e_Lok (e_st (I := I3) (er_iload_n (i := 3) (x_dk dn_509_0_ok 22 rfl)) nx_load)))
  (e_Tok2
  (e_Lok (e_ca (I := I3) (q' := n_508) rfl (xr_callS (q' := n_508) (ix := 95) (n := 4) (in_t5 (List.mem_of_getElem? (i := 191) rfl) rfl) good_w (in_t1 (List.mem_of_getElem? (i := 17) rfl) rfl) (in_t5 (List.mem_of_getElem? (i := 189) rfl) rfl) (in_t5 (List.mem_of_getElem? (i := 190) rfl) rfl) (by decide +kernel) (by decide +kernel) (x_dk dn_509_0_ok 23 rfl))))
  (e_Lok (e_rt (I := I3) (k := 1) ⟨(x_dk dn_509_0_ok 24 rfl), rfl⟩)))))))
def dn_510_0 : List (Nat × Instr × Nat) := [(0, .aload_n 0, 1), (1, .invokevirtual 492, 3), (4, .ifCond .eq 19, 3), (7, .aload_n 0, 1), (8, .getfield 9, 3), (11, .iload_n 1, 1), (12, .iload_n 2, 1), (13, .aload_n 0, 1), (14, .invokevirtual 505, 3), (17, .invokestatic 637, 3), (20, .goto 16, 3), (23, .aload_n 0, 1), (24, .getfield 9, 3), (27, .iload_n 1, 1), (28, .iload_n 2, 1), (29, .aload_n 0, 1), (30, .invokevirtual 505, 3), (33, .invokestatic 640, 3), (36, .ireturn, 1)]
set_option maxRecDepth 20000 in
theorem dn_510_0_ok : dn_510_0.all (fun q => decide (decode prog_17_method_80_code q.1 = .ok (q.2.1, q.2.2))) = true := by decide +kernel
def te_510 : Nat → eE := (e_T 11 (e_T 4 (e_T 0 (e_L 0 (0, ei_load 0 2 1, 0, 0)) (e_T 1 (e_L 1 (2, e_nof, 502, 1)) (e_L 4 (0, ei_if1 0 23 7, 0, 0)))) (e_T 7 (e_L 7 (0, ei_load 0 2 8, 0, 0)) (e_T 8 (e_L 8 (0, e_S (g_val 11), 0, 0)) (e_L 11 (0, ei_load 1 0 12, 0, 0))))) (e_T 14 (e_T 12 (e_L 12 (0, ei_load 2 0 13, 0, 0)) (e_T 13 (e_L 13 (0, ei_load 0 2 14, 0, 0)) (e_L 14 (2, e_nof, 501, 1)))) (e_T 17 (e_L 17 (2, e_nof, 509, 4)) (e_T 20 (e_L 20 (0, ei_goto 36, 0, 0)) (e_L 36 (1, e_nof, 1, 0))))))
set_option maxRecDepth 20000 in
set_option maxHeartbeats 4000000 in
theorem te_510_ok : ∀ pc, e_EOq eft cls elay I3 n_510 pc (te_510 pc) :=
  (e_Tok2
  (e_Tok2
  (e_Tok2
  (e_Lok (e_st (I := I3) (er_aload_n (i := 0) (x_dk dn_510_0_ok 0 rfl)) nx_load))
  (e_Tok2
  (e_Lok (e_ca (I := I3) (q' := n_502) rfl (xr_callV (q' := n_502) (ix := 492) (n := 0) (in_t5 (List.mem_of_getElem? (i := 132) rfl) rfl) good_w (in_t1 (List.mem_of_getElem? (i := 16) rfl) rfl) (in_t5 (List.mem_of_getElem? (i := 129) rfl) rfl) (in_t5 (List.mem_of_getElem? (i := 130) rfl) rfl) (in_t5 (List.mem_of_getElem? (i := 131) rfl) rfl) (by decide +kernel) (by decide +kernel) (by decide +kernel) (x_dk dn_510_0_ok 1 rfl))))
  (e_Lok (e_st (I := I3) (er_ifeq (off := 19) (tg := 23) (x_dk dn_510_0_ok 2 rfl) (by decide)) nx_if1))))
  (e_Tok2
  (e_Lok (e_st (I := I3) (er_aload_n (i := 0) (x_dk dn_510_0_ok 3 rfl)) nx_load))
  (e_Tok2
  (e_Lok (e_st (I := I3) (er_tval (ix := 9) (in_t14 (List.mem_of_getElem? (i := 25) rfl) rfl) (x_dk dn_510_0_ok 4 rfl)) (nx_S bS_val)))
  (e_Lok (e_st (I := I3) (er_iload_n (i := 1) (x_dk dn_510_0_ok 5 rfl)) nx_load)))))
  (e_Tok2
  (e_Tok2
  (e_Lok (e_st (I := I3) (er_iload_n (i := 2) (x_dk dn_510_0_ok 6 rfl)) nx_load))
  (e_Tok2
  (e_Lok (e_st (I := I3) (er_aload_n (i := 0) (x_dk dn_510_0_ok 7 rfl)) nx_load))
  (e_Lok (e_ca (I := I3) (q' := n_501) rfl (xr_callV (q' := n_501) (ix := 505) (n := 0) (in_t5 (List.mem_of_getElem? (i := 118) rfl) rfl) good_w (in_t1 (List.mem_of_getElem? (i := 16) rfl) rfl) (in_t5 (List.mem_of_getElem? (i := 176) rfl) rfl) (in_t5 (List.mem_of_getElem? (i := 116) rfl) rfl) (in_t5 (List.mem_of_getElem? (i := 117) rfl) rfl) (by decide +kernel) (by decide +kernel) (by decide +kernel) (x_dk dn_510_0_ok 8 rfl))))))
  (e_Tok2
  (e_Lok (e_ca (I := I3) (q' := n_509) rfl (xr_callS (q' := n_509) (ix := 637) (n := 4) (in_t5 (List.mem_of_getElem? (i := 179) rfl) rfl) good_w (in_t1 (List.mem_of_getElem? (i := 17) rfl) rfl) (in_t5 (List.mem_of_getElem? (i := 177) rfl) rfl) (in_t5 (List.mem_of_getElem? (i := 178) rfl) rfl) (by decide +kernel) (by decide +kernel) (x_dk dn_510_0_ok 9 rfl))))
  (e_Tok2
  (e_Lok (e_st (I := I3) (er_goto (off := 16) (tg := 36) (x_dk dn_510_0_ok 10 rfl) (by decide)) nx_goto))
  (e_Lok (e_rt (I := I3) (k := 1) ⟨(x_dk dn_510_0_ok 18 rfl), rfl⟩))))))
def dn_511_0 : List (Nat × Instr × Nat) := [(0, .aload_n 0, 1), (1, .iload_n 1, 1), (2, .iconst 0, 1), (3, .invokevirtual 633, 3), (6, .ireturn, 1)]
set_option maxRecDepth 20000 in
theorem dn_511_0_ok : dn_511_0.all (fun q => decide (decode prog_17_method_79_code q.1 = .ok (q.2.1, q.2.2))) = true := by decide +kernel
def te_511 : Nat → eE := (e_T 1 (e_T 0 (e_L 0 (0, ei_load 0 2 1, 0, 0)) (e_L 1 (0, ei_load 1 0 2, 0, 0))) (e_T 2 (e_L 2 (0, ei_push (0, 0) 3, 0, 0)) (e_T 3 (e_L 3 (2, e_nof, 510, 3)) (e_L 6 (1, e_nof, 1, 0)))))
set_option maxRecDepth 20000 in
set_option maxHeartbeats 4000000 in
theorem te_511_ok : ∀ pc, e_EOq eft cls elay I3 n_511 pc (te_511 pc) :=
  (e_Tok2
  (e_Tok2
  (e_Lok (e_st (I := I3) (er_aload_n (i := 0) (x_dk dn_511_0_ok 0 rfl)) nx_load))
  (e_Lok (e_st (I := I3) (er_iload_n (i := 1) (x_dk dn_511_0_ok 1 rfl)) nx_load)))
  (e_Tok2
  (e_Lok (e_st (I := I3) (er_iconst (n := 0) (z := 0) (v := 0) (x_dk dn_511_0_ok 2 rfl) (by decide) (by decide)) (nx_push (Or.inl rfl))))
  (e_Tok2
  (e_Lok (e_ca (I := I3) (q' := n_510) rfl (xr_callV (q' := n_510) (ix := 633) (n := 2) (in_t5 (List.mem_of_getElem? (i := 175) rfl) rfl) good_w (in_t1 (List.mem_of_getElem? (i := 16) rfl) rfl) (in_t5 (List.mem_of_getElem? (i := 172) rfl) rfl) (in_t5 (List.mem_of_getElem? (i := 173) rfl) rfl) (in_t5 (List.mem_of_getElem? (i := 174) rfl) rfl) (by decide +kernel) (by decide +kernel) (by decide +kernel) (x_dk dn_511_0_ok 3 rfl))))
  (e_Lok (e_rt (I := I3) (k := 1) ⟨(x_dk dn_511_0_ok 4 rfl), rfl⟩)))))
def code3 (M : Nat) : Nat → eE := bif Nat.beq M 500 then te_500 else bif Nat.beq M 501 then te_501 else bif Nat.beq M 502 then te_502 else bif Nat.beq M 503 then te_503 else bif Nat.beq M 504 then te_504 else bif Nat.beq M 505 then te_505 else bif Nat.beq M 506 then te_506 else bif Nat.beq M 507 then te_507 else bif Nat.beq M 508 then te_508 else bif Nat.beq M 509 then te_509 else bif Nat.beq M 510 then te_510 else bif Nat.beq M 511 then te_511 else fun _ => e_e7
theorem e_b3 {I : Nat → xM} {b : Bool} {q q' : xM} {a a' : Nat → eE} {pc : Nat} (h1 : e_EOq eft cls elay I q pc (a pc)) (h2 : e_EOq eft cls elay I q' pc (a' pc)) : e_EOq eft cls elay I (bif b then q else q') pc ((bif b then a else a') pc) := by
  cases b
  · exact h2
  · exact h1
theorem e_q3 {P : xM → Prop} {b : Bool} {q q' : xM} (h1 : P q) (h2 : P q') : P (bif b then q else q') := by
  cases b
  · exact h2
  · exact h1
theorem t3_ok (M pc : Nat) : e_EOq eft cls elay I3 (I3 M) pc (code3 M pc) := e_b3 (te_500_ok pc) (e_b3 (te_501_ok pc) (e_b3 (te_502_ok pc) (e_b3 (te_503_ok pc) (e_b3 (te_504_ok pc) (e_b3 (te_505_ok pc) (e_b3 (te_506_ok pc) (e_b3 (te_507_ok pc) (e_b3 (te_508_ok pc) (e_b3 (te_509_ok pc) (e_b3 (te_510_ok pc) (e_b3 (te_511_ok pc) (trivial))))))))))))
theorem elay_no (k n : Nat) : elay[k]? ≠ some (0, 998, n) := fun h => by
  have a : ∀ y ∈ elay, y.2.1 ≠ 998 := by decide +kernel
  exact a _ (List.mem_of_getElem? h) rfl
theorem tab3 : e_Tab 1 eft cls elay I3 code3 := by
  refine ⟨by decide, t3_ok, fun M => ?_, fun M => ?_⟩
  · exact e_q3 (P := fun q => plainName (xm_y q).cls = true) (by decide +kernel) (e_q3 (P := fun q => plainName (xm_y q).cls = true) (by decide +kernel) (e_q3 (P := fun q => plainName (xm_y q).cls = true) (by decide +kernel) (e_q3 (P := fun q => plainName (xm_y q).cls = true) (by decide +kernel) (e_q3 (P := fun q => plainName (xm_y q).cls = true) (by decide +kernel) (e_q3 (P := fun q => plainName (xm_y q).cls = true) (by decide +kernel) (e_q3 (P := fun q => plainName (xm_y q).cls = true) (by decide +kernel) (e_q3 (P := fun q => plainName (xm_y q).cls = true) (by decide +kernel) (e_q3 (P := fun q => plainName (xm_y q).cls = true) (by decide +kernel) (e_q3 (P := fun q => plainName (xm_y q).cls = true) (by decide +kernel) (e_q3 (P := fun q => plainName (xm_y q).cls = true) (by decide +kernel) (e_q3 (P := fun q => plainName (xm_y q).cls = true) (by decide +kernel) (e_tab0.2.2.1 M))))))))))))
  · exact e_q3 (P := (fun q => xm_o q ≠ 999 → (xm_o q = 998 ∧ (xm_y q).cls = "java/lang/String" ∧ ∀ (k n : Nat), elay[k]? ≠ some (0, 998, n)) ∨ (xm_o q ≠ 998 ∧ ∃ r, cls[xm_o q]? = some r ∧ r.1 = (xm_y q).cls))) (fun _ => Or.inl ⟨rfl, rfl, elay_no⟩) (e_q3 (P := (fun q => xm_o q ≠ 999 → (xm_o q = 998 ∧ (xm_y q).cls = "java/lang/String" ∧ ∀ (k n : Nat), elay[k]? ≠ some (0, 998, n)) ∨ (xm_o q ≠ 998 ∧ ∃ r, cls[xm_o q]? = some r ∧ r.1 = (xm_y q).cls))) (fun _ => Or.inl ⟨rfl, rfl, elay_no⟩) (e_q3 (P := (fun q => xm_o q ≠ 999 → (xm_o q = 998 ∧ (xm_y q).cls = "java/lang/String" ∧ ∀ (k n : Nat), elay[k]? ≠ some (0, 998, n)) ∨ (xm_o q ≠ 998 ∧ ∃ r, cls[xm_o q]? = some r ∧ r.1 = (xm_y q).cls))) (fun _ => Or.inl ⟨rfl, rfl, elay_no⟩) (e_q3 (P := (fun q => xm_o q ≠ 999 → (xm_o q = 998 ∧ (xm_y q).cls = "java/lang/String" ∧ ∀ (k n : Nat), elay[k]? ≠ some (0, 998, n)) ∨ (xm_o q ≠ 998 ∧ ∃ r, cls[xm_o q]? = some r ∧ r.1 = (xm_y q).cls))) (fun h => absurd rfl h) (e_q3 (P := (fun q => xm_o q ≠ 999 → (xm_o q = 998 ∧ (xm_y q).cls = "java/lang/String" ∧ ∀ (k n : Nat), elay[k]? ≠ some (0, 998, n)) ∨ (xm_o q ≠ 998 ∧ ∃ r, cls[xm_o q]? = some r ∧ r.1 = (xm_y q).cls))) (fun h => absurd rfl h) (e_q3 (P := (fun q => xm_o q ≠ 999 → (xm_o q = 998 ∧ (xm_y q).cls = "java/lang/String" ∧ ∀ (k n : Nat), elay[k]? ≠ some (0, 998, n)) ∨ (xm_o q ≠ 998 ∧ ∃ r, cls[xm_o q]? = some r ∧ r.1 = (xm_y q).cls))) (fun h => absurd rfl h) (e_q3 (P := (fun q => xm_o q ≠ 999 → (xm_o q = 998 ∧ (xm_y q).cls = "java/lang/String" ∧ ∀ (k n : Nat), elay[k]? ≠ some (0, 998, n)) ∨ (xm_o q ≠ 998 ∧ ∃ r, cls[xm_o q]? = some r ∧ r.1 = (xm_y q).cls))) (fun _ => Or.inl ⟨rfl, rfl, elay_no⟩) (e_q3 (P := (fun q => xm_o q ≠ 999 → (xm_o q = 998 ∧ (xm_y q).cls = "java/lang/String" ∧ ∀ (k n : Nat), elay[k]? ≠ some (0, 998, n)) ∨ (xm_o q ≠ 998 ∧ ∃ r, cls[xm_o q]? = some r ∧ r.1 = (xm_y q).cls))) (fun h => absurd rfl h) (e_q3 (P := (fun q => xm_o q ≠ 999 → (xm_o q = 998 ∧ (xm_y q).cls = "java/lang/String" ∧ ∀ (k n : Nat), elay[k]? ≠ some (0, 998, n)) ∨ (xm_o q ≠ 998 ∧ ∃ r, cls[xm_o q]? = some r ∧ r.1 = (xm_y q).cls))) (fun h => absurd rfl h) (e_q3 (P := (fun q => xm_o q ≠ 999 → (xm_o q = 998 ∧ (xm_y q).cls = "java/lang/String" ∧ ∀ (k n : Nat), elay[k]? ≠ some (0, 998, n)) ∨ (xm_o q ≠ 998 ∧ ∃ r, cls[xm_o q]? = some r ∧ r.1 = (xm_y q).cls))) (fun h => absurd rfl h) (e_q3 (P := (fun q => xm_o q ≠ 999 → (xm_o q = 998 ∧ (xm_y q).cls = "java/lang/String" ∧ ∀ (k n : Nat), elay[k]? ≠ some (0, 998, n)) ∨ (xm_o q ≠ 998 ∧ ∃ r, cls[xm_o q]? = some r ∧ r.1 = (xm_y q).cls))) (fun _ => Or.inl ⟨rfl, rfl, elay_no⟩) (e_q3 (P := (fun q => xm_o q ≠ 999 → (xm_o q = 998 ∧ (xm_y q).cls = "java/lang/String" ∧ ∀ (k n : Nat), elay[k]? ≠ some (0, 998, n)) ∨ (xm_o q ≠ 998 ∧ ∃ r, cls[xm_o q]? = some r ∧ r.1 = (xm_y q).cls))) (fun _ => Or.inl ⟨rfl, rfl, elay_no⟩) (e_tab0.2.2.2 M))))))))))))
end
end
