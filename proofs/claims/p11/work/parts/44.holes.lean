noncomputable section
theorem ho_126 : (xm_y n_126).cls = "RobotCellHouse$Reader" := rfl
def dn_126_0_0 : List (Nat × Instr × Nat) := [(0, .bipush 21, 2), (2, .istore_n 1, 1), (3, .aload_n 0, 1), (4, .getfield 78, 3), (7, .istore_n 2, 1), (8, .iconst 1, 1), (9, .istore_n 3, 1), (10, .iconst 0, 1), (11, .istore 4, 2), (13, .iload 4, 2), (15, .ldc 106, 2), (17, .invokevirtual 108, 3), (20, .if_icmp .ge 84, 3), (23, .ldc 106, 2), (25, .iload 4, 2), (27, .invokevirtual 112, 3), (30, .istore 5, 2), (32, .iload 5, 2), (34, .bipush 32, 2), (36, .if_icmp .eq 38, 3), (39, .iload_n 3, 1), (40, .ifCond .eq 26, 3), (43, .iload_n 2, 1), (44, .aload_n 0, 1), (45, .getfield 48, 3)]
set_option maxRecDepth 20000 in
theorem dn_126_0_0_ok : dn_126_0_0.all (fun q => decide (decode (xm_b n_126) q.1 = .ok (q.2.1, q.2.2))) = true := xa_g_ok (by decide +kernel)
def dn_126_0_1 : List (Nat × Instr × Nat) := [(48, .if_icmp .ge 18, 3), (51, .aload_n 0, 1), (52, .getfield 25, 3), (55, .iload_n 2, 1), (56, .baload, 1), (57, .iload 5, 2), (59, .if_icmp .ne 7, 3), (62, .iconst 1, 1), (63, .goto 4, 3), (66, .iconst 0, 1), (67, .istore_n 3, 1), (68, .iinc 2 1, 3), (71, .goto 27, 3), (74, .iload_n 3, 1), (75, .ifCond .eq 13, 3), (78, .iload_n 2, 1), (79, .aload_n 0, 1), (80, .getfield 48, 3), (83, .if_icmp .ne 5, 3), (86, .iload_n 1, 1), (87, .ireturn, 1), (88, .iinc 1 1, 3), (91, .aload_n 0, 1), (92, .getfield 78, 3), (95, .istore_n 2, 1)]
set_option maxRecDepth 20000 in
theorem dn_126_0_1_ok : dn_126_0_1.all (fun q => decide (decode (xm_b n_126) q.1 = .ok (q.2.1, q.2.2))) = true := xa_g_ok (by decide +kernel)
def dn_126_0_2 : List (Nat × Instr × Nat) := [(96, .iconst 1, 1), (97, .istore_n 3, 1), (98, .iinc 4 1, 3), (101, .goto (-88), 3), (104, .iconst 1, 1), (105, .ireturn, 1)]
set_option maxRecDepth 20000 in
theorem dn_126_0_2_ok : dn_126_0_2.all (fun q => decide (decode (xm_b n_126) q.1 = .ok (q.2.1, q.2.2))) = true := xa_g_ok (by decide +kernel)
def te_126_0 : Nat → eE := (e_T 30 (e_T 8 (e_T 3 (e_T 0 (e_L 0 (0, ei_push (0, 21) 2, 0, 0)) (e_T 2 (e_L 2 (0, ei_stor 1 0 3, 0, 0)) (e_L 3 (0, ei_load 0 2 4, 0, 0)))) (e_T 4 (e_L 4 (0, ei_getf eft elay 8 6 7, 0, 0)) (e_T 7 (e_L 7 (0, ei_stor 2 0 8, 0, 0)) (e_L 8 (0, ei_push (0, 1) 9, 0, 0))))) (e_T 11 (e_T 9 (e_L 9 (0, ei_stor 3 0 10, 0, 0)) (e_T 10 (e_L 10 (0, ei_push (0, 0) 11, 0, 0)) (e_L 11 (0, ei_stor 4 0 13, 0, 0)))) (e_T 20 (e_T 13 (e_L 13 (0, ei_load 4 0 15, 0, 0)) (e_L 20 (0, ei_if2 3 104 23, 0, 0))) (e_T 25 (e_L 25 (0, ei_load 4 0 27, 0, 0)) (e_L 30 (0, ei_stor 5 0 32, 0, 0)))))) (e_T 43 (e_T 36 (e_T 32 (e_L 32 (0, ei_load 5 0 34, 0, 0)) (e_T 34 (e_L 34 (0, ei_push (0, 32) 36, 0, 0)) (e_L 36 (0, ei_if2 0 74 39, 0, 0)))) (e_T 39 (e_L 39 (0, ei_load 3 0 40, 0, 0)) (e_T 40 (e_L 40 (0, ei_if1 0 66 43, 0, 0)) (e_L 43 (0, ei_load 2 0 44, 0, 0))))) (e_T 48 (e_T 44 (e_L 44 (0, ei_load 0 2 45, 0, 0)) (e_T 45 (e_L 45 (0, ei_getf eft elay 8 7 48, 0, 0)) (e_L 48 (0, ei_if2 3 66 51, 0, 0)))) (e_T 52 (e_T 51 (e_L 51 (0, ei_load 0 2 52, 0, 0)) (e_L 52 (0, ei_getf eft elay 8 4 55, 0, 0))) (e_T 55 (e_L 55 (0, ei_load 2 0 56, 0, 0)) (e_L 56 (0, ei_ald elay true 57, 0, 0)))))))
set_option maxRecDepth 20000 in
set_option maxHeartbeats 4000000 in
theorem te_126_0_ok : ∀ pc, e_EOq eft cls elay eI n_126 pc (te_126_0 pc) :=
  (e_Tok2
  (e_Tok2
  (e_Tok2
  (e_Tok2
  (e_Lok (ps_bipush_21 (x_dk dn_126_0_0_ok 0 rfl)))
  (e_Tok2
  (e_Lok (e_st (I := eI) (er_istore_n (i := 1) (x_dk dn_126_0_0_ok 1 rfl) (by decide +kernel)) nx_stor))
  (e_Lok (ld_aload_n_0 (x_dk dn_126_0_0_ok 2 rfl)))))
  (e_Tok2
  (e_Lok (lk_8_78g ho_126 (x_dk dn_126_0_0_ok 3 rfl)))
  (e_Tok2
  (e_Lok (e_st (I := eI) (er_istore_n (i := 2) (x_dk dn_126_0_0_ok 4 rfl) (by decide +kernel)) nx_stor))
  (e_Lok (ps_iconst_1 (x_dk dn_126_0_0_ok 5 rfl))))))
  (e_Tok2
  (e_Tok2
  (e_Lok (e_st (I := eI) (er_istore_n (i := 3) (x_dk dn_126_0_0_ok 6 rfl) (by decide +kernel)) nx_stor))
  (e_Tok2
  (e_Lok (ps_iconst_0 (x_dk dn_126_0_0_ok 7 rfl)))
  (e_Lok (e_st (I := eI) (er_istore (i := 4) (x_dk dn_126_0_0_ok 8 rfl) (by decide +kernel)) nx_stor))))
  (e_Tok2
  (e_Tok2
  (e_Lok (ld_iload_4 (x_dk dn_126_0_0_ok 9 rfl)))
  (e_Lok (e_st (I := eI) (er_icmpge (off := 84) (tg := 104) (x_dk dn_126_0_0_ok 12 rfl) (by decide)) nx_if2)))
  (e_Tok2
  (e_Lok (ld_iload_4 (x_dk dn_126_0_0_ok 14 rfl)))
  (e_Lok (e_st (I := eI) (er_istore (i := 5) (x_dk dn_126_0_0_ok 16 rfl) (by decide +kernel)) nx_stor))))))
  (e_Tok2
  (e_Tok2
  (e_Tok2
  (e_Lok (ld_iload_5 (x_dk dn_126_0_0_ok 17 rfl)))
  (e_Tok2
  (e_Lok (ps_bipush_32 (x_dk dn_126_0_0_ok 18 rfl)))
  (e_Lok (e_st (I := eI) (er_icmpeq (off := 38) (tg := 74) (x_dk dn_126_0_0_ok 19 rfl) (by decide)) nx_if2))))
  (e_Tok2
  (e_Lok (ld_iload_n_3 (x_dk dn_126_0_0_ok 20 rfl)))
  (e_Tok2
  (e_Lok (e_st (I := eI) (er_ifeq (off := 26) (tg := 66) (x_dk dn_126_0_0_ok 21 rfl) (by decide)) nx_if1))
  (e_Lok (ld_iload_n_2 (x_dk dn_126_0_0_ok 22 rfl))))))
  (e_Tok2
  (e_Tok2
  (e_Lok (ld_aload_n_0 (x_dk dn_126_0_0_ok 23 rfl)))
  (e_Tok2
  (e_Lok (lk_8_48g ho_126 (x_dk dn_126_0_0_ok 24 rfl)))
  (e_Lok (e_st (I := eI) (er_icmpge (off := 18) (tg := 66) (x_dk dn_126_0_1_ok 0 rfl) (by decide)) nx_if2))))
  (e_Tok2
  (e_Tok2
  (e_Lok (ld_aload_n_0 (x_dk dn_126_0_1_ok 1 rfl)))
  (e_Lok (lk_8_25g ho_126 (x_dk dn_126_0_1_ok 2 rfl))))
  (e_Tok2
  (e_Lok (ld_iload_n_2 (x_dk dn_126_0_1_ok 3 rfl)))
  (e_Lok (e_st (I := eI) (er_baload (x_dk dn_126_0_1_ok 4 rfl)) nx_ald)))))))
def te_126_26 : Nat → eE := (e_T 80 (e_T 67 (e_T 62 (e_T 57 (e_L 57 (0, ei_load 5 0 59, 0, 0)) (e_T 59 (e_L 59 (0, ei_if2 1 66 62, 0, 0)) (e_L 62 (0, ei_push (0, 1) 63, 0, 0)))) (e_T 63 (e_L 63 (0, ei_goto 67, 0, 0)) (e_T 66 (e_L 66 (0, ei_push (0, 0) 67, 0, 0)) (e_L 67 (0, ei_stor 3 0 68, 0, 0))))) (e_T 74 (e_T 68 (e_L 68 (0, ei_inc 2 1 71, 0, 0)) (e_T 71 (e_L 71 (0, ei_goto 98, 0, 0)) (e_L 74 (0, ei_load 3 0 75, 0, 0)))) (e_T 78 (e_T 75 (e_L 75 (0, ei_if1 0 88 78, 0, 0)) (e_L 78 (0, ei_load 2 0 79, 0, 0))) (e_T 79 (e_L 79 (0, ei_load 0 2 80, 0, 0)) (e_L 80 (0, ei_getf eft elay 8 7 83, 0, 0)))))) (e_T 92 (e_T 87 (e_T 83 (e_L 83 (0, ei_if2 1 88 86, 0, 0)) (e_T 86 (e_L 86 (0, ei_load 1 0 87, 0, 0)) (e_L 87 (1, e_nof, 1, 0)))) (e_T 88 (e_L 88 (0, ei_inc 1 1 91, 0, 0)) (e_T 91 (e_L 91 (0, ei_load 0 2 92, 0, 0)) (e_L 92 (0, ei_getf eft elay 8 6 95, 0, 0))))) (e_T 97 (e_T 95 (e_L 95 (0, ei_stor 2 0 96, 0, 0)) (e_T 96 (e_L 96 (0, ei_push (0, 1) 97, 0, 0)) (e_L 97 (0, ei_stor 3 0 98, 0, 0)))) (e_T 101 (e_T 98 (e_L 98 (0, ei_inc 4 1 101, 0, 0)) (e_L 101 (0, ei_goto 13, 0, 0))) (e_T 104 (e_L 104 (0, ei_push (0, 1) 105, 0, 0)) (e_L 105 (1, e_nof, 1, 0)))))))
set_option maxRecDepth 20000 in
set_option maxHeartbeats 4000000 in
theorem te_126_26_ok : ∀ pc, e_EOq eft cls elay eI n_126 pc (te_126_26 pc) :=
  (e_Tok2
  (e_Tok2
  (e_Tok2
  (e_Tok2
  (e_Lok (ld_iload_5 (x_dk dn_126_0_1_ok 5 rfl)))
  (e_Tok2
  (e_Lok (e_st (I := eI) (er_icmpne (off := 7) (tg := 66) (x_dk dn_126_0_1_ok 6 rfl) (by decide)) nx_if2))
  (e_Lok (ps_iconst_1 (x_dk dn_126_0_1_ok 7 rfl)))))
  (e_Tok2
  (e_Lok (e_st (I := eI) (er_goto (off := 4) (tg := 67) (x_dk dn_126_0_1_ok 8 rfl) (by decide)) nx_goto))
  (e_Tok2
  (e_Lok (ps_iconst_0 (x_dk dn_126_0_1_ok 9 rfl)))
  (e_Lok (e_st (I := eI) (er_istore_n (i := 3) (x_dk dn_126_0_1_ok 10 rfl) (by decide +kernel)) nx_stor)))))
  (e_Tok2
  (e_Tok2
  (e_Lok (e_st (I := eI) (er_iinc (i := 2) (n := 1) (x_dk dn_126_0_1_ok 11 rfl) (by decide +kernel) (by decide)) nx_inc))
  (e_Tok2
  (e_Lok (e_st (I := eI) (er_goto (off := 27) (tg := 98) (x_dk dn_126_0_1_ok 12 rfl) (by decide)) nx_goto))
  (e_Lok (ld_iload_n_3 (x_dk dn_126_0_1_ok 13 rfl)))))
  (e_Tok2
  (e_Tok2
  (e_Lok (e_st (I := eI) (er_ifeq (off := 13) (tg := 88) (x_dk dn_126_0_1_ok 14 rfl) (by decide)) nx_if1))
  (e_Lok (ld_iload_n_2 (x_dk dn_126_0_1_ok 15 rfl))))
  (e_Tok2
  (e_Lok (ld_aload_n_0 (x_dk dn_126_0_1_ok 16 rfl)))
  (e_Lok (lk_8_48g ho_126 (x_dk dn_126_0_1_ok 17 rfl)))))))
  (e_Tok2
  (e_Tok2
  (e_Tok2
  (e_Lok (e_st (I := eI) (er_icmpne (off := 5) (tg := 88) (x_dk dn_126_0_1_ok 18 rfl) (by decide)) nx_if2))
  (e_Tok2
  (e_Lok (ld_iload_n_1 (x_dk dn_126_0_1_ok 19 rfl)))
  (e_Lok (e_rt (I := eI) (k := 1) ⟨(x_dk dn_126_0_1_ok 20 rfl), rfl⟩))))
  (e_Tok2
  (e_Lok (e_st (I := eI) (er_iinc (i := 1) (n := 1) (x_dk dn_126_0_1_ok 21 rfl) (by decide +kernel) (by decide)) nx_inc))
  (e_Tok2
  (e_Lok (ld_aload_n_0 (x_dk dn_126_0_1_ok 22 rfl)))
  (e_Lok (lk_8_78g ho_126 (x_dk dn_126_0_1_ok 23 rfl))))))
  (e_Tok2
  (e_Tok2
  (e_Lok (e_st (I := eI) (er_istore_n (i := 2) (x_dk dn_126_0_1_ok 24 rfl) (by decide +kernel)) nx_stor))
  (e_Tok2
  (e_Lok (ps_iconst_1 (x_dk dn_126_0_2_ok 0 rfl)))
  (e_Lok (e_st (I := eI) (er_istore_n (i := 3) (x_dk dn_126_0_2_ok 1 rfl) (by decide +kernel)) nx_stor))))
  (e_Tok2
  (e_Tok2
  (e_Lok (e_st (I := eI) (er_iinc (i := 4) (n := 1) (x_dk dn_126_0_2_ok 2 rfl) (by decide +kernel) (by decide)) nx_inc))
  (e_Lok (e_st (I := eI) (er_goto (off := (-88)) (tg := 13) (x_dk dn_126_0_2_ok 3 rfl) (by decide)) nx_goto)))
  (e_Tok2
  (e_Lok (ps_iconst_1 (x_dk dn_126_0_2_ok 4 rfl)))
  (e_Lok (e_rt (I := eI) (k := 1) ⟨(x_dk dn_126_0_2_ok 5 rfl), rfl⟩)))))))
def te_126 : Nat → eE := (e_T 56 te_126_0 te_126_26)
theorem te_126_ok : ∀ pc, e_EOq eft cls elay eI n_126 pc (te_126 pc) := (e_Tok2 (te_126_0_ok) (te_126_26_ok))
theorem ho_127 : (xm_y n_127).cls = "RobotCellHouse$Reader" := rfl
def dn_127_0_0 : List (Nat × Instr × Nat) := [(0, .lconst 0, 1), (1, .lstore_n 1, 1), (2, .aload_n 0, 1), (3, .getfield 48, 3), (6, .aload_n 0, 1), (7, .getfield 36, 3), (10, .if_icmp .ge 56, 3), (13, .aload_n 0, 1), (14, .aload_n 0, 1), (15, .getfield 48, 3), (18, .invokevirtual 81, 3), (21, .invokestatic 85, 3), (24, .ifCond .eq 42, 3), (27, .lload_n 1, 1), (28, .ldc2_w 116, 3), (31, .lmul, 1), (32, .aload_n 0, 1), (33, .aload_n 0, 1), (34, .getfield 48, 3), (37, .invokevirtual 81, 3), (40, .i2l, 1), (41, .ladd, 1), (42, .ldc2_w 118, 3), (45, .lsub, 1), (46, .ldc2_w 120, 3)]
set_option maxRecDepth 20000 in
theorem dn_127_0_0_ok : dn_127_0_0.all (fun q => decide (decode (xm_b n_127) q.1 = .ok (q.2.1, q.2.2))) = true := xa_g_ok (by decide +kernel)
def dn_127_0_1 : List (Nat × Instr × Nat) := [(49, .invokestatic 122, 3), (52, .lstore_n 1, 1), (53, .aload_n 0, 1), (54, .dup, 1), (55, .getfield 48, 3), (58, .iconst 1, 1), (59, .iadd, 1), (60, .putfield 48, 3), (63, .goto (-61), 3), (66, .aload_n 0, 1), (67, .lload_n 1, 1), (68, .ldc2_w 130, 3), (71, .lcmp, 1), (72, .ifCond .le 7, 3), (75, .iconst 3, 1), (76, .goto 4, 3), (79, .iconst 2, 1), (80, .putfield 57, 3), (83, .aload_n 0, 1), (84, .lload_n 1, 1), (85, .l2i, 1), (86, .putfield 132, 3), (89, .return_, 1)]
set_option maxRecDepth 20000 in
theorem dn_127_0_1_ok : dn_127_0_1.all (fun q => decide (decode (xm_b n_127) q.1 = .ok (q.2.1, q.2.2))) = true := xa_g_ok (by decide +kernel)
def te_127_0 : Nat → eE := (e_T 18 (e_T 6 (e_T 1 (e_T 0 (e_L 0 (0, ei_push (4, 0) 1, 0, 0)) (e_L 1 (0, ei_stor 1 1 2, 0, 0))) (e_T 2 (e_L 2 (0, ei_load 0 2 3, 0, 0)) (e_T 3 (e_L 3 (0, ei_getf eft elay 8 7 6, 0, 0)) (e_L 6 (0, ei_load 0 2 7, 0, 0))))) (e_T 13 (e_T 7 (e_L 7 (0, ei_getf eft elay 8 0 10, 0, 0)) (e_T 10 (e_L 10 (0, ei_if2 3 66 13, 0, 0)) (e_L 13 (0, ei_load 0 2 14, 0, 0)))) (e_T 14 (e_L 14 (0, ei_load 0 2 15, 0, 0)) (e_T 15 (e_L 15 (0, ei_getf eft elay 8 7 18, 0, 0)) (e_L 18 (2, e_nof, 120, 2)))))) (e_T 32 (e_T 27 (e_T 21 (e_L 21 (2, e_nof, 121, 1)) (e_T 24 (e_L 24 (0, ei_if1 0 66 27, 0, 0)) (e_L 27 (0, ei_load 1 1 28, 0, 0)))) (e_T 28 (e_L 28 (0, ei_push (4, 10) 31, 0, 0)) (e_T 31 (e_L 31 (0, ei_binL eG_mul 32, 0, 0)) (e_L 32 (0, ei_load 0 2 33, 0, 0))))) (e_T 37 (e_T 33 (e_L 33 (0, ei_load 0 2 34, 0, 0)) (e_T 34 (e_L 34 (0, ei_getf eft elay 8 7 37, 0, 0)) (e_L 37 (2, e_nof, 120, 2)))) (e_T 40 (e_L 40 (0, ei_un (fun x => (4, x)) 41, 0, 0)) (e_T 41 (e_L 41 (0, ei_binL eG_add 42, 0, 0)) (e_L 42 (0, ei_push (4, 48) 45, 0, 0)))))))
set_option maxRecDepth 20000 in
set_option maxHeartbeats 4000000 in
theorem te_127_0_ok : ∀ pc, e_EOq eft cls elay eI n_127 pc (te_127_0 pc) :=
  (e_Tok2
  (e_Tok2
  (e_Tok2
  (e_Tok2
  (e_Lok (ps_lconst_0 (x_dk dn_127_0_0_ok 0 rfl)))
  (e_Lok (e_st (I := eI) (er_lstore_n (i := 1) (x_dk dn_127_0_0_ok 1 rfl) (by decide +kernel)) nx_stor)))
  (e_Tok2
  (e_Lok (ld_aload_n_0 (x_dk dn_127_0_0_ok 2 rfl)))
  (e_Tok2
  (e_Lok (lk_8_48g ho_127 (x_dk dn_127_0_0_ok 3 rfl)))
  (e_Lok (ld_aload_n_0 (x_dk dn_127_0_0_ok 4 rfl))))))
  (e_Tok2
  (e_Tok2
  (e_Lok (lk_8_36g ho_127 (x_dk dn_127_0_0_ok 5 rfl)))
  (e_Tok2
  (e_Lok (e_st (I := eI) (er_icmpge (off := 56) (tg := 66) (x_dk dn_127_0_0_ok 6 rfl) (by decide)) nx_if2))
  (e_Lok (ld_aload_n_0 (x_dk dn_127_0_0_ok 7 rfl)))))
  (e_Tok2
  (e_Lok (ld_aload_n_0 (x_dk dn_127_0_0_ok 8 rfl)))
  (e_Tok2
  (e_Lok (lk_8_48g ho_127 (x_dk dn_127_0_0_ok 9 rfl)))
  (e_Lok (lk_8_81 ho_127 (x_dk dn_127_0_0_ok 10 rfl)))))))
  (e_Tok2
  (e_Tok2
  (e_Tok2
  (e_Lok (lk_8_85 ho_127 (x_dk dn_127_0_0_ok 11 rfl)))
  (e_Tok2
  (e_Lok (e_st (I := eI) (er_ifeq (off := 42) (tg := 66) (x_dk dn_127_0_0_ok 12 rfl) (by decide)) nx_if1))
  (e_Lok (ld_lload_n_1 (x_dk dn_127_0_0_ok 13 rfl)))))
  (e_Tok2
  (e_Lok (e_st (I := eI) (er_ldc2 (ix := 116) (z := 10) (v := 10) (x_dk dn_127_0_0_ok 14 rfl) (in_t5 (List.mem_of_getElem? (i := 96) rfl) rfl) (by decide)) (nx_push (Or.inl rfl))))
  (e_Tok2
  (e_Lok (e_st (I := eI) (er_lmul (x_dk dn_127_0_0_ok 15 rfl)) (nx_binL bG_lmul)))
  (e_Lok (ld_aload_n_0 (x_dk dn_127_0_0_ok 16 rfl))))))
  (e_Tok2
  (e_Tok2
  (e_Lok (ld_aload_n_0 (x_dk dn_127_0_0_ok 17 rfl)))
  (e_Tok2
  (e_Lok (lk_8_48g ho_127 (x_dk dn_127_0_0_ok 18 rfl)))
  (e_Lok (lk_8_81 ho_127 (x_dk dn_127_0_0_ok 19 rfl)))))
  (e_Tok2
  (e_Lok (e_st (I := eI) (er_i2l (x_dk dn_127_0_0_ok 20 rfl)) (nx_un (fun _ => rfl))))
  (e_Tok2
  (e_Lok (e_st (I := eI) (er_ladd (x_dk dn_127_0_0_ok 21 rfl)) (nx_binL bG_ladd)))
  (e_Lok (e_st (I := eI) (er_ldc2 (ix := 118) (z := 48) (v := 48) (x_dk dn_127_0_0_ok 22 rfl) (in_t5 (List.mem_of_getElem? (i := 97) rfl) rfl) (by decide)) (nx_push (Or.inl rfl)))))))))
def te_127_23 : Nat → eE := (e_T 67 (e_T 55 (e_T 52 (e_T 45 (e_L 45 (0, ei_binL eG_sub 46, 0, 0)) (e_T 46 (e_L 46 (0, ei_push (4, 4294967296) 49, 0, 0)) (e_L 52 (0, ei_stor 1 1 53, 0, 0)))) (e_T 53 (e_L 53 (0, ei_load 0 2 54, 0, 0)) (e_T 54 (e_L 54 (0, ei_stk ef_dup 55, 0, 0)) (e_L 55 (0, ei_getf eft elay 8 7 58, 0, 0))))) (e_T 60 (e_T 58 (e_L 58 (0, ei_push (0, 1) 59, 0, 0)) (e_T 59 (e_L 59 (0, ei_bin eF_add 60, 0, 0)) (e_L 60 (0, ei_putf eft elay 8 7 0 63, 0, 0)))) (e_T 63 (e_L 63 (0, ei_goto 2, 0, 0)) (e_T 66 (e_L 66 (0, ei_load 0 2 67, 0, 0)) (e_L 67 (0, ei_load 1 1 68, 0, 0)))))) (e_T 79 (e_T 72 (e_T 68 (e_L 68 (0, ei_push (4, 2147483647) 71, 0, 0)) (e_T 71 (e_L 71 (0, ei_binL eG_cmp 72, 0, 0)) (e_L 72 (0, ei_if1 5 79 75, 0, 0)))) (e_T 75 (e_L 75 (0, ei_push (0, 3) 76, 0, 0)) (e_T 76 (e_L 76 (0, ei_goto 80, 0, 0)) (e_L 79 (0, ei_push (0, 2) 80, 0, 0))))) (e_T 84 (e_T 80 (e_L 80 (0, ei_putf eft elay 8 5 0 83, 0, 0)) (e_T 83 (e_L 83 (0, ei_load 0 2 84, 0, 0)) (e_L 84 (0, ei_load 1 1 85, 0, 0)))) (e_T 85 (e_L 85 (0, ei_unL (fun x => (0, e32 x)) 86, 0, 0)) (e_T 86 (e_L 86 (0, ei_putf eft elay 8 8 0 89, 0, 0)) (e_L 89 (1, e_nof, 0, 0)))))))
set_option maxRecDepth 20000 in
set_option maxHeartbeats 4000000 in
theorem te_127_23_ok : ∀ pc, e_EOq eft cls elay eI n_127 pc (te_127_23 pc) :=
  (e_Tok2
  (e_Tok2
  (e_Tok2
  (e_Tok2
  (e_Lok (e_st (I := eI) (er_lsub (x_dk dn_127_0_0_ok 23 rfl)) (nx_binL bG_lsub)))
  (e_Tok2
  (e_Lok (e_st (I := eI) (er_ldc2 (ix := 120) (z := 4294967296) (v := 4294967296) (x_dk dn_127_0_0_ok 24 rfl) (in_t5 (List.mem_of_getElem? (i := 98) rfl) rfl) (by decide)) (nx_push (Or.inl rfl))))
  (e_Lok (e_st (I := eI) (er_lstore_n (i := 1) (x_dk dn_127_0_1_ok 1 rfl) (by decide +kernel)) nx_stor))))
  (e_Tok2
  (e_Lok (ld_aload_n_0 (x_dk dn_127_0_1_ok 2 rfl)))
  (e_Tok2
  (e_Lok (e_st (I := eI) (er_dup (x_dk dn_127_0_1_ok 3 rfl)) (nx_stk bf_dup)))
  (e_Lok (lk_8_48g ho_127 (x_dk dn_127_0_1_ok 4 rfl))))))
  (e_Tok2
  (e_Tok2
  (e_Lok (ps_iconst_1 (x_dk dn_127_0_1_ok 5 rfl)))
  (e_Tok2
  (e_Lok (sm_iadd (x_dk dn_127_0_1_ok 6 rfl)))
  (e_Lok (lk_8_48p ho_127 (x_dk dn_127_0_1_ok 7 rfl)))))
  (e_Tok2
  (e_Lok (e_st (I := eI) (er_goto (off := (-61)) (tg := 2) (x_dk dn_127_0_1_ok 8 rfl) (by decide)) nx_goto))
  (e_Tok2
  (e_Lok (ld_aload_n_0 (x_dk dn_127_0_1_ok 9 rfl)))
  (e_Lok (ld_lload_n_1 (x_dk dn_127_0_1_ok 10 rfl)))))))
  (e_Tok2
  (e_Tok2
  (e_Tok2
  (e_Lok (e_st (I := eI) (er_ldc2 (ix := 130) (z := 2147483647) (v := 2147483647) (x_dk dn_127_0_1_ok 11 rfl) (in_t5 (List.mem_of_getElem? (i := 102) rfl) rfl) (by decide)) (nx_push (Or.inl rfl))))
  (e_Tok2
  (e_Lok (e_st (I := eI) (er_lcmp (x_dk dn_127_0_1_ok 12 rfl)) (nx_binL bG_lcmp)))
  (e_Lok (e_st (I := eI) (er_ifle (off := 7) (tg := 79) (x_dk dn_127_0_1_ok 13 rfl) (by decide)) nx_if1))))
  (e_Tok2
  (e_Lok (ps_iconst_3 (x_dk dn_127_0_1_ok 14 rfl)))
  (e_Tok2
  (e_Lok (e_st (I := eI) (er_goto (off := 4) (tg := 80) (x_dk dn_127_0_1_ok 15 rfl) (by decide)) nx_goto))
  (e_Lok (ps_iconst_2 (x_dk dn_127_0_1_ok 16 rfl))))))
  (e_Tok2
  (e_Tok2
  (e_Lok (lk_8_57p ho_127 (x_dk dn_127_0_1_ok 17 rfl)))
  (e_Tok2
  (e_Lok (ld_aload_n_0 (x_dk dn_127_0_1_ok 18 rfl)))
  (e_Lok (ld_lload_n_1 (x_dk dn_127_0_1_ok 19 rfl)))))
  (e_Tok2
  (e_Lok (e_st (I := eI) (er_l2i (x_dk dn_127_0_1_ok 20 rfl)) (nx_unL (fun _ => rfl))))
  (e_Tok2
  (e_Lok (lk_8_132p ho_127 (x_dk dn_127_0_1_ok 21 rfl)))
  (e_Lok (e_rt (I := eI) (k := 0) ⟨(x_dk dn_127_0_1_ok 22 rfl), rfl⟩)))))))
def te_127 : Nat → eE := (e_T 42 te_127_0 te_127_23)
theorem te_127_ok : ∀ pc, e_EOq eft cls elay eI n_127 pc (te_127 pc) := (e_Tok2 (te_127_0_ok) (te_127_23_ok))
theorem ho_128 : (xm_y n_128).cls = "RobotCellHouse$Reader" := rfl
def dn_128_0_0 : List (Nat × Instr × Nat) := [(0, .aload_n 0, 1), (1, .dup, 1), (2, .getfield 48, 3), (5, .iconst 1, 1), (6, .iadd, 1), (7, .putfield 48, 3), (10, .ldc 135, 2), (12, .iload_n 1, 1), (13, .i2c, 1), (14, .invokevirtual 137, 3), (17, .istore_n 2, 1), (18, .aload_n 0, 1), (19, .iload_n 2, 1), (20, .ifCond .ge 7, 3), (23, .iconst 3, 1), (24, .goto 7, 3), (27, .bipush 8, 2), (29, .iload_n 2, 1), (30, .iadd, 1), (31, .putfield 57, 3), (34, .aload_n 0, 1), (35, .aload_n 0, 1), (36, .getfield 48, 3), (39, .invokevirtual 81, 3), (42, .bipush 61, 2)]
set_option maxRecDepth 20000 in
theorem dn_128_0_0_ok : dn_128_0_0.all (fun q => decide (decode (xm_b n_128) q.1 = .ok (q.2.1, q.2.2))) = true := xa_g_ok (by decide +kernel)
def dn_128_0_1 : List (Nat × Instr × Nat) := [(44, .if_icmp .eq 4, 3), (47, .return_, 1), (48, .iload_n 1, 1), (49, .bipush 33, 2), (51, .if_icmp .ne 11, 3), (54, .aload_n 0, 1), (55, .iconst 5, 1), (56, .putfield 57, 3), (59, .goto 34, 3), (62, .iload_n 1, 1), (63, .bipush 60, 2), (65, .if_icmp .ne 12, 3), (68, .aload_n 0, 1), (69, .bipush 6, 2), (71, .putfield 57, 3), (74, .goto 19, 3), (77, .iload_n 1, 1), (78, .bipush 62, 2), (80, .if_icmp .ne 12, 3), (83, .aload_n 0, 1), (84, .bipush 7, 2), (86, .putfield 57, 3), (89, .goto 4, 3), (92, .return_, 1), (93, .aload_n 0, 1)]
set_option maxRecDepth 20000 in
theorem dn_128_0_1_ok : dn_128_0_1.all (fun q => decide (decode (xm_b n_128) q.1 = .ok (q.2.1, q.2.2))) = true := xa_g_ok (by decide +kernel)
def dn_128_0_2 : List (Nat × Instr × Nat) := [(94, .dup, 1), (95, .getfield 48, 3), (98, .iconst 1, 1), (99, .iadd, 1), (100, .putfield 48, 3), (103, .return_, 1)]
set_option maxRecDepth 20000 in
theorem dn_128_0_2_ok : dn_128_0_2.all (fun q => decide (decode (xm_b n_128) q.1 = .ok (q.2.1, q.2.2))) = true := xa_g_ok (by decide +kernel)
def te_128_0 : Nat → eE := (e_T 23 (e_T 7 (e_T 2 (e_T 0 (e_L 0 (0, ei_load 0 2 1, 0, 0)) (e_T 1 (e_L 1 (0, ei_stk ef_dup 2, 0, 0)) (e_L 2 (0, ei_getf eft elay 8 7 5, 0, 0)))) (e_T 5 (e_L 5 (0, ei_push (0, 1) 6, 0, 0)) (e_T 6 (e_L 6 (0, ei_bin eF_add 7, 0, 0)) (e_L 7 (0, ei_putf eft elay 8 7 0 10, 0, 0))))) (e_T 17 (e_T 12 (e_L 12 (0, ei_load 1 0 13, 0, 0)) (e_T 13 (e_L 13 (0, ei_un (fun x => (0, ((Int32.ofInt x).toUInt32 % 65536).toInt32.toInt)) 14, 0, 0)) (e_L 17 (0, ei_stor 2 0 18, 0, 0)))) (e_T 19 (e_T 18 (e_L 18 (0, ei_load 0 2 19, 0, 0)) (e_L 19 (0, ei_load 2 0 20, 0, 0))) (e_T 20 (e_L 20 (0, ei_if1 3 27 23, 0, 0)) (e_L 23 (0, ei_push (0, 3) 24, 0, 0)))))) (e_T 35 (e_T 29 (e_T 24 (e_L 24 (0, ei_goto 31, 0, 0)) (e_T 27 (e_L 27 (0, ei_push (0, 8) 29, 0, 0)) (e_L 29 (0, ei_load 2 0 30, 0, 0)))) (e_T 31 (e_T 30 (e_L 30 (0, ei_bin eF_add 31, 0, 0)) (e_L 31 (0, ei_putf eft elay 8 5 0 34, 0, 0))) (e_T 34 (e_L 34 (0, ei_load 0 2 35, 0, 0)) (e_L 35 (0, ei_load 0 2 36, 0, 0))))) (e_T 42 (e_T 36 (e_L 36 (0, ei_getf eft elay 8 7 39, 0, 0)) (e_T 39 (e_L 39 (2, e_nof, 120, 2)) (e_L 42 (0, ei_push (0, 61) 44, 0, 0)))) (e_T 47 (e_T 44 (e_L 44 (0, ei_if2 0 48 47, 0, 0)) (e_L 47 (1, e_nof, 0, 0))) (e_T 48 (e_L 48 (0, ei_load 1 0 49, 0, 0)) (e_L 49 (0, ei_push (0, 33) 51, 0, 0)))))))
set_option maxRecDepth 20000 in
set_option maxHeartbeats 4000000 in
theorem te_128_0_ok : ∀ pc, e_EOq eft cls elay eI n_128 pc (te_128_0 pc) :=
  (e_Tok2
  (e_Tok2
  (e_Tok2
  (e_Tok2
  (e_Lok (ld_aload_n_0 (x_dk dn_128_0_0_ok 0 rfl)))
  (e_Tok2
  (e_Lok (e_st (I := eI) (er_dup (x_dk dn_128_0_0_ok 1 rfl)) (nx_stk bf_dup)))
  (e_Lok (lk_8_48g ho_128 (x_dk dn_128_0_0_ok 2 rfl)))))
  (e_Tok2
  (e_Lok (ps_iconst_1 (x_dk dn_128_0_0_ok 3 rfl)))
  (e_Tok2
  (e_Lok (sm_iadd (x_dk dn_128_0_0_ok 4 rfl)))
  (e_Lok (lk_8_48p ho_128 (x_dk dn_128_0_0_ok 5 rfl))))))
  (e_Tok2
  (e_Tok2
  (e_Lok (ld_iload_n_1 (x_dk dn_128_0_0_ok 7 rfl)))
  (e_Tok2
  (e_Lok (e_st (I := eI) (er_i2c (x_dk dn_128_0_0_ok 8 rfl)) (nx_un (fun _ => rfl))))
  (e_Lok (e_st (I := eI) (er_istore_n (i := 2) (x_dk dn_128_0_0_ok 10 rfl) (by decide +kernel)) nx_stor))))
  (e_Tok2
  (e_Tok2
  (e_Lok (ld_aload_n_0 (x_dk dn_128_0_0_ok 11 rfl)))
  (e_Lok (ld_iload_n_2 (x_dk dn_128_0_0_ok 12 rfl))))
  (e_Tok2
  (e_Lok (e_st (I := eI) (er_ifge (off := 7) (tg := 27) (x_dk dn_128_0_0_ok 13 rfl) (by decide)) nx_if1))
  (e_Lok (ps_iconst_3 (x_dk dn_128_0_0_ok 14 rfl)))))))
  (e_Tok2
  (e_Tok2
  (e_Tok2
  (e_Lok (e_st (I := eI) (er_goto (off := 7) (tg := 31) (x_dk dn_128_0_0_ok 15 rfl) (by decide)) nx_goto))
  (e_Tok2
  (e_Lok (ps_bipush_8 (x_dk dn_128_0_0_ok 16 rfl)))
  (e_Lok (ld_iload_n_2 (x_dk dn_128_0_0_ok 17 rfl)))))
  (e_Tok2
  (e_Tok2
  (e_Lok (sm_iadd (x_dk dn_128_0_0_ok 18 rfl)))
  (e_Lok (lk_8_57p ho_128 (x_dk dn_128_0_0_ok 19 rfl))))
  (e_Tok2
  (e_Lok (ld_aload_n_0 (x_dk dn_128_0_0_ok 20 rfl)))
  (e_Lok (ld_aload_n_0 (x_dk dn_128_0_0_ok 21 rfl))))))
  (e_Tok2
  (e_Tok2
  (e_Lok (lk_8_48g ho_128 (x_dk dn_128_0_0_ok 22 rfl)))
  (e_Tok2
  (e_Lok (lk_8_81 ho_128 (x_dk dn_128_0_0_ok 23 rfl)))
  (e_Lok (ps_bipush_61 (x_dk dn_128_0_0_ok 24 rfl)))))
  (e_Tok2
  (e_Tok2
  (e_Lok (e_st (I := eI) (er_icmpeq (off := 4) (tg := 48) (x_dk dn_128_0_1_ok 0 rfl) (by decide)) nx_if2))
  (e_Lok (e_rt (I := eI) (k := 0) ⟨(x_dk dn_128_0_1_ok 1 rfl), rfl⟩)))
  (e_Tok2
  (e_Lok (ld_iload_n_1 (x_dk dn_128_0_1_ok 2 rfl)))
  (e_Lok (ps_bipush_33 (x_dk dn_128_0_1_ok 3 rfl))))))))
def te_128_27 : Nat → eE := (e_T 77 (e_T 62 (e_T 55 (e_T 51 (e_L 51 (0, ei_if2 1 62 54, 0, 0)) (e_T 54 (e_L 54 (0, ei_load 0 2 55, 0, 0)) (e_L 55 (0, ei_push (0, 5) 56, 0, 0)))) (e_T 56 (e_L 56 (0, ei_putf eft elay 8 5 0 59, 0, 0)) (e_T 59 (e_L 59 (0, ei_goto 93, 0, 0)) (e_L 62 (0, ei_load 1 0 63, 0, 0))))) (e_T 68 (e_T 63 (e_L 63 (0, ei_push (0, 60) 65, 0, 0)) (e_T 65 (e_L 65 (0, ei_if2 1 77 68, 0, 0)) (e_L 68 (0, ei_load 0 2 69, 0, 0)))) (e_T 71 (e_T 69 (e_L 69 (0, ei_push (0, 6) 71, 0, 0)) (e_L 71 (0, ei_putf eft elay 8 5 0 74, 0, 0))) (e_T 74 (e_L 74 (0, ei_goto 93, 0, 0)) (e_L 77 (0, ei_load 1 0 78, 0, 0)))))) (e_T 92 (e_T 83 (e_T 78 (e_L 78 (0, ei_push (0, 62) 80, 0, 0)) (e_T 80 (e_L 80 (0, ei_if2 1 92 83, 0, 0)) (e_L 83 (0, ei_load 0 2 84, 0, 0)))) (e_T 86 (e_T 84 (e_L 84 (0, ei_push (0, 7) 86, 0, 0)) (e_L 86 (0, ei_putf eft elay 8 5 0 89, 0, 0))) (e_T 89 (e_L 89 (0, ei_goto 93, 0, 0)) (e_L 92 (1, e_nof, 0, 0))))) (e_T 95 (e_T 93 (e_L 93 (0, ei_load 0 2 94, 0, 0)) (e_T 94 (e_L 94 (0, ei_stk ef_dup 95, 0, 0)) (e_L 95 (0, ei_getf eft elay 8 7 98, 0, 0)))) (e_T 99 (e_T 98 (e_L 98 (0, ei_push (0, 1) 99, 0, 0)) (e_L 99 (0, ei_bin eF_add 100, 0, 0))) (e_T 100 (e_L 100 (0, ei_putf eft elay 8 7 0 103, 0, 0)) (e_L 103 (1, e_nof, 0, 0)))))))
set_option maxRecDepth 20000 in
set_option maxHeartbeats 4000000 in
theorem te_128_27_ok : ∀ pc, e_EOq eft cls elay eI n_128 pc (te_128_27 pc) :=
  (e_Tok2
  (e_Tok2
  (e_Tok2
  (e_Tok2
  (e_Lok (e_st (I := eI) (er_icmpne (off := 11) (tg := 62) (x_dk dn_128_0_1_ok 4 rfl) (by decide)) nx_if2))
  (e_Tok2
  (e_Lok (ld_aload_n_0 (x_dk dn_128_0_1_ok 5 rfl)))
  (e_Lok (ps_iconst_5 (x_dk dn_128_0_1_ok 6 rfl)))))
  (e_Tok2
  (e_Lok (lk_8_57p ho_128 (x_dk dn_128_0_1_ok 7 rfl)))
  (e_Tok2
  (e_Lok (e_st (I := eI) (er_goto (off := 34) (tg := 93) (x_dk dn_128_0_1_ok 8 rfl) (by decide)) nx_goto))
  (e_Lok (ld_iload_n_1 (x_dk dn_128_0_1_ok 9 rfl))))))
  (e_Tok2
  (e_Tok2
  (e_Lok (ps_bipush_60 (x_dk dn_128_0_1_ok 10 rfl)))
  (e_Tok2
  (e_Lok (e_st (I := eI) (er_icmpne (off := 12) (tg := 77) (x_dk dn_128_0_1_ok 11 rfl) (by decide)) nx_if2))
  (e_Lok (ld_aload_n_0 (x_dk dn_128_0_1_ok 12 rfl)))))
  (e_Tok2
  (e_Tok2
  (e_Lok (ps_bipush_6 (x_dk dn_128_0_1_ok 13 rfl)))
  (e_Lok (lk_8_57p ho_128 (x_dk dn_128_0_1_ok 14 rfl))))
  (e_Tok2
  (e_Lok (e_st (I := eI) (er_goto (off := 19) (tg := 93) (x_dk dn_128_0_1_ok 15 rfl) (by decide)) nx_goto))
  (e_Lok (ld_iload_n_1 (x_dk dn_128_0_1_ok 16 rfl)))))))
  (e_Tok2
  (e_Tok2
  (e_Tok2
  (e_Lok (ps_bipush_62 (x_dk dn_128_0_1_ok 17 rfl)))
  (e_Tok2
  (e_Lok (e_st (I := eI) (er_icmpne (off := 12) (tg := 92) (x_dk dn_128_0_1_ok 18 rfl) (by decide)) nx_if2))
  (e_Lok (ld_aload_n_0 (x_dk dn_128_0_1_ok 19 rfl)))))
  (e_Tok2
  (e_Tok2
  (e_Lok (ps_bipush_7 (x_dk dn_128_0_1_ok 20 rfl)))
  (e_Lok (lk_8_57p ho_128 (x_dk dn_128_0_1_ok 21 rfl))))
  (e_Tok2
  (e_Lok (e_st (I := eI) (er_goto (off := 4) (tg := 93) (x_dk dn_128_0_1_ok 22 rfl) (by decide)) nx_goto))
  (e_Lok (e_rt (I := eI) (k := 0) ⟨(x_dk dn_128_0_1_ok 23 rfl), rfl⟩)))))
  (e_Tok2
  (e_Tok2
  (e_Lok (ld_aload_n_0 (x_dk dn_128_0_1_ok 24 rfl)))
  (e_Tok2
  (e_Lok (e_st (I := eI) (er_dup (x_dk dn_128_0_2_ok 0 rfl)) (nx_stk bf_dup)))
  (e_Lok (lk_8_48g ho_128 (x_dk dn_128_0_2_ok 1 rfl)))))
  (e_Tok2
  (e_Tok2
  (e_Lok (ps_iconst_1 (x_dk dn_128_0_2_ok 2 rfl)))
  (e_Lok (sm_iadd (x_dk dn_128_0_2_ok 3 rfl))))
  (e_Tok2
  (e_Lok (lk_8_48p ho_128 (x_dk dn_128_0_2_ok 4 rfl)))
  (e_Lok (e_rt (I := eI) (k := 0) ⟨(x_dk dn_128_0_2_ok 5 rfl), rfl⟩)))))))
def te_128 : Nat → eE := (e_T 49 te_128_0 te_128_27)
theorem te_128_ok : ∀ pc, e_EOq eft cls elay eI n_128 pc (te_128 pc) := (e_Tok2 (te_128_0_ok) (te_128_27_ok))
theorem ho_249 : (xm_y n_249).cls = "RobotCellHouse" := rfl
def dn_249_0_0 : List (Nat × Instr × Nat) := [(0, .iload_n 0, 1), (1, .sipush 4095, 3), (4, .iand, 1), (5, .istore_n 1, 1), (6, .iload_n 1, 1), (7, .sipush 1024, 3), (10, .if_icmp .ge 9, 3), (13, .getstatic 407, 3), (16, .iload_n 1, 1), (17, .iaload, 1), (18, .ireturn, 1), (19, .iload_n 1, 1), (20, .sipush 2048, 3), (23, .if_icmp .ge 13, 3), (26, .getstatic 407, 3), (29, .sipush 2048, 3), (32, .iload_n 1, 1), (33, .isub, 1), (34, .iaload, 1), (35, .ireturn, 1), (36, .iload_n 1, 1), (37, .sipush 3072, 3), (40, .if_icmp .ge 14, 3), (43, .getstatic 407, 3), (46, .iload_n 1, 1)]
set_option maxRecDepth 20000 in
theorem dn_249_0_0_ok : dn_249_0_0.all (fun q => decide (decode (xm_b n_249) q.1 = .ok (q.2.1, q.2.2))) = true := xa_g_ok (by decide +kernel)
def dn_249_0_1 : List (Nat × Instr × Nat) := [(47, .sipush 2048, 3), (50, .isub, 1), (51, .iaload, 1), (52, .ineg, 1), (53, .ireturn, 1), (54, .getstatic 407, 3), (57, .sipush 4096, 3), (60, .iload_n 1, 1), (61, .isub, 1), (62, .iaload, 1), (63, .ineg, 1), (64, .ireturn, 1)]
set_option maxRecDepth 20000 in
theorem dn_249_0_1_ok : dn_249_0_1.all (fun q => decide (decode (xm_b n_249) q.1 = .ok (q.2.1, q.2.2))) = true := xa_g_ok (by decide +kernel)
def te_249_0 : Nat → eE := (e_T 33 (e_T 16 (e_T 5 (e_T 1 (e_T 0 (e_L 0 (0, ei_load 0 0 1, 0, 0)) (e_L 1 (0, ei_push (0, 4095) 4, 0, 0))) (e_T 4 (e_L 4 (0, ei_bin (eB (fun x y => x &&& y)) 5, 0, 0)) (e_L 5 (0, ei_stor 1 0 6, 0, 0)))) (e_T 7 (e_T 6 (e_L 6 (0, ei_load 1 0 7, 0, 0)) (e_L 7 (0, ei_push (0, 1024) 10, 0, 0))) (e_T 10 (e_L 10 (0, ei_if2 3 19 13, 0, 0)) (e_L 16 (0, ei_load 1 0 17, 0, 0))))) (e_T 20 (e_T 18 (e_T 17 (e_L 17 (0, ei_ald elay false 18, 0, 0)) (e_L 18 (1, e_nof, 1, 0))) (e_T 19 (e_L 19 (0, ei_load 1 0 20, 0, 0)) (e_L 20 (0, ei_push (0, 2048) 23, 0, 0)))) (e_T 29 (e_T 23 (e_L 23 (0, ei_if2 3 36 26, 0, 0)) (e_L 29 (0, ei_push (0, 2048) 32, 0, 0))) (e_T 32 (e_L 32 (0, ei_load 1 0 33, 0, 0)) (e_L 33 (0, ei_bin eF_sub 34, 0, 0)))))) (e_T 50 (e_T 37 (e_T 35 (e_T 34 (e_L 34 (0, ei_ald elay false 35, 0, 0)) (e_L 35 (1, e_nof, 1, 0))) (e_T 36 (e_L 36 (0, ei_load 1 0 37, 0, 0)) (e_L 37 (0, ei_push (0, 3072) 40, 0, 0)))) (e_T 46 (e_T 40 (e_L 40 (0, ei_if2 3 54 43, 0, 0)) (e_L 46 (0, ei_load 1 0 47, 0, 0))) (e_T 47 (e_L 47 (0, ei_push (0, 2048) 50, 0, 0)) (e_L 50 (0, ei_bin eF_sub 51, 0, 0))))) (e_T 57 (e_T 52 (e_T 51 (e_L 51 (0, ei_ald elay false 52, 0, 0)) (e_L 52 (0, ei_un (fun x => (0, e32 (-x))) 53, 0, 0))) (e_T 53 (e_L 53 (1, e_nof, 1, 0)) (e_L 57 (0, ei_push (0, 4096) 60, 0, 0)))) (e_T 61 (e_T 60 (e_L 60 (0, ei_load 1 0 61, 0, 0)) (e_L 61 (0, ei_bin eF_sub 62, 0, 0))) (e_T 62 (e_L 62 (0, ei_ald elay false 63, 0, 0)) (e_T 63 (e_L 63 (0, ei_un (fun x => (0, e32 (-x))) 64, 0, 0)) (e_L 64 (1, e_nof, 1, 0))))))))
set_option maxRecDepth 20000 in
set_option maxHeartbeats 4000000 in
theorem te_249_0_ok : ∀ pc, e_EOq eft cls elay eI n_249 pc (te_249_0 pc) :=
  (e_Tok2
  (e_Tok2
  (e_Tok2
  (e_Tok2
  (e_Tok2
  (e_Lok (ld_iload_n_0 (x_dk dn_249_0_0_ok 0 rfl)))
  (e_Lok (ps_sipush_4095 (x_dk dn_249_0_0_ok 1 rfl))))
  (e_Tok2
  (e_Lok (e_st (I := eI) (er_iand (x_dk dn_249_0_0_ok 2 rfl)) nx_bin))
  (e_Lok (e_st (I := eI) (er_istore_n (i := 1) (x_dk dn_249_0_0_ok 3 rfl) (by decide +kernel)) nx_stor))))
  (e_Tok2
  (e_Tok2
  (e_Lok (ld_iload_n_1 (x_dk dn_249_0_0_ok 4 rfl)))
  (e_Lok (ps_sipush_1024 (x_dk dn_249_0_0_ok 5 rfl))))
  (e_Tok2
  (e_Lok (e_st (I := eI) (er_icmpge (off := 9) (tg := 19) (x_dk dn_249_0_0_ok 6 rfl) (by decide)) nx_if2))
  (e_Lok (ld_iload_n_1 (x_dk dn_249_0_0_ok 8 rfl))))))
  (e_Tok2
  (e_Tok2
  (e_Tok2
  (e_Lok (sm_iaload (x_dk dn_249_0_0_ok 9 rfl)))
  (e_Lok (e_rt (I := eI) (k := 1) ⟨(x_dk dn_249_0_0_ok 10 rfl), rfl⟩)))
  (e_Tok2
  (e_Lok (ld_iload_n_1 (x_dk dn_249_0_0_ok 11 rfl)))
  (e_Lok (ps_sipush_2048 (x_dk dn_249_0_0_ok 12 rfl)))))
  (e_Tok2
  (e_Tok2
  (e_Lok (e_st (I := eI) (er_icmpge (off := 13) (tg := 36) (x_dk dn_249_0_0_ok 13 rfl) (by decide)) nx_if2))
  (e_Lok (ps_sipush_2048 (x_dk dn_249_0_0_ok 15 rfl))))
  (e_Tok2
  (e_Lok (ld_iload_n_1 (x_dk dn_249_0_0_ok 16 rfl)))
  (e_Lok (sm_isub (x_dk dn_249_0_0_ok 17 rfl)))))))
  (e_Tok2
  (e_Tok2
  (e_Tok2
  (e_Tok2
  (e_Lok (sm_iaload (x_dk dn_249_0_0_ok 18 rfl)))
  (e_Lok (e_rt (I := eI) (k := 1) ⟨(x_dk dn_249_0_0_ok 19 rfl), rfl⟩)))
  (e_Tok2
  (e_Lok (ld_iload_n_1 (x_dk dn_249_0_0_ok 20 rfl)))
  (e_Lok (ps_sipush_3072 (x_dk dn_249_0_0_ok 21 rfl)))))
  (e_Tok2
  (e_Tok2
  (e_Lok (e_st (I := eI) (er_icmpge (off := 14) (tg := 54) (x_dk dn_249_0_0_ok 22 rfl) (by decide)) nx_if2))
  (e_Lok (ld_iload_n_1 (x_dk dn_249_0_0_ok 24 rfl))))
  (e_Tok2
  (e_Lok (ps_sipush_2048 (x_dk dn_249_0_1_ok 0 rfl)))
  (e_Lok (sm_isub (x_dk dn_249_0_1_ok 1 rfl))))))
  (e_Tok2
  (e_Tok2
  (e_Tok2
  (e_Lok (sm_iaload (x_dk dn_249_0_1_ok 2 rfl)))
  (e_Lok (e_st (I := eI) (er_ineg (x_dk dn_249_0_1_ok 3 rfl)) (nx_un (fun _ => rfl)))))
  (e_Tok2
  (e_Lok (e_rt (I := eI) (k := 1) ⟨(x_dk dn_249_0_1_ok 4 rfl), rfl⟩))
  (e_Lok (ps_sipush_4096 (x_dk dn_249_0_1_ok 6 rfl)))))
  (e_Tok2
  (e_Tok2
  (e_Lok (ld_iload_n_1 (x_dk dn_249_0_1_ok 7 rfl)))
  (e_Lok (sm_isub (x_dk dn_249_0_1_ok 8 rfl))))
  (e_Tok2
  (e_Lok (sm_iaload (x_dk dn_249_0_1_ok 9 rfl)))
  (e_Tok2
  (e_Lok (e_st (I := eI) (er_ineg (x_dk dn_249_0_1_ok 10 rfl)) (nx_un (fun _ => rfl))))
  (e_Lok (e_rt (I := eI) (k := 1) ⟨(x_dk dn_249_0_1_ok 11 rfl), rfl⟩))))))))
def te_249 : Nat → eE := te_249_0
theorem te_249_ok : ∀ pc, e_EOq eft cls elay eI n_249 pc (te_249 pc) := te_249_0_ok
theorem ho_328 : (xm_y n_328).cls = "RobotCellHouseModel" := rfl
def dn_328_0_0 : List (Nat × Instr × Nat) := [(0, .aload_n 0, 1), (1, .getfield 491, 3), (4, .istore_n 1, 1), (5, .aload_n 0, 1), (6, .iload_n 1, 1), (7, .invokevirtual 488, 3), (10, .invokestatic 500, 3), (13, .ifCond .ne 14, 3), (16, .aload_n 0, 1), (17, .iload_n 1, 1), (18, .invokevirtual 488, 3), (21, .invokestatic 506, 3), (24, .ifCond .eq 9, 3), (27, .iinc 1 1, 3), (30, .goto (-25), 3), (33, .aload_n 0, 1), (34, .iload_n 1, 1), (35, .putfield 485, 3), (38, .aload_n 0, 1), (39, .iload_n 1, 1), (40, .aload_n 0, 1), (41, .getfield 491, 3), (44, .isub, 1), (45, .bipush 24, 2), (47, .if_icmp .le 7, 3)]
set_option maxRecDepth 20000 in
theorem dn_328_0_0_ok : dn_328_0_0.all (fun q => decide (decode (xm_b n_328) q.1 = .ok (q.2.1, q.2.2))) = true := xa_g_ok (by decide +kernel)
def dn_328_0_1 : List (Nat × Instr × Nat) := [(50, .iconst 5, 1), (51, .goto 4, 3), (54, .iconst 1, 1), (55, .putfield 497, 3), (58, .iconst 0, 1), (59, .istore_n 2, 1), (60, .iconst 0, 1), (61, .istore_n 3, 1), (62, .iload_n 2, 1), (63, .ldc_w 515, 3), (66, .invokevirtual 517, 3), (69, .if_icmp .ge 117, 3), (72, .iconst 0, 1), (73, .istore 4, 2), (75, .ldc_w 515, 3), (78, .iload_n 2, 1), (79, .iload 4, 2), (81, .iadd, 1), (82, .invokevirtual 522, 3), (85, .bipush 32, 2), (87, .if_icmp .eq 33, 3), (90, .ldc_w 515, 3), (93, .iload_n 2, 1), (94, .iload 4, 2), (96, .iadd, 1)]
set_option maxRecDepth 20000 in
theorem dn_328_0_1_ok : dn_328_0_1.all (fun q => decide (decode (xm_b n_328) q.1 = .ok (q.2.1, q.2.2))) = true := xa_g_ok (by decide +kernel)
def dn_328_0_2 : List (Nat × Instr × Nat) := [(97, .invokevirtual 522, 3), (100, .aload_n 0, 1), (101, .aload_n 0, 1), (102, .getfield 491, 3), (105, .iload 4, 2), (107, .iadd, 1), (108, .invokevirtual 488, 3), (111, .if_icmp .ne 9, 3), (114, .iinc 4 1, 3), (117, .goto (-42), 3), (120, .ldc_w 515, 3), (123, .iload_n 2, 1), (124, .iload 4, 2), (126, .iadd, 1), (127, .invokevirtual 522, 3), (130, .bipush 32, 2), (132, .if_icmp .ne 27, 3), (135, .iload 4, 2), (137, .aload_n 0, 1), (138, .getfield 485, 3), (141, .aload_n 0, 1), (142, .getfield 491, 3), (145, .isub, 1), (146, .if_icmp .ne 13, 3), (149, .aload_n 0, 1)]
set_option maxRecDepth 20000 in
theorem dn_328_0_2_ok : dn_328_0_2.all (fun q => decide (decode (xm_b n_328) q.1 = .ok (q.2.1, q.2.2))) = true := xa_g_ok (by decide +kernel)
def dn_328_0_3 : List (Nat × Instr × Nat) := [(150, .iconst 4, 1), (151, .putfield 497, 3), (154, .aload_n 0, 1), (155, .iload_n 3, 1), (156, .putfield 494, 3), (159, .ldc_w 515, 3), (162, .iload_n 2, 1), (163, .invokevirtual 522, 3), (166, .bipush 32, 2), (168, .if_icmp .eq 9, 3), (171, .iinc 2 1, 3), (174, .goto (-15), 3), (177, .iinc 2 1, 3), (180, .iinc 3 1, 3), (183, .goto (-121), 3), (186, .return_, 1)]
set_option maxRecDepth 20000 in
theorem dn_328_0_3_ok : dn_328_0_3.all (fun q => decide (decode (xm_b n_328) q.1 = .ok (q.2.1, q.2.2))) = true := xa_g_ok (by decide +kernel)
def te_328_0 : Nat → eE := (e_T 39 (e_T 17 (e_T 6 (e_T 1 (e_T 0 (e_L 0 (0, ei_load 0 2 1, 0, 0)) (e_L 1 (0, ei_getf eft elay 12 86 4, 0, 0))) (e_T 4 (e_L 4 (0, ei_stor 1 0 5, 0, 0)) (e_T 5 (e_L 5 (0, ei_load 0 2 6, 0, 0)) (e_L 6 (0, ei_load 1 0 7, 0, 0))))) (e_T 10 (e_T 7 (e_L 7 (2, e_nof, 326, 2)) (e_L 10 (2, e_nof, 324, 1))) (e_T 13 (e_L 13 (0, ei_if1 1 27 16, 0, 0)) (e_T 16 (e_L 16 (0, ei_load 0 2 17, 0, 0)) (e_L 17 (0, ei_load 1 0 18, 0, 0)))))) (e_T 30 (e_T 21 (e_T 18 (e_L 18 (2, e_nof, 326, 2)) (e_L 21 (2, e_nof, 325, 1))) (e_T 24 (e_L 24 (0, ei_if1 0 33 27, 0, 0)) (e_T 27 (e_L 27 (0, ei_inc 1 1 30, 0, 0)) (e_L 30 (0, ei_goto 5, 0, 0))))) (e_T 34 (e_T 33 (e_L 33 (0, ei_load 0 2 34, 0, 0)) (e_L 34 (0, ei_load 1 0 35, 0, 0))) (e_T 35 (e_L 35 (0, ei_putf eft elay 12 87 0 38, 0, 0)) (e_T 38 (e_L 38 (0, ei_load 0 2 39, 0, 0)) (e_L 39 (0, ei_load 1 0 40, 0, 0))))))) (e_T 58 (e_T 47 (e_T 41 (e_T 40 (e_L 40 (0, ei_load 0 2 41, 0, 0)) (e_L 41 (0, ei_getf eft elay 12 86 44, 0, 0))) (e_T 44 (e_L 44 (0, ei_bin eF_sub 45, 0, 0)) (e_T 45 (e_L 45 (0, ei_push (0, 24) 47, 0, 0)) (e_L 47 (0, ei_if2 5 54 50, 0, 0))))) (e_T 51 (e_T 50 (e_L 50 (0, ei_push (0, 5) 51, 0, 0)) (e_L 51 (0, ei_goto 55, 0, 0))) (e_T 54 (e_L 54 (0, ei_push (0, 1) 55, 0, 0)) (e_T 55 (e_L 55 (0, ei_putf eft elay 12 84 0 58, 0, 0)) (e_L 58 (0, ei_push (0, 0) 59, 0, 0)))))) (e_T 69 (e_T 60 (e_T 59 (e_L 59 (0, ei_stor 2 0 60, 0, 0)) (e_L 60 (0, ei_push (0, 0) 61, 0, 0))) (e_T 61 (e_L 61 (0, ei_stor 3 0 62, 0, 0)) (e_T 62 (e_L 62 (0, ei_load 2 0 63, 0, 0)) (e_L 69 (0, ei_if2 3 186 72, 0, 0))))) (e_T 73 (e_T 72 (e_L 72 (0, ei_push (0, 0) 73, 0, 0)) (e_L 73 (0, ei_stor 4 0 75, 0, 0))) (e_T 78 (e_L 78 (0, ei_load 2 0 79, 0, 0)) (e_T 79 (e_L 79 (0, ei_load 4 0 81, 0, 0)) (e_L 81 (0, ei_bin eF_add 82, 0, 0))))))))
set_option maxRecDepth 20000 in
set_option maxHeartbeats 4000000 in
theorem te_328_0_ok : ∀ pc, e_EOq eft cls elay eI n_328 pc (te_328_0 pc) :=
  (e_Tok2
  (e_Tok2
  (e_Tok2
  (e_Tok2
  (e_Tok2
  (e_Lok (ld_aload_n_0 (x_dk dn_328_0_0_ok 0 rfl)))
  (e_Lok (lk_12_491g ho_328 (x_dk dn_328_0_0_ok 1 rfl))))
  (e_Tok2
  (e_Lok (e_st (I := eI) (er_istore_n (i := 1) (x_dk dn_328_0_0_ok 2 rfl) (by decide +kernel)) nx_stor))
  (e_Tok2
  (e_Lok (ld_aload_n_0 (x_dk dn_328_0_0_ok 3 rfl)))
  (e_Lok (ld_iload_n_1 (x_dk dn_328_0_0_ok 4 rfl))))))
  (e_Tok2
  (e_Tok2
  (e_Lok (lk_12_488 ho_328 (x_dk dn_328_0_0_ok 5 rfl)))
  (e_Lok (lk_12_500 ho_328 (x_dk dn_328_0_0_ok 6 rfl))))
  (e_Tok2
  (e_Lok (e_st (I := eI) (er_ifne (off := 14) (tg := 27) (x_dk dn_328_0_0_ok 7 rfl) (by decide)) nx_if1))
  (e_Tok2
  (e_Lok (ld_aload_n_0 (x_dk dn_328_0_0_ok 8 rfl)))
  (e_Lok (ld_iload_n_1 (x_dk dn_328_0_0_ok 9 rfl)))))))
  (e_Tok2
  (e_Tok2
  (e_Tok2
  (e_Lok (lk_12_488 ho_328 (x_dk dn_328_0_0_ok 10 rfl)))
  (e_Lok (lk_12_506 ho_328 (x_dk dn_328_0_0_ok 11 rfl))))
  (e_Tok2
  (e_Lok (e_st (I := eI) (er_ifeq (off := 9) (tg := 33) (x_dk dn_328_0_0_ok 12 rfl) (by decide)) nx_if1))
  (e_Tok2
  (e_Lok (e_st (I := eI) (er_iinc (i := 1) (n := 1) (x_dk dn_328_0_0_ok 13 rfl) (by decide +kernel) (by decide)) nx_inc))
  (e_Lok (e_st (I := eI) (er_goto (off := (-25)) (tg := 5) (x_dk dn_328_0_0_ok 14 rfl) (by decide)) nx_goto)))))
  (e_Tok2
  (e_Tok2
  (e_Lok (ld_aload_n_0 (x_dk dn_328_0_0_ok 15 rfl)))
  (e_Lok (ld_iload_n_1 (x_dk dn_328_0_0_ok 16 rfl))))
  (e_Tok2
  (e_Lok (lk_12_485p ho_328 (x_dk dn_328_0_0_ok 17 rfl)))
  (e_Tok2
  (e_Lok (ld_aload_n_0 (x_dk dn_328_0_0_ok 18 rfl)))
  (e_Lok (ld_iload_n_1 (x_dk dn_328_0_0_ok 19 rfl))))))))
  (e_Tok2
  (e_Tok2
  (e_Tok2
  (e_Tok2
  (e_Lok (ld_aload_n_0 (x_dk dn_328_0_0_ok 20 rfl)))
  (e_Lok (lk_12_491g ho_328 (x_dk dn_328_0_0_ok 21 rfl))))
  (e_Tok2
  (e_Lok (sm_isub (x_dk dn_328_0_0_ok 22 rfl)))
  (e_Tok2
  (e_Lok (ps_bipush_24 (x_dk dn_328_0_0_ok 23 rfl)))
  (e_Lok (e_st (I := eI) (er_icmple (off := 7) (tg := 54) (x_dk dn_328_0_0_ok 24 rfl) (by decide)) nx_if2)))))
  (e_Tok2
  (e_Tok2
  (e_Lok (ps_iconst_5 (x_dk dn_328_0_1_ok 0 rfl)))
  (e_Lok (e_st (I := eI) (er_goto (off := 4) (tg := 55) (x_dk dn_328_0_1_ok 1 rfl) (by decide)) nx_goto)))
  (e_Tok2
  (e_Lok (ps_iconst_1 (x_dk dn_328_0_1_ok 2 rfl)))
  (e_Tok2
  (e_Lok (lk_12_497p ho_328 (x_dk dn_328_0_1_ok 3 rfl)))
  (e_Lok (ps_iconst_0 (x_dk dn_328_0_1_ok 4 rfl)))))))
  (e_Tok2
  (e_Tok2
  (e_Tok2
  (e_Lok (e_st (I := eI) (er_istore_n (i := 2) (x_dk dn_328_0_1_ok 5 rfl) (by decide +kernel)) nx_stor))
  (e_Lok (ps_iconst_0 (x_dk dn_328_0_1_ok 6 rfl))))
  (e_Tok2
  (e_Lok (e_st (I := eI) (er_istore_n (i := 3) (x_dk dn_328_0_1_ok 7 rfl) (by decide +kernel)) nx_stor))
  (e_Tok2
  (e_Lok (ld_iload_n_2 (x_dk dn_328_0_1_ok 8 rfl)))
  (e_Lok (e_st (I := eI) (er_icmpge (off := 117) (tg := 186) (x_dk dn_328_0_1_ok 11 rfl) (by decide)) nx_if2)))))
  (e_Tok2
  (e_Tok2
  (e_Lok (ps_iconst_0 (x_dk dn_328_0_1_ok 12 rfl)))
  (e_Lok (e_st (I := eI) (er_istore (i := 4) (x_dk dn_328_0_1_ok 13 rfl) (by decide +kernel)) nx_stor)))
  (e_Tok2
  (e_Lok (ld_iload_n_2 (x_dk dn_328_0_1_ok 15 rfl)))
  (e_Tok2
  (e_Lok (ld_iload_4 (x_dk dn_328_0_1_ok 16 rfl)))
  (e_Lok (sm_iadd (x_dk dn_328_0_1_ok 17 rfl)))))))))
def te_328_40 : Nat → eE := (e_T 107 (e_T 96 (e_T 87 (e_T 85 (e_L 85 (0, ei_push (0, 32) 87, 0, 0)) (e_L 87 (0, ei_if2 0 120 90, 0, 0))) (e_T 93 (e_L 93 (0, ei_load 2 0 94, 0, 0)) (e_T 94 (e_L 94 (0, ei_load 4 0 96, 0, 0)) (e_L 96 (0, ei_bin eF_add 97, 0, 0))))) (e_T 101 (e_T 100 (e_L 100 (0, ei_load 0 2 101, 0, 0)) (e_L 101 (0, ei_load 0 2 102, 0, 0))) (e_T 102 (e_L 102 (0, ei_getf eft elay 12 86 105, 0, 0)) (e_T 105 (e_L 105 (0, ei_load 4 0 107, 0, 0)) (e_L 107 (0, ei_bin eF_add 108, 0, 0)))))) (e_T 123 (e_T 111 (e_T 108 (e_L 108 (2, e_nof, 326, 2)) (e_L 111 (0, ei_if2 1 120 114, 0, 0))) (e_T 114 (e_L 114 (0, ei_inc 4 1 117, 0, 0)) (e_T 117 (e_L 117 (0, ei_goto 75, 0, 0)) (e_L 123 (0, ei_load 2 0 124, 0, 0))))) (e_T 126 (e_T 124 (e_L 124 (0, ei_load 4 0 126, 0, 0)) (e_L 126 (0, ei_bin eF_add 127, 0, 0))) (e_T 130 (e_L 130 (0, ei_push (0, 32) 132, 0, 0)) (e_T 132 (e_L 132 (0, ei_if2 1 159 135, 0, 0)) (e_L 135 (0, ei_load 4 0 137, 0, 0)))))))
set_option maxRecDepth 20000 in
set_option maxHeartbeats 4000000 in
theorem te_328_40_ok : ∀ pc, e_EOq eft cls elay eI n_328 pc (te_328_40 pc) :=
  (e_Tok2
  (e_Tok2
  (e_Tok2
  (e_Tok2
  (e_Lok (ps_bipush_32 (x_dk dn_328_0_1_ok 19 rfl)))
  (e_Lok (e_st (I := eI) (er_icmpeq (off := 33) (tg := 120) (x_dk dn_328_0_1_ok 20 rfl) (by decide)) nx_if2)))
  (e_Tok2
  (e_Lok (ld_iload_n_2 (x_dk dn_328_0_1_ok 22 rfl)))
  (e_Tok2
  (e_Lok (ld_iload_4 (x_dk dn_328_0_1_ok 23 rfl)))
  (e_Lok (sm_iadd (x_dk dn_328_0_1_ok 24 rfl))))))
  (e_Tok2
  (e_Tok2
  (e_Lok (ld_aload_n_0 (x_dk dn_328_0_2_ok 1 rfl)))
  (e_Lok (ld_aload_n_0 (x_dk dn_328_0_2_ok 2 rfl))))
  (e_Tok2
  (e_Lok (lk_12_491g ho_328 (x_dk dn_328_0_2_ok 3 rfl)))
  (e_Tok2
  (e_Lok (ld_iload_4 (x_dk dn_328_0_2_ok 4 rfl)))
  (e_Lok (sm_iadd (x_dk dn_328_0_2_ok 5 rfl)))))))
  (e_Tok2
  (e_Tok2
  (e_Tok2
  (e_Lok (lk_12_488 ho_328 (x_dk dn_328_0_2_ok 6 rfl)))
  (e_Lok (e_st (I := eI) (er_icmpne (off := 9) (tg := 120) (x_dk dn_328_0_2_ok 7 rfl) (by decide)) nx_if2)))
  (e_Tok2
  (e_Lok (e_st (I := eI) (er_iinc (i := 4) (n := 1) (x_dk dn_328_0_2_ok 8 rfl) (by decide +kernel) (by decide)) nx_inc))
  (e_Tok2
  (e_Lok (e_st (I := eI) (er_goto (off := (-42)) (tg := 75) (x_dk dn_328_0_2_ok 9 rfl) (by decide)) nx_goto))
  (e_Lok (ld_iload_n_2 (x_dk dn_328_0_2_ok 11 rfl))))))
  (e_Tok2
  (e_Tok2
  (e_Lok (ld_iload_4 (x_dk dn_328_0_2_ok 12 rfl)))
  (e_Lok (sm_iadd (x_dk dn_328_0_2_ok 13 rfl))))
  (e_Tok2
  (e_Lok (ps_bipush_32 (x_dk dn_328_0_2_ok 15 rfl)))
  (e_Tok2
  (e_Lok (e_st (I := eI) (er_icmpne (off := 27) (tg := 159) (x_dk dn_328_0_2_ok 16 rfl) (by decide)) nx_if2))
  (e_Lok (ld_iload_4 (x_dk dn_328_0_2_ok 17 rfl))))))))
def te_328_60 : Nat → eE := (e_T 154 (e_T 145 (e_T 138 (e_T 137 (e_L 137 (0, ei_load 0 2 138, 0, 0)) (e_L 138 (0, ei_getf eft elay 12 87 141, 0, 0))) (e_T 141 (e_L 141 (0, ei_load 0 2 142, 0, 0)) (e_T 142 (e_L 142 (0, ei_getf eft elay 12 86 145, 0, 0)) (e_L 145 (0, ei_bin eF_sub 146, 0, 0))))) (e_T 149 (e_T 146 (e_L 146 (0, ei_if2 1 159 149, 0, 0)) (e_L 149 (0, ei_load 0 2 150, 0, 0))) (e_T 150 (e_L 150 (0, ei_push (0, 4) 151, 0, 0)) (e_T 151 (e_L 151 (0, ei_putf eft elay 12 84 0 154, 0, 0)) (e_L 154 (0, ei_load 0 2 155, 0, 0)))))) (e_T 168 (e_T 156 (e_T 155 (e_L 155 (0, ei_load 3 0 156, 0, 0)) (e_L 156 (0, ei_putf eft elay 12 85 0 159, 0, 0))) (e_T 162 (e_L 162 (0, ei_load 2 0 163, 0, 0)) (e_T 166 (e_L 166 (0, ei_push (0, 32) 168, 0, 0)) (e_L 168 (0, ei_if2 0 177 171, 0, 0))))) (e_T 177 (e_T 171 (e_L 171 (0, ei_inc 2 1 174, 0, 0)) (e_T 174 (e_L 174 (0, ei_goto 159, 0, 0)) (e_L 177 (0, ei_inc 2 1 180, 0, 0)))) (e_T 180 (e_L 180 (0, ei_inc 3 1 183, 0, 0)) (e_T 183 (e_L 183 (0, ei_goto 62, 0, 0)) (e_L 186 (1, e_nof, 0, 0)))))))
set_option maxRecDepth 20000 in
set_option maxHeartbeats 4000000 in
theorem te_328_60_ok : ∀ pc, e_EOq eft cls elay eI n_328 pc (te_328_60 pc) :=
  (e_Tok2
  (e_Tok2
  (e_Tok2
  (e_Tok2
  (e_Lok (ld_aload_n_0 (x_dk dn_328_0_2_ok 18 rfl)))
  (e_Lok (lk_12_485g ho_328 (x_dk dn_328_0_2_ok 19 rfl))))
  (e_Tok2
  (e_Lok (ld_aload_n_0 (x_dk dn_328_0_2_ok 20 rfl)))
  (e_Tok2
  (e_Lok (lk_12_491g ho_328 (x_dk dn_328_0_2_ok 21 rfl)))
  (e_Lok (sm_isub (x_dk dn_328_0_2_ok 22 rfl))))))
  (e_Tok2
  (e_Tok2
  (e_Lok (e_st (I := eI) (er_icmpne (off := 13) (tg := 159) (x_dk dn_328_0_2_ok 23 rfl) (by decide)) nx_if2))
  (e_Lok (ld_aload_n_0 (x_dk dn_328_0_2_ok 24 rfl))))
  (e_Tok2
  (e_Lok (ps_iconst_4 (x_dk dn_328_0_3_ok 0 rfl)))
  (e_Tok2
  (e_Lok (lk_12_497p ho_328 (x_dk dn_328_0_3_ok 1 rfl)))
  (e_Lok (ld_aload_n_0 (x_dk dn_328_0_3_ok 2 rfl)))))))
  (e_Tok2
  (e_Tok2
  (e_Tok2
  (e_Lok (ld_iload_n_3 (x_dk dn_328_0_3_ok 3 rfl)))
  (e_Lok (lk_12_494p ho_328 (x_dk dn_328_0_3_ok 4 rfl))))
  (e_Tok2
  (e_Lok (ld_iload_n_2 (x_dk dn_328_0_3_ok 6 rfl)))
  (e_Tok2
  (e_Lok (ps_bipush_32 (x_dk dn_328_0_3_ok 8 rfl)))
  (e_Lok (e_st (I := eI) (er_icmpeq (off := 9) (tg := 177) (x_dk dn_328_0_3_ok 9 rfl) (by decide)) nx_if2)))))
  (e_Tok2
  (e_Tok2
  (e_Lok (e_st (I := eI) (er_iinc (i := 2) (n := 1) (x_dk dn_328_0_3_ok 10 rfl) (by decide +kernel) (by decide)) nx_inc))
  (e_Tok2
  (e_Lok (e_st (I := eI) (er_goto (off := (-15)) (tg := 159) (x_dk dn_328_0_3_ok 11 rfl) (by decide)) nx_goto))
  (e_Lok (e_st (I := eI) (er_iinc (i := 2) (n := 1) (x_dk dn_328_0_3_ok 12 rfl) (by decide +kernel) (by decide)) nx_inc))))
  (e_Tok2
  (e_Lok (e_st (I := eI) (er_iinc (i := 3) (n := 1) (x_dk dn_328_0_3_ok 13 rfl) (by decide +kernel) (by decide)) nx_inc))
  (e_Tok2
  (e_Lok (e_st (I := eI) (er_goto (off := (-121)) (tg := 62) (x_dk dn_328_0_3_ok 14 rfl) (by decide)) nx_goto))
  (e_Lok (e_rt (I := eI) (k := 0) ⟨(x_dk dn_328_0_3_ok 15 rfl), rfl⟩)))))))
def te_328 : Nat → eE := (e_T 81 te_328_0 (e_T 135 te_328_40 te_328_60))
theorem te_328_ok : ∀ pc, e_EOq eft cls elay eI n_328 pc (te_328 pc) := (e_Tok2 (te_328_0_ok) ((e_Tok2 (te_328_40_ok) (te_328_60_ok))))
end
