noncomputable section
theorem ho_176 : (xm_y n_176).cls = "RobotCellHouse$Shapes" := rfl
def dn_176_0_0 : List (Nat × Instr × Nat) := [(0, .iload 4, 2), (2, .i2l, 1), (3, .iload 4, 2), (5, .i2l, 1), (6, .lmul, 1), (7, .lstore 5, 2), (9, .iload_n 2, 1), (10, .i2l, 1), (11, .iload_n 2, 1), (12, .i2l, 1), (13, .lmul, 1), (14, .iload_n 3, 1), (15, .i2l, 1), (16, .iload_n 3, 1), (17, .i2l, 1), (18, .lmul, 1), (19, .ladd, 1), (20, .lstore 7, 2), (22, .iload_n 0, 1), (23, .i2l, 1), (24, .iload_n 2, 1), (25, .i2l, 1), (26, .lmul, 1), (27, .iload_n 1, 1), (28, .i2l, 1)]
set_option maxRecDepth 20000 in
theorem dn_176_0_0_ok : dn_176_0_0.all (fun q => decide (decode (xm_b n_176) q.1 = .ok (q.2.1, q.2.2))) = true := xa_g_ok (by decide +kernel)
def dn_176_0_1 : List (Nat × Instr × Nat) := [(29, .iload_n 3, 1), (30, .i2l, 1), (31, .lmul, 1), (32, .ladd, 1), (33, .lstore 9, 2), (35, .lload 9, 2), (37, .lconst 0, 1), (38, .lcmp, 1), (39, .ifCond .gt 17, 3), (42, .lload 7, 2), (44, .lload 5, 2), (46, .lcmp, 1), (47, .ifCond .gt 7, 3), (50, .iconst 1, 1), (51, .goto 4, 3), (54, .iconst 0, 1), (55, .ireturn, 1), (56, .iload_n 0, 1), (57, .i2l, 1), (58, .iload_n 0, 1), (59, .i2l, 1), (60, .lmul, 1), (61, .iload_n 1, 1), (62, .i2l, 1), (63, .iload_n 1, 1)]
set_option maxRecDepth 20000 in
theorem dn_176_0_1_ok : dn_176_0_1.all (fun q => decide (decode (xm_b n_176) q.1 = .ok (q.2.1, q.2.2))) = true := xa_g_ok (by decide +kernel)
def dn_176_0_2 : List (Nat × Instr × Nat) := [(64, .i2l, 1), (65, .lmul, 1), (66, .ladd, 1), (67, .lstore 11, 2), (69, .lload 9, 2), (71, .lload 11, 2), (73, .lcmp, 1), (74, .ifCond .lt 27, 3), (77, .lload 7, 2), (79, .ldc2_w 131, 3), (82, .lload 9, 2), (84, .lmul, 1), (85, .lsub, 1), (86, .lload 11, 2), (88, .ladd, 1), (89, .lload 5, 2), (91, .lcmp, 1), (92, .ifCond .gt 7, 3), (95, .iconst 1, 1), (96, .goto 4, 3), (99, .iconst 0, 1), (100, .ireturn, 1), (101, .iload_n 0, 1), (102, .i2l, 1), (103, .iload_n 3, 1)]
set_option maxRecDepth 20000 in
theorem dn_176_0_2_ok : dn_176_0_2.all (fun q => decide (decode (xm_b n_176) q.1 = .ok (q.2.1, q.2.2))) = true := xa_g_ok (by decide +kernel)
def dn_176_0_3 : List (Nat × Instr × Nat) := [(104, .i2l, 1), (105, .lmul, 1), (106, .iload_n 1, 1), (107, .i2l, 1), (108, .iload_n 2, 1), (109, .i2l, 1), (110, .lmul, 1), (111, .lsub, 1), (112, .lstore 13, 2), (114, .lload 13, 2), (116, .lload 13, 2), (118, .lmul, 1), (119, .lload 5, 2), (121, .lload 11, 2), (123, .lmul, 1), (124, .lcmp, 1), (125, .ifCond .gt 7, 3), (128, .iconst 1, 1), (129, .goto 4, 3), (132, .iconst 0, 1), (133, .ireturn, 1)]
set_option maxRecDepth 20000 in
theorem dn_176_0_3_ok : dn_176_0_3.all (fun q => decide (decode (xm_b n_176) q.1 = .ok (q.2.1, q.2.2))) = true := xa_g_ok (by decide +kernel)
def te_176_0 : Nat → eE := (e_T 14 (e_T 7 (e_T 3 (e_T 0 (e_L 0 (0, ei_load 4 0 2, 0, 0)) (e_T 2 (e_L 2 (0, ei_un (fun x => (4, x)) 3, 0, 0)) (e_L 3 (0, ei_load 4 0 5, 0, 0)))) (e_T 5 (e_L 5 (0, ei_un (fun x => (4, x)) 6, 0, 0)) (e_T 6 (e_L 6 (0, ei_binL eG_mul 7, 0, 0)) (e_L 7 (0, ei_stor 5 1 9, 0, 0))))) (e_T 11 (e_T 9 (e_L 9 (0, ei_load 2 0 10, 0, 0)) (e_T 10 (e_L 10 (0, ei_un (fun x => (4, x)) 11, 0, 0)) (e_L 11 (0, ei_load 2 0 12, 0, 0)))) (e_T 12 (e_L 12 (0, ei_un (fun x => (4, x)) 13, 0, 0)) (e_T 13 (e_L 13 (0, ei_binL eG_mul 14, 0, 0)) (e_L 14 (0, ei_load 3 0 15, 0, 0)))))) (e_T 20 (e_T 17 (e_T 15 (e_L 15 (0, ei_un (fun x => (4, x)) 16, 0, 0)) (e_T 16 (e_L 16 (0, ei_load 3 0 17, 0, 0)) (e_L 17 (0, ei_un (fun x => (4, x)) 18, 0, 0)))) (e_T 18 (e_L 18 (0, ei_binL eG_mul 19, 0, 0)) (e_T 19 (e_L 19 (0, ei_binL eG_add 20, 0, 0)) (e_L 20 (0, ei_stor 7 1 22, 0, 0))))) (e_T 24 (e_T 22 (e_L 22 (0, ei_load 0 0 23, 0, 0)) (e_T 23 (e_L 23 (0, ei_un (fun x => (4, x)) 24, 0, 0)) (e_L 24 (0, ei_load 2 0 25, 0, 0)))) (e_T 25 (e_L 25 (0, ei_un (fun x => (4, x)) 26, 0, 0)) (e_T 26 (e_L 26 (0, ei_binL eG_mul 27, 0, 0)) (e_L 27 (0, ei_load 1 0 28, 0, 0)))))))
set_option maxRecDepth 20000 in
set_option maxHeartbeats 4000000 in
theorem te_176_0_ok : ∀ pc, e_EOq eft cls elay eI n_176 pc (te_176_0 pc) :=
  (e_Tok2
  (e_Tok2
  (e_Tok2
  (e_Tok2
  (e_Lok (ld_iload_4 (x_dk dn_176_0_0_ok 0 rfl)))
  (e_Tok2
  (e_Lok (e_st (I := eI) (er_i2l (x_dk dn_176_0_0_ok 1 rfl)) (nx_un (fun _ => rfl))))
  (e_Lok (ld_iload_4 (x_dk dn_176_0_0_ok 2 rfl)))))
  (e_Tok2
  (e_Lok (e_st (I := eI) (er_i2l (x_dk dn_176_0_0_ok 3 rfl)) (nx_un (fun _ => rfl))))
  (e_Tok2
  (e_Lok (e_st (I := eI) (er_lmul (x_dk dn_176_0_0_ok 4 rfl)) (nx_binL bG_lmul)))
  (e_Lok (e_st (I := eI) (er_lstore (i := 5) (x_dk dn_176_0_0_ok 5 rfl) (by decide +kernel)) nx_stor)))))
  (e_Tok2
  (e_Tok2
  (e_Lok (ld_iload_n_2 (x_dk dn_176_0_0_ok 6 rfl)))
  (e_Tok2
  (e_Lok (e_st (I := eI) (er_i2l (x_dk dn_176_0_0_ok 7 rfl)) (nx_un (fun _ => rfl))))
  (e_Lok (ld_iload_n_2 (x_dk dn_176_0_0_ok 8 rfl)))))
  (e_Tok2
  (e_Lok (e_st (I := eI) (er_i2l (x_dk dn_176_0_0_ok 9 rfl)) (nx_un (fun _ => rfl))))
  (e_Tok2
  (e_Lok (e_st (I := eI) (er_lmul (x_dk dn_176_0_0_ok 10 rfl)) (nx_binL bG_lmul)))
  (e_Lok (ld_iload_n_3 (x_dk dn_176_0_0_ok 11 rfl)))))))
  (e_Tok2
  (e_Tok2
  (e_Tok2
  (e_Lok (e_st (I := eI) (er_i2l (x_dk dn_176_0_0_ok 12 rfl)) (nx_un (fun _ => rfl))))
  (e_Tok2
  (e_Lok (ld_iload_n_3 (x_dk dn_176_0_0_ok 13 rfl)))
  (e_Lok (e_st (I := eI) (er_i2l (x_dk dn_176_0_0_ok 14 rfl)) (nx_un (fun _ => rfl))))))
  (e_Tok2
  (e_Lok (e_st (I := eI) (er_lmul (x_dk dn_176_0_0_ok 15 rfl)) (nx_binL bG_lmul)))
  (e_Tok2
  (e_Lok (e_st (I := eI) (er_ladd (x_dk dn_176_0_0_ok 16 rfl)) (nx_binL bG_ladd)))
  (e_Lok (e_st (I := eI) (er_lstore (i := 7) (x_dk dn_176_0_0_ok 17 rfl) (by decide +kernel)) nx_stor)))))
  (e_Tok2
  (e_Tok2
  (e_Lok (ld_iload_n_0 (x_dk dn_176_0_0_ok 18 rfl)))
  (e_Tok2
  (e_Lok (e_st (I := eI) (er_i2l (x_dk dn_176_0_0_ok 19 rfl)) (nx_un (fun _ => rfl))))
  (e_Lok (ld_iload_n_2 (x_dk dn_176_0_0_ok 20 rfl)))))
  (e_Tok2
  (e_Lok (e_st (I := eI) (er_i2l (x_dk dn_176_0_0_ok 21 rfl)) (nx_un (fun _ => rfl))))
  (e_Tok2
  (e_Lok (e_st (I := eI) (er_lmul (x_dk dn_176_0_0_ok 22 rfl)) (nx_binL bG_lmul)))
  (e_Lok (ld_iload_n_1 (x_dk dn_176_0_0_ok 23 rfl))))))))
def te_176_24 : Nat → eE := (e_T 44 (e_T 33 (e_T 30 (e_T 28 (e_L 28 (0, ei_un (fun x => (4, x)) 29, 0, 0)) (e_T 29 (e_L 29 (0, ei_load 3 0 30, 0, 0)) (e_L 30 (0, ei_un (fun x => (4, x)) 31, 0, 0)))) (e_T 31 (e_L 31 (0, ei_binL eG_mul 32, 0, 0)) (e_T 32 (e_L 32 (0, ei_binL eG_add 33, 0, 0)) (e_L 33 (0, ei_stor 9 1 35, 0, 0))))) (e_T 38 (e_T 35 (e_L 35 (0, ei_load 9 1 37, 0, 0)) (e_T 37 (e_L 37 (0, ei_push (4, 0) 38, 0, 0)) (e_L 38 (0, ei_binL eG_cmp 39, 0, 0)))) (e_T 39 (e_L 39 (0, ei_if1 4 56 42, 0, 0)) (e_T 42 (e_L 42 (0, ei_load 7 1 44, 0, 0)) (e_L 44 (0, ei_load 5 1 46, 0, 0)))))) (e_T 55 (e_T 50 (e_T 46 (e_L 46 (0, ei_binL eG_cmp 47, 0, 0)) (e_T 47 (e_L 47 (0, ei_if1 4 54 50, 0, 0)) (e_L 50 (0, ei_push (0, 1) 51, 0, 0)))) (e_T 51 (e_L 51 (0, ei_goto 55, 0, 0)) (e_T 54 (e_L 54 (0, ei_push (0, 0) 55, 0, 0)) (e_L 55 (1, e_nof, 4, 0))))) (e_T 58 (e_T 56 (e_L 56 (0, ei_load 0 0 57, 0, 0)) (e_T 57 (e_L 57 (0, ei_un (fun x => (4, x)) 58, 0, 0)) (e_L 58 (0, ei_load 0 0 59, 0, 0)))) (e_T 59 (e_L 59 (0, ei_un (fun x => (4, x)) 60, 0, 0)) (e_T 60 (e_L 60 (0, ei_binL eG_mul 61, 0, 0)) (e_L 61 (0, ei_load 1 0 62, 0, 0)))))))
set_option maxRecDepth 20000 in
set_option maxHeartbeats 4000000 in
theorem te_176_24_ok : ∀ pc, e_EOq eft cls elay eI n_176 pc (te_176_24 pc) :=
  (e_Tok2
  (e_Tok2
  (e_Tok2
  (e_Tok2
  (e_Lok (e_st (I := eI) (er_i2l (x_dk dn_176_0_0_ok 24 rfl)) (nx_un (fun _ => rfl))))
  (e_Tok2
  (e_Lok (ld_iload_n_3 (x_dk dn_176_0_1_ok 0 rfl)))
  (e_Lok (e_st (I := eI) (er_i2l (x_dk dn_176_0_1_ok 1 rfl)) (nx_un (fun _ => rfl))))))
  (e_Tok2
  (e_Lok (e_st (I := eI) (er_lmul (x_dk dn_176_0_1_ok 2 rfl)) (nx_binL bG_lmul)))
  (e_Tok2
  (e_Lok (e_st (I := eI) (er_ladd (x_dk dn_176_0_1_ok 3 rfl)) (nx_binL bG_ladd)))
  (e_Lok (e_st (I := eI) (er_lstore (i := 9) (x_dk dn_176_0_1_ok 4 rfl) (by decide +kernel)) nx_stor)))))
  (e_Tok2
  (e_Tok2
  (e_Lok (ld_lload_9 (x_dk dn_176_0_1_ok 5 rfl)))
  (e_Tok2
  (e_Lok (ps_lconst_0 (x_dk dn_176_0_1_ok 6 rfl)))
  (e_Lok (e_st (I := eI) (er_lcmp (x_dk dn_176_0_1_ok 7 rfl)) (nx_binL bG_lcmp)))))
  (e_Tok2
  (e_Lok (e_st (I := eI) (er_ifgt (off := 17) (tg := 56) (x_dk dn_176_0_1_ok 8 rfl) (by decide)) nx_if1))
  (e_Tok2
  (e_Lok (ld_lload_7 (x_dk dn_176_0_1_ok 9 rfl)))
  (e_Lok (ld_lload_5 (x_dk dn_176_0_1_ok 10 rfl)))))))
  (e_Tok2
  (e_Tok2
  (e_Tok2
  (e_Lok (e_st (I := eI) (er_lcmp (x_dk dn_176_0_1_ok 11 rfl)) (nx_binL bG_lcmp)))
  (e_Tok2
  (e_Lok (e_st (I := eI) (er_ifgt (off := 7) (tg := 54) (x_dk dn_176_0_1_ok 12 rfl) (by decide)) nx_if1))
  (e_Lok (ps_iconst_1 (x_dk dn_176_0_1_ok 13 rfl)))))
  (e_Tok2
  (e_Lok (e_st (I := eI) (er_goto (off := 4) (tg := 55) (x_dk dn_176_0_1_ok 14 rfl) (by decide)) nx_goto))
  (e_Tok2
  (e_Lok (ps_iconst_0 (x_dk dn_176_0_1_ok 15 rfl)))
  (e_Lok (e_rt (I := eI) (k := 4) ⟨(x_dk dn_176_0_1_ok 16 rfl), rfl⟩)))))
  (e_Tok2
  (e_Tok2
  (e_Lok (ld_iload_n_0 (x_dk dn_176_0_1_ok 17 rfl)))
  (e_Tok2
  (e_Lok (e_st (I := eI) (er_i2l (x_dk dn_176_0_1_ok 18 rfl)) (nx_un (fun _ => rfl))))
  (e_Lok (ld_iload_n_0 (x_dk dn_176_0_1_ok 19 rfl)))))
  (e_Tok2
  (e_Lok (e_st (I := eI) (er_i2l (x_dk dn_176_0_1_ok 20 rfl)) (nx_un (fun _ => rfl))))
  (e_Tok2
  (e_Lok (e_st (I := eI) (er_lmul (x_dk dn_176_0_1_ok 21 rfl)) (nx_binL bG_lmul)))
  (e_Lok (ld_iload_n_1 (x_dk dn_176_0_1_ok 22 rfl))))))))
def te_176_48 : Nat → eE := (e_T 79 (e_T 67 (e_T 64 (e_T 62 (e_L 62 (0, ei_un (fun x => (4, x)) 63, 0, 0)) (e_T 63 (e_L 63 (0, ei_load 1 0 64, 0, 0)) (e_L 64 (0, ei_un (fun x => (4, x)) 65, 0, 0)))) (e_T 65 (e_L 65 (0, ei_binL eG_mul 66, 0, 0)) (e_T 66 (e_L 66 (0, ei_binL eG_add 67, 0, 0)) (e_L 67 (0, ei_stor 11 1 69, 0, 0))))) (e_T 73 (e_T 69 (e_L 69 (0, ei_load 9 1 71, 0, 0)) (e_T 71 (e_L 71 (0, ei_load 11 1 73, 0, 0)) (e_L 73 (0, ei_binL eG_cmp 74, 0, 0)))) (e_T 74 (e_L 74 (0, ei_if1 2 101 77, 0, 0)) (e_T 77 (e_L 77 (0, ei_load 7 1 79, 0, 0)) (e_L 79 (0, ei_push (4, 2) 82, 0, 0)))))) (e_T 89 (e_T 85 (e_T 82 (e_L 82 (0, ei_load 9 1 84, 0, 0)) (e_T 84 (e_L 84 (0, ei_binL eG_mul 85, 0, 0)) (e_L 85 (0, ei_binL eG_sub 86, 0, 0)))) (e_T 86 (e_L 86 (0, ei_load 11 1 88, 0, 0)) (e_T 88 (e_L 88 (0, ei_binL eG_add 89, 0, 0)) (e_L 89 (0, ei_load 5 1 91, 0, 0))))) (e_T 95 (e_T 91 (e_L 91 (0, ei_binL eG_cmp 92, 0, 0)) (e_T 92 (e_L 92 (0, ei_if1 4 99 95, 0, 0)) (e_L 95 (0, ei_push (0, 1) 96, 0, 0)))) (e_T 96 (e_L 96 (0, ei_goto 100, 0, 0)) (e_T 99 (e_L 99 (0, ei_push (0, 0) 100, 0, 0)) (e_L 100 (1, e_nof, 4, 0)))))))
set_option maxRecDepth 20000 in
set_option maxHeartbeats 4000000 in
theorem te_176_48_ok : ∀ pc, e_EOq eft cls elay eI n_176 pc (te_176_48 pc) :=
  (e_Tok2
  (e_Tok2
  (e_Tok2
  (e_Tok2
  (e_Lok (e_st (I := eI) (er_i2l (x_dk dn_176_0_1_ok 23 rfl)) (nx_un (fun _ => rfl))))
  (e_Tok2
  (e_Lok (ld_iload_n_1 (x_dk dn_176_0_1_ok 24 rfl)))
  (e_Lok (e_st (I := eI) (er_i2l (x_dk dn_176_0_2_ok 0 rfl)) (nx_un (fun _ => rfl))))))
  (e_Tok2
  (e_Lok (e_st (I := eI) (er_lmul (x_dk dn_176_0_2_ok 1 rfl)) (nx_binL bG_lmul)))
  (e_Tok2
  (e_Lok (e_st (I := eI) (er_ladd (x_dk dn_176_0_2_ok 2 rfl)) (nx_binL bG_ladd)))
  (e_Lok (e_st (I := eI) (er_lstore (i := 11) (x_dk dn_176_0_2_ok 3 rfl) (by decide +kernel)) nx_stor)))))
  (e_Tok2
  (e_Tok2
  (e_Lok (ld_lload_9 (x_dk dn_176_0_2_ok 4 rfl)))
  (e_Tok2
  (e_Lok (ld_lload_11 (x_dk dn_176_0_2_ok 5 rfl)))
  (e_Lok (e_st (I := eI) (er_lcmp (x_dk dn_176_0_2_ok 6 rfl)) (nx_binL bG_lcmp)))))
  (e_Tok2
  (e_Lok (e_st (I := eI) (er_iflt (off := 27) (tg := 101) (x_dk dn_176_0_2_ok 7 rfl) (by decide)) nx_if1))
  (e_Tok2
  (e_Lok (ld_lload_7 (x_dk dn_176_0_2_ok 8 rfl)))
  (e_Lok (e_st (I := eI) (er_ldc2 (ix := 131) (z := 2) (v := 2) (x_dk dn_176_0_2_ok 9 rfl) (in_t8 (List.mem_of_getElem? (i := 120) rfl) rfl) (by decide)) (nx_push (Or.inl rfl))))))))
  (e_Tok2
  (e_Tok2
  (e_Tok2
  (e_Lok (ld_lload_9 (x_dk dn_176_0_2_ok 10 rfl)))
  (e_Tok2
  (e_Lok (e_st (I := eI) (er_lmul (x_dk dn_176_0_2_ok 11 rfl)) (nx_binL bG_lmul)))
  (e_Lok (e_st (I := eI) (er_lsub (x_dk dn_176_0_2_ok 12 rfl)) (nx_binL bG_lsub)))))
  (e_Tok2
  (e_Lok (ld_lload_11 (x_dk dn_176_0_2_ok 13 rfl)))
  (e_Tok2
  (e_Lok (e_st (I := eI) (er_ladd (x_dk dn_176_0_2_ok 14 rfl)) (nx_binL bG_ladd)))
  (e_Lok (ld_lload_5 (x_dk dn_176_0_2_ok 15 rfl))))))
  (e_Tok2
  (e_Tok2
  (e_Lok (e_st (I := eI) (er_lcmp (x_dk dn_176_0_2_ok 16 rfl)) (nx_binL bG_lcmp)))
  (e_Tok2
  (e_Lok (e_st (I := eI) (er_ifgt (off := 7) (tg := 99) (x_dk dn_176_0_2_ok 17 rfl) (by decide)) nx_if1))
  (e_Lok (ps_iconst_1 (x_dk dn_176_0_2_ok 18 rfl)))))
  (e_Tok2
  (e_Lok (e_st (I := eI) (er_goto (off := 4) (tg := 100) (x_dk dn_176_0_2_ok 19 rfl) (by decide)) nx_goto))
  (e_Tok2
  (e_Lok (ps_iconst_0 (x_dk dn_176_0_2_ok 20 rfl)))
  (e_Lok (e_rt (I := eI) (k := 4) ⟨(x_dk dn_176_0_2_ok 21 rfl), rfl⟩)))))))
def te_176_72 : Nat → eE := (e_T 112 (e_T 106 (e_T 103 (e_T 101 (e_L 101 (0, ei_load 0 0 102, 0, 0)) (e_T 102 (e_L 102 (0, ei_un (fun x => (4, x)) 103, 0, 0)) (e_L 103 (0, ei_load 3 0 104, 0, 0)))) (e_T 104 (e_L 104 (0, ei_un (fun x => (4, x)) 105, 0, 0)) (e_T 105 (e_L 105 (0, ei_binL eG_mul 106, 0, 0)) (e_L 106 (0, ei_load 1 0 107, 0, 0))))) (e_T 109 (e_T 107 (e_L 107 (0, ei_un (fun x => (4, x)) 108, 0, 0)) (e_T 108 (e_L 108 (0, ei_load 2 0 109, 0, 0)) (e_L 109 (0, ei_un (fun x => (4, x)) 110, 0, 0)))) (e_T 110 (e_L 110 (0, ei_binL eG_mul 111, 0, 0)) (e_T 111 (e_L 111 (0, ei_binL eG_sub 112, 0, 0)) (e_L 112 (0, ei_stor 13 1 114, 0, 0)))))) (e_T 123 (e_T 118 (e_T 114 (e_L 114 (0, ei_load 13 1 116, 0, 0)) (e_T 116 (e_L 116 (0, ei_load 13 1 118, 0, 0)) (e_L 118 (0, ei_binL eG_mul 119, 0, 0)))) (e_T 119 (e_L 119 (0, ei_load 5 1 121, 0, 0)) (e_T 121 (e_L 121 (0, ei_load 11 1 123, 0, 0)) (e_L 123 (0, ei_binL eG_mul 124, 0, 0))))) (e_T 128 (e_T 124 (e_L 124 (0, ei_binL eG_cmp 125, 0, 0)) (e_T 125 (e_L 125 (0, ei_if1 4 132 128, 0, 0)) (e_L 128 (0, ei_push (0, 1) 129, 0, 0)))) (e_T 129 (e_L 129 (0, ei_goto 133, 0, 0)) (e_T 132 (e_L 132 (0, ei_push (0, 0) 133, 0, 0)) (e_L 133 (1, e_nof, 4, 0)))))))
set_option maxRecDepth 20000 in
set_option maxHeartbeats 4000000 in
theorem te_176_72_ok : ∀ pc, e_EOq eft cls elay eI n_176 pc (te_176_72 pc) :=
  (e_Tok2
  (e_Tok2
  (e_Tok2
  (e_Tok2
  (e_Lok (ld_iload_n_0 (x_dk dn_176_0_2_ok 22 rfl)))
  (e_Tok2
  (e_Lok (e_st (I := eI) (er_i2l (x_dk dn_176_0_2_ok 23 rfl)) (nx_un (fun _ => rfl))))
  (e_Lok (ld_iload_n_3 (x_dk dn_176_0_2_ok 24 rfl)))))
  (e_Tok2
  (e_Lok (e_st (I := eI) (er_i2l (x_dk dn_176_0_3_ok 0 rfl)) (nx_un (fun _ => rfl))))
  (e_Tok2
  (e_Lok (e_st (I := eI) (er_lmul (x_dk dn_176_0_3_ok 1 rfl)) (nx_binL bG_lmul)))
  (e_Lok (ld_iload_n_1 (x_dk dn_176_0_3_ok 2 rfl))))))
  (e_Tok2
  (e_Tok2
  (e_Lok (e_st (I := eI) (er_i2l (x_dk dn_176_0_3_ok 3 rfl)) (nx_un (fun _ => rfl))))
  (e_Tok2
  (e_Lok (ld_iload_n_2 (x_dk dn_176_0_3_ok 4 rfl)))
  (e_Lok (e_st (I := eI) (er_i2l (x_dk dn_176_0_3_ok 5 rfl)) (nx_un (fun _ => rfl))))))
  (e_Tok2
  (e_Lok (e_st (I := eI) (er_lmul (x_dk dn_176_0_3_ok 6 rfl)) (nx_binL bG_lmul)))
  (e_Tok2
  (e_Lok (e_st (I := eI) (er_lsub (x_dk dn_176_0_3_ok 7 rfl)) (nx_binL bG_lsub)))
  (e_Lok (e_st (I := eI) (er_lstore (i := 13) (x_dk dn_176_0_3_ok 8 rfl) (by decide +kernel)) nx_stor))))))
  (e_Tok2
  (e_Tok2
  (e_Tok2
  (e_Lok (ld_lload_13 (x_dk dn_176_0_3_ok 9 rfl)))
  (e_Tok2
  (e_Lok (ld_lload_13 (x_dk dn_176_0_3_ok 10 rfl)))
  (e_Lok (e_st (I := eI) (er_lmul (x_dk dn_176_0_3_ok 11 rfl)) (nx_binL bG_lmul)))))
  (e_Tok2
  (e_Lok (ld_lload_5 (x_dk dn_176_0_3_ok 12 rfl)))
  (e_Tok2
  (e_Lok (ld_lload_11 (x_dk dn_176_0_3_ok 13 rfl)))
  (e_Lok (e_st (I := eI) (er_lmul (x_dk dn_176_0_3_ok 14 rfl)) (nx_binL bG_lmul))))))
  (e_Tok2
  (e_Tok2
  (e_Lok (e_st (I := eI) (er_lcmp (x_dk dn_176_0_3_ok 15 rfl)) (nx_binL bG_lcmp)))
  (e_Tok2
  (e_Lok (e_st (I := eI) (er_ifgt (off := 7) (tg := 132) (x_dk dn_176_0_3_ok 16 rfl) (by decide)) nx_if1))
  (e_Lok (ps_iconst_1 (x_dk dn_176_0_3_ok 17 rfl)))))
  (e_Tok2
  (e_Lok (e_st (I := eI) (er_goto (off := 4) (tg := 133) (x_dk dn_176_0_3_ok 18 rfl) (by decide)) nx_goto))
  (e_Tok2
  (e_Lok (ps_iconst_0 (x_dk dn_176_0_3_ok 19 rfl)))
  (e_Lok (e_rt (I := eI) (k := 4) ⟨(x_dk dn_176_0_3_ok 20 rfl), rfl⟩)))))))
def te_176 : Nat → eE := (e_T 61 (e_T 27 te_176_0 te_176_24) (e_T 100 te_176_48 te_176_72))
theorem te_176_ok : ∀ pc, e_EOq eft cls elay eI n_176 pc (te_176 pc) := (e_Tok2 ((e_Tok2 (te_176_0_ok) (te_176_24_ok))) ((e_Tok2 (te_176_48_ok) (te_176_72_ok))))
theorem ho_177 : (xm_y n_177).cls = "RobotCellHouse$Shapes" := rfl
def dn_177_0_0 : List (Nat × Instr × Nat) := [(0, .iload_n 0, 1), (1, .i2l, 1), (2, .iload_n 3, 1), (3, .i2l, 1), (4, .lmul, 1), (5, .iload_n 1, 1), (6, .i2l, 1), (7, .iload_n 2, 1), (8, .i2l, 1), (9, .lmul, 1), (10, .lsub, 1), (11, .lreturn, 1)]
set_option maxRecDepth 20000 in
theorem dn_177_0_0_ok : dn_177_0_0.all (fun q => decide (decode (xm_b n_177) q.1 = .ok (q.2.1, q.2.2))) = true := xa_g_ok (by decide +kernel)
def te_177_0 : Nat → eE := (e_T 5 (e_T 2 (e_T 0 (e_L 0 (0, ei_load 0 0 1, 0, 0)) (e_T 1 (e_L 1 (0, ei_un (fun x => (4, x)) 2, 0, 0)) (e_L 2 (0, ei_load 3 0 3, 0, 0)))) (e_T 3 (e_L 3 (0, ei_un (fun x => (4, x)) 4, 0, 0)) (e_T 4 (e_L 4 (0, ei_binL eG_mul 5, 0, 0)) (e_L 5 (0, ei_load 1 0 6, 0, 0))))) (e_T 8 (e_T 6 (e_L 6 (0, ei_un (fun x => (4, x)) 7, 0, 0)) (e_T 7 (e_L 7 (0, ei_load 2 0 8, 0, 0)) (e_L 8 (0, ei_un (fun x => (4, x)) 9, 0, 0)))) (e_T 9 (e_L 9 (0, ei_binL eG_mul 10, 0, 0)) (e_T 10 (e_L 10 (0, ei_binL eG_sub 11, 0, 0)) (e_L 11 (1, e_nof, 2, 0))))))
set_option maxRecDepth 20000 in
set_option maxHeartbeats 4000000 in
theorem te_177_0_ok : ∀ pc, e_EOq eft cls elay eI n_177 pc (te_177_0 pc) :=
  (e_Tok2
  (e_Tok2
  (e_Tok2
  (e_Lok (ld_iload_n_0 (x_dk dn_177_0_0_ok 0 rfl)))
  (e_Tok2
  (e_Lok (e_st (I := eI) (er_i2l (x_dk dn_177_0_0_ok 1 rfl)) (nx_un (fun _ => rfl))))
  (e_Lok (ld_iload_n_3 (x_dk dn_177_0_0_ok 2 rfl)))))
  (e_Tok2
  (e_Lok (e_st (I := eI) (er_i2l (x_dk dn_177_0_0_ok 3 rfl)) (nx_un (fun _ => rfl))))
  (e_Tok2
  (e_Lok (e_st (I := eI) (er_lmul (x_dk dn_177_0_0_ok 4 rfl)) (nx_binL bG_lmul)))
  (e_Lok (ld_iload_n_1 (x_dk dn_177_0_0_ok 5 rfl))))))
  (e_Tok2
  (e_Tok2
  (e_Lok (e_st (I := eI) (er_i2l (x_dk dn_177_0_0_ok 6 rfl)) (nx_un (fun _ => rfl))))
  (e_Tok2
  (e_Lok (ld_iload_n_2 (x_dk dn_177_0_0_ok 7 rfl)))
  (e_Lok (e_st (I := eI) (er_i2l (x_dk dn_177_0_0_ok 8 rfl)) (nx_un (fun _ => rfl))))))
  (e_Tok2
  (e_Lok (e_st (I := eI) (er_lmul (x_dk dn_177_0_0_ok 9 rfl)) (nx_binL bG_lmul)))
  (e_Tok2
  (e_Lok (e_st (I := eI) (er_lsub (x_dk dn_177_0_0_ok 10 rfl)) (nx_binL bG_lsub)))
  (e_Lok (e_rt (I := eI) (k := 2) ⟨(x_dk dn_177_0_0_ok 11 rfl), rfl⟩))))))
def te_177 : Nat → eE := te_177_0
theorem te_177_ok : ∀ pc, e_EOq eft cls elay eI n_177 pc (te_177 pc) := te_177_0_ok
theorem ho_178 : (xm_y n_178).cls = "RobotCellHouse$Shapes" := rfl
def dn_178_0_0 : List (Nat × Instr × Nat) := [(0, .iload_n 0, 1), (1, .i2l, 1), (2, .iload_n 0, 1), (3, .i2l, 1), (4, .lmul, 1), (5, .iload_n 1, 1), (6, .i2l, 1), (7, .iload_n 1, 1), (8, .i2l, 1), (9, .lmul, 1), (10, .ladd, 1), (11, .lreturn, 1)]
set_option maxRecDepth 20000 in
theorem dn_178_0_0_ok : dn_178_0_0.all (fun q => decide (decode (xm_b n_178) q.1 = .ok (q.2.1, q.2.2))) = true := xa_g_ok (by decide +kernel)
def te_178_0 : Nat → eE := (e_T 5 (e_T 2 (e_T 0 (e_L 0 (0, ei_load 0 0 1, 0, 0)) (e_T 1 (e_L 1 (0, ei_un (fun x => (4, x)) 2, 0, 0)) (e_L 2 (0, ei_load 0 0 3, 0, 0)))) (e_T 3 (e_L 3 (0, ei_un (fun x => (4, x)) 4, 0, 0)) (e_T 4 (e_L 4 (0, ei_binL eG_mul 5, 0, 0)) (e_L 5 (0, ei_load 1 0 6, 0, 0))))) (e_T 8 (e_T 6 (e_L 6 (0, ei_un (fun x => (4, x)) 7, 0, 0)) (e_T 7 (e_L 7 (0, ei_load 1 0 8, 0, 0)) (e_L 8 (0, ei_un (fun x => (4, x)) 9, 0, 0)))) (e_T 9 (e_L 9 (0, ei_binL eG_mul 10, 0, 0)) (e_T 10 (e_L 10 (0, ei_binL eG_add 11, 0, 0)) (e_L 11 (1, e_nof, 2, 0))))))
set_option maxRecDepth 20000 in
set_option maxHeartbeats 4000000 in
theorem te_178_0_ok : ∀ pc, e_EOq eft cls elay eI n_178 pc (te_178_0 pc) :=
  (e_Tok2
  (e_Tok2
  (e_Tok2
  (e_Lok (ld_iload_n_0 (x_dk dn_178_0_0_ok 0 rfl)))
  (e_Tok2
  (e_Lok (e_st (I := eI) (er_i2l (x_dk dn_178_0_0_ok 1 rfl)) (nx_un (fun _ => rfl))))
  (e_Lok (ld_iload_n_0 (x_dk dn_178_0_0_ok 2 rfl)))))
  (e_Tok2
  (e_Lok (e_st (I := eI) (er_i2l (x_dk dn_178_0_0_ok 3 rfl)) (nx_un (fun _ => rfl))))
  (e_Tok2
  (e_Lok (e_st (I := eI) (er_lmul (x_dk dn_178_0_0_ok 4 rfl)) (nx_binL bG_lmul)))
  (e_Lok (ld_iload_n_1 (x_dk dn_178_0_0_ok 5 rfl))))))
  (e_Tok2
  (e_Tok2
  (e_Lok (e_st (I := eI) (er_i2l (x_dk dn_178_0_0_ok 6 rfl)) (nx_un (fun _ => rfl))))
  (e_Tok2
  (e_Lok (ld_iload_n_1 (x_dk dn_178_0_0_ok 7 rfl)))
  (e_Lok (e_st (I := eI) (er_i2l (x_dk dn_178_0_0_ok 8 rfl)) (nx_un (fun _ => rfl))))))
  (e_Tok2
  (e_Lok (e_st (I := eI) (er_lmul (x_dk dn_178_0_0_ok 9 rfl)) (nx_binL bG_lmul)))
  (e_Tok2
  (e_Lok (e_st (I := eI) (er_ladd (x_dk dn_178_0_0_ok 10 rfl)) (nx_binL bG_ladd)))
  (e_Lok (e_rt (I := eI) (k := 2) ⟨(x_dk dn_178_0_0_ok 11 rfl), rfl⟩))))))
def te_178 : Nat → eE := te_178_0
theorem te_178_ok : ∀ pc, e_EOq eft cls elay eI n_178 pc (te_178 pc) := te_178_0_ok
theorem ho_179 : (xm_y n_179).cls = "RobotCellHouse$Task" := rfl
def dn_179_0_0 : List (Nat × Instr × Nat) := [(0, .aload_n 0, 1), (1, .iconst (-1), 1), (2, .iconst 0, 1), (3, .iconst 0, 1), (4, .invokevirtual 31, 3), (7, .aload_n 0, 1), (8, .iconst 0, 1), (9, .putfield 35, 3), (12, .aload_n 0, 1), (13, .iconst 0, 1), (14, .putfield 38, 3), (17, .return_, 1)]
set_option maxRecDepth 20000 in
theorem dn_179_0_0_ok : dn_179_0_0.all (fun q => decide (decode (xm_b n_179) q.1 = .ok (q.2.1, q.2.2))) = true := xa_g_ok (by decide +kernel)
def te_179_0 : Nat → eE := (e_T 7 (e_T 2 (e_T 0 (e_L 0 (0, ei_load 0 2 1, 0, 0)) (e_T 1 (e_L 1 (0, ei_push (0, (-1)) 2, 0, 0)) (e_L 2 (0, ei_push (0, 0) 3, 0, 0)))) (e_T 3 (e_L 3 (0, ei_push (0, 0) 4, 0, 0)) (e_T 4 (e_L 4 (2, e_nof, 180, 4)) (e_L 7 (0, ei_load 0 2 8, 0, 0))))) (e_T 12 (e_T 8 (e_L 8 (0, ei_push (0, 0) 9, 0, 0)) (e_T 9 (e_L 9 (0, ei_putf eft elay 10 1 0 12, 0, 0)) (e_L 12 (0, ei_load 0 2 13, 0, 0)))) (e_T 13 (e_L 13 (0, ei_push (0, 0) 14, 0, 0)) (e_T 14 (e_L 14 (0, ei_putf eft elay 10 4 0 17, 0, 0)) (e_L 17 (1, e_nof, 0, 0))))))
set_option maxRecDepth 20000 in
set_option maxHeartbeats 4000000 in
theorem te_179_0_ok : ∀ pc, e_EOq eft cls elay eI n_179 pc (te_179_0 pc) :=
  (e_Tok2
  (e_Tok2
  (e_Tok2
  (e_Lok (ld_aload_n_0 (x_dk dn_179_0_0_ok 0 rfl)))
  (e_Tok2
  (e_Lok (ps_iconst_m1 (x_dk dn_179_0_0_ok 1 rfl)))
  (e_Lok (ps_iconst_0 (x_dk dn_179_0_0_ok 2 rfl)))))
  (e_Tok2
  (e_Lok (ps_iconst_0 (x_dk dn_179_0_0_ok 3 rfl)))
  (e_Tok2
  (e_Lok (lk_10_31 ho_179 (x_dk dn_179_0_0_ok 4 rfl)))
  (e_Lok (ld_aload_n_0 (x_dk dn_179_0_0_ok 5 rfl))))))
  (e_Tok2
  (e_Tok2
  (e_Lok (ps_iconst_0 (x_dk dn_179_0_0_ok 6 rfl)))
  (e_Tok2
  (e_Lok (lk_10_35p ho_179 (x_dk dn_179_0_0_ok 7 rfl)))
  (e_Lok (ld_aload_n_0 (x_dk dn_179_0_0_ok 8 rfl)))))
  (e_Tok2
  (e_Lok (ps_iconst_0 (x_dk dn_179_0_0_ok 9 rfl)))
  (e_Tok2
  (e_Lok (lk_10_38p ho_179 (x_dk dn_179_0_0_ok 10 rfl)))
  (e_Lok (e_rt (I := eI) (k := 0) ⟨(x_dk dn_179_0_0_ok 11 rfl), rfl⟩))))))
def te_179 : Nat → eE := te_179_0
theorem te_179_ok : ∀ pc, e_EOq eft cls elay eI n_179 pc (te_179 pc) := te_179_0_ok
theorem ho_180 : (xm_y n_180).cls = "RobotCellHouse$Task" := rfl
def dn_180_0_0 : List (Nat × Instr × Nat) := [(0, .aload_n 0, 1), (1, .iconst 1, 1), (2, .putfield 35, 3), (5, .aload_n 0, 1), (6, .iload_n 1, 1), (7, .putfield 41, 3), (10, .aload_n 0, 1), (11, .iload_n 3, 1), (12, .putfield 44, 3), (15, .aload_n 0, 1), (16, .iconst 0, 1), (17, .putfield 47, 3), (20, .aload_n 0, 1), (21, .iconst 0, 1), (22, .putfield 50, 3), (25, .aload_n 0, 1), (26, .iconst 0, 1), (27, .putfield 53, 3), (30, .aload_n 0, 1), (31, .iconst (-1), 1), (32, .putfield 57, 3), (35, .aload_n 0, 1), (36, .iconst 0, 1), (37, .putfield 60, 3), (40, .aload_n 0, 1)]
set_option maxRecDepth 20000 in
theorem dn_180_0_0_ok : dn_180_0_0.all (fun q => decide (decode (xm_b n_180) q.1 = .ok (q.2.1, q.2.2))) = true := xa_g_ok (by decide +kernel)
def dn_180_0_1 : List (Nat × Instr × Nat) := [(41, .iconst 0, 1), (42, .putfield 38, 3), (45, .aload_n 0, 1), (46, .iconst 0, 1), (47, .putfield 63, 3), (50, .aload_n 0, 1), (51, .iload_n 2, 1), (52, .invokevirtual 66, 3), (55, .pop, 1), (56, .return_, 1)]
set_option maxRecDepth 20000 in
theorem dn_180_0_1_ok : dn_180_0_1.all (fun q => decide (decode (xm_b n_180) q.1 = .ok (q.2.1, q.2.2))) = true := xa_g_ok (by decide +kernel)
def te_180_0 : Nat → eE := (e_T 26 (e_T 11 (e_T 5 (e_T 1 (e_T 0 (e_L 0 (0, ei_load 0 2 1, 0, 0)) (e_L 1 (0, ei_push (0, 1) 2, 0, 0))) (e_T 2 (e_L 2 (0, ei_putf eft elay 10 1 0 5, 0, 0)) (e_L 5 (0, ei_load 0 2 6, 0, 0)))) (e_T 7 (e_T 6 (e_L 6 (0, ei_load 1 0 7, 0, 0)) (e_L 7 (0, ei_putf eft elay 10 2 0 10, 0, 0))) (e_T 10 (e_L 10 (0, ei_load 0 2 11, 0, 0)) (e_L 11 (0, ei_load 3 0 12, 0, 0))))) (e_T 17 (e_T 15 (e_T 12 (e_L 12 (0, ei_putf eft elay 10 7 0 15, 0, 0)) (e_L 15 (0, ei_load 0 2 16, 0, 0))) (e_T 16 (e_L 16 (0, ei_push (0, 0) 17, 0, 0)) (e_L 17 (0, ei_putf eft elay 10 5 0 20, 0, 0)))) (e_T 21 (e_T 20 (e_L 20 (0, ei_load 0 2 21, 0, 0)) (e_L 21 (0, ei_push (0, 0) 22, 0, 0))) (e_T 22 (e_L 22 (0, ei_putf eft elay 10 6 0 25, 0, 0)) (e_T 25 (e_L 25 (0, ei_load 0 2 26, 0, 0)) (e_L 26 (0, ei_push (0, 0) 27, 0, 0))))))) (e_T 41 (e_T 32 (e_T 30 (e_T 27 (e_L 27 (0, ei_putf eft elay 10 10 1 30, 0, 0)) (e_L 30 (0, ei_load 0 2 31, 0, 0))) (e_T 31 (e_L 31 (0, ei_push (0, (-1)) 32, 0, 0)) (e_L 32 (0, ei_putf eft elay 10 11 0 35, 0, 0)))) (e_T 36 (e_T 35 (e_L 35 (0, ei_load 0 2 36, 0, 0)) (e_L 36 (0, ei_push (0, 0) 37, 0, 0))) (e_T 37 (e_L 37 (0, ei_putf eft elay 10 14 0 40, 0, 0)) (e_T 40 (e_L 40 (0, ei_load 0 2 41, 0, 0)) (e_L 41 (0, ei_push (0, 0) 42, 0, 0)))))) (e_T 47 (e_T 45 (e_T 42 (e_L 42 (0, ei_putf eft elay 10 4 0 45, 0, 0)) (e_L 45 (0, ei_load 0 2 46, 0, 0))) (e_T 46 (e_L 46 (0, ei_push (0, 0) 47, 0, 0)) (e_L 47 (0, ei_putf eft elay 10 15 0 50, 0, 0)))) (e_T 51 (e_T 50 (e_L 50 (0, ei_load 0 2 51, 0, 0)) (e_L 51 (0, ei_load 2 0 52, 0, 0))) (e_T 52 (e_L 52 (2, e_nof, 182, 2)) (e_T 55 (e_L 55 (0, ei_stk ef_pop 56, 0, 0)) (e_L 56 (1, e_nof, 0, 0))))))))
set_option maxRecDepth 20000 in
set_option maxHeartbeats 4000000 in
theorem te_180_0_ok : ∀ pc, e_EOq eft cls elay eI n_180 pc (te_180_0 pc) :=
  (e_Tok2
  (e_Tok2
  (e_Tok2
  (e_Tok2
  (e_Tok2
  (e_Lok (ld_aload_n_0 (x_dk dn_180_0_0_ok 0 rfl)))
  (e_Lok (ps_iconst_1 (x_dk dn_180_0_0_ok 1 rfl))))
  (e_Tok2
  (e_Lok (lk_10_35p ho_180 (x_dk dn_180_0_0_ok 2 rfl)))
  (e_Lok (ld_aload_n_0 (x_dk dn_180_0_0_ok 3 rfl)))))
  (e_Tok2
  (e_Tok2
  (e_Lok (ld_iload_n_1 (x_dk dn_180_0_0_ok 4 rfl)))
  (e_Lok (lk_10_41p ho_180 (x_dk dn_180_0_0_ok 5 rfl))))
  (e_Tok2
  (e_Lok (ld_aload_n_0 (x_dk dn_180_0_0_ok 6 rfl)))
  (e_Lok (ld_iload_n_3 (x_dk dn_180_0_0_ok 7 rfl))))))
  (e_Tok2
  (e_Tok2
  (e_Tok2
  (e_Lok (lk_10_44p ho_180 (x_dk dn_180_0_0_ok 8 rfl)))
  (e_Lok (ld_aload_n_0 (x_dk dn_180_0_0_ok 9 rfl))))
  (e_Tok2
  (e_Lok (ps_iconst_0 (x_dk dn_180_0_0_ok 10 rfl)))
  (e_Lok (lk_10_47p ho_180 (x_dk dn_180_0_0_ok 11 rfl)))))
  (e_Tok2
  (e_Tok2
  (e_Lok (ld_aload_n_0 (x_dk dn_180_0_0_ok 12 rfl)))
  (e_Lok (ps_iconst_0 (x_dk dn_180_0_0_ok 13 rfl))))
  (e_Tok2
  (e_Lok (lk_10_50p ho_180 (x_dk dn_180_0_0_ok 14 rfl)))
  (e_Tok2
  (e_Lok (ld_aload_n_0 (x_dk dn_180_0_0_ok 15 rfl)))
  (e_Lok (ps_iconst_0 (x_dk dn_180_0_0_ok 16 rfl))))))))
  (e_Tok2
  (e_Tok2
  (e_Tok2
  (e_Tok2
  (e_Lok (lk_10_53p ho_180 (x_dk dn_180_0_0_ok 17 rfl)))
  (e_Lok (ld_aload_n_0 (x_dk dn_180_0_0_ok 18 rfl))))
  (e_Tok2
  (e_Lok (ps_iconst_m1 (x_dk dn_180_0_0_ok 19 rfl)))
  (e_Lok (lk_10_57p ho_180 (x_dk dn_180_0_0_ok 20 rfl)))))
  (e_Tok2
  (e_Tok2
  (e_Lok (ld_aload_n_0 (x_dk dn_180_0_0_ok 21 rfl)))
  (e_Lok (ps_iconst_0 (x_dk dn_180_0_0_ok 22 rfl))))
  (e_Tok2
  (e_Lok (lk_10_60p ho_180 (x_dk dn_180_0_0_ok 23 rfl)))
  (e_Tok2
  (e_Lok (ld_aload_n_0 (x_dk dn_180_0_0_ok 24 rfl)))
  (e_Lok (ps_iconst_0 (x_dk dn_180_0_1_ok 0 rfl)))))))
  (e_Tok2
  (e_Tok2
  (e_Tok2
  (e_Lok (lk_10_38p ho_180 (x_dk dn_180_0_1_ok 1 rfl)))
  (e_Lok (ld_aload_n_0 (x_dk dn_180_0_1_ok 2 rfl))))
  (e_Tok2
  (e_Lok (ps_iconst_0 (x_dk dn_180_0_1_ok 3 rfl)))
  (e_Lok (lk_10_63p ho_180 (x_dk dn_180_0_1_ok 4 rfl)))))
  (e_Tok2
  (e_Tok2
  (e_Lok (ld_aload_n_0 (x_dk dn_180_0_1_ok 5 rfl)))
  (e_Lok (ld_iload_n_2 (x_dk dn_180_0_1_ok 6 rfl))))
  (e_Tok2
  (e_Lok (lk_10_66 ho_180 (x_dk dn_180_0_1_ok 7 rfl)))
  (e_Tok2
  (e_Lok (e_st (I := eI) (er_pop (x_dk dn_180_0_1_ok 8 rfl)) (nx_stk bf_pop)))
  (e_Lok (e_rt (I := eI) (k := 0) ⟨(x_dk dn_180_0_1_ok 9 rfl), rfl⟩))))))))
def te_180 : Nat → eE := te_180_0
theorem te_180_ok : ∀ pc, e_EOq eft cls elay eI n_180 pc (te_180 pc) := te_180_0_ok
theorem ho_181 : (xm_y n_181).cls = "RobotCellHouse$Task" := rfl
def dn_181_0_0 : List (Nat × Instr × Nat) := [(0, .aload_n 0, 1), (1, .iload_n 1, 1), (2, .putfield 35, 3), (5, .aload_n 0, 1), (6, .iconst 0, 1), (7, .putfield 38, 3), (10, .aload_n 0, 1), (11, .iconst 0, 1), (12, .putfield 63, 3), (15, .return_, 1)]
set_option maxRecDepth 20000 in
theorem dn_181_0_0_ok : dn_181_0_0.all (fun q => decide (decode (xm_b n_181) q.1 = .ok (q.2.1, q.2.2))) = true := xa_g_ok (by decide +kernel)
def te_181_0 : Nat → eE := (e_T 6 (e_T 1 (e_T 0 (e_L 0 (0, ei_load 0 2 1, 0, 0)) (e_L 1 (0, ei_load 1 0 2, 0, 0))) (e_T 2 (e_L 2 (0, ei_putf eft elay 10 1 0 5, 0, 0)) (e_T 5 (e_L 5 (0, ei_load 0 2 6, 0, 0)) (e_L 6 (0, ei_push (0, 0) 7, 0, 0))))) (e_T 10 (e_T 7 (e_L 7 (0, ei_putf eft elay 10 4 0 10, 0, 0)) (e_L 10 (0, ei_load 0 2 11, 0, 0))) (e_T 11 (e_L 11 (0, ei_push (0, 0) 12, 0, 0)) (e_T 12 (e_L 12 (0, ei_putf eft elay 10 15 0 15, 0, 0)) (e_L 15 (1, e_nof, 0, 0))))))
set_option maxRecDepth 20000 in
set_option maxHeartbeats 4000000 in
theorem te_181_0_ok : ∀ pc, e_EOq eft cls elay eI n_181 pc (te_181_0 pc) :=
  (e_Tok2
  (e_Tok2
  (e_Tok2
  (e_Lok (ld_aload_n_0 (x_dk dn_181_0_0_ok 0 rfl)))
  (e_Lok (ld_iload_n_1 (x_dk dn_181_0_0_ok 1 rfl))))
  (e_Tok2
  (e_Lok (lk_10_35p ho_181 (x_dk dn_181_0_0_ok 2 rfl)))
  (e_Tok2
  (e_Lok (ld_aload_n_0 (x_dk dn_181_0_0_ok 3 rfl)))
  (e_Lok (ps_iconst_0 (x_dk dn_181_0_0_ok 4 rfl))))))
  (e_Tok2
  (e_Tok2
  (e_Lok (lk_10_38p ho_181 (x_dk dn_181_0_0_ok 5 rfl)))
  (e_Lok (ld_aload_n_0 (x_dk dn_181_0_0_ok 6 rfl))))
  (e_Tok2
  (e_Lok (ps_iconst_0 (x_dk dn_181_0_0_ok 7 rfl)))
  (e_Tok2
  (e_Lok (lk_10_63p ho_181 (x_dk dn_181_0_0_ok 8 rfl)))
  (e_Lok (e_rt (I := eI) (k := 0) ⟨(x_dk dn_181_0_0_ok 9 rfl), rfl⟩))))))
def te_181 : Nat → eE := te_181_0
theorem te_181_ok : ∀ pc, e_EOq eft cls elay eI n_181 pc (te_181 pc) := te_181_0_ok
theorem ho_182 : (xm_y n_182).cls = "RobotCellHouse$Task" := rfl
def dn_182_0_0 : List (Nat × Instr × Nat) := [(0, .aload_n 0, 1), (1, .getfield 38, 3), (4, .bipush 20, 2), (6, .if_icmp .lt 5, 3), (9, .iconst 0, 1), (10, .ireturn, 1), (11, .aload_n 0, 1), (12, .getfield 11, 3), (15, .aload_n 0, 1), (16, .getfield 38, 3), (19, .aload_n 0, 1), (20, .getfield 70, 3), (23, .iastore, 1), (24, .aload_n 0, 1), (25, .getfield 15, 3), (28, .aload_n 0, 1), (29, .getfield 38, 3), (32, .aload_n 0, 1), (33, .getfield 63, 3), (36, .iastore, 1), (37, .aload_n 0, 1), (38, .dup, 1), (39, .getfield 38, 3), (42, .iconst 1, 1), (43, .iadd, 1)]
set_option maxRecDepth 20000 in
theorem dn_182_0_0_ok : dn_182_0_0.all (fun q => decide (decode (xm_b n_182) q.1 = .ok (q.2.1, q.2.2))) = true := xa_g_ok (by decide +kernel)
def dn_182_0_1 : List (Nat × Instr × Nat) := [(44, .putfield 38, 3), (47, .aload_n 0, 1), (48, .iload_n 1, 1), (49, .putfield 70, 3), (52, .iconst 1, 1), (53, .ireturn, 1)]
set_option maxRecDepth 20000 in
theorem dn_182_0_1_ok : dn_182_0_1.all (fun q => decide (decode (xm_b n_182) q.1 = .ok (q.2.1, q.2.2))) = true := xa_g_ok (by decide +kernel)
def te_182_0 : Nat → eE := (e_T 25 (e_T 11 (e_T 4 (e_T 0 (e_L 0 (0, ei_load 0 2 1, 0, 0)) (e_T 1 (e_L 1 (0, ei_getf eft elay 10 4 4, 0, 0)) (e_L 4 (0, ei_push (0, 20) 6, 0, 0)))) (e_T 9 (e_T 6 (e_L 6 (0, ei_if2 2 11 9, 0, 0)) (e_L 9 (0, ei_push (0, 0) 10, 0, 0))) (e_T 10 (e_L 10 (1, e_nof, 4, 0)) (e_L 11 (0, ei_load 0 2 12, 0, 0))))) (e_T 19 (e_T 15 (e_T 12 (e_L 12 (0, ei_getf eft elay 10 16 15, 0, 0)) (e_L 15 (0, ei_load 0 2 16, 0, 0))) (e_T 16 (e_L 16 (0, ei_getf eft elay 10 4 19, 0, 0)) (e_L 19 (0, ei_load 0 2 20, 0, 0)))) (e_T 23 (e_T 20 (e_L 20 (0, ei_getf eft elay 10 3 23, 0, 0)) (e_L 23 (0, ei_ast elay false 24, 0, 0))) (e_T 24 (e_L 24 (0, ei_load 0 2 25, 0, 0)) (e_L 25 (0, ei_getf eft elay 10 17 28, 0, 0)))))) (e_T 39 (e_T 33 (e_T 29 (e_T 28 (e_L 28 (0, ei_load 0 2 29, 0, 0)) (e_L 29 (0, ei_getf eft elay 10 4 32, 0, 0))) (e_T 32 (e_L 32 (0, ei_load 0 2 33, 0, 0)) (e_L 33 (0, ei_getf eft elay 10 15 36, 0, 0)))) (e_T 37 (e_T 36 (e_L 36 (0, ei_ast elay false 37, 0, 0)) (e_L 37 (0, ei_load 0 2 38, 0, 0))) (e_T 38 (e_L 38 (0, ei_stk ef_dup 39, 0, 0)) (e_L 39 (0, ei_getf eft elay 10 4 42, 0, 0))))) (e_T 47 (e_T 43 (e_T 42 (e_L 42 (0, ei_push (0, 1) 43, 0, 0)) (e_L 43 (0, ei_bin eF_add 44, 0, 0))) (e_T 44 (e_L 44 (0, ei_putf eft elay 10 4 0 47, 0, 0)) (e_L 47 (0, ei_load 0 2 48, 0, 0)))) (e_T 49 (e_T 48 (e_L 48 (0, ei_load 1 0 49, 0, 0)) (e_L 49 (0, ei_putf eft elay 10 3 0 52, 0, 0))) (e_T 52 (e_L 52 (0, ei_push (0, 1) 53, 0, 0)) (e_L 53 (1, e_nof, 4, 0)))))))
set_option maxRecDepth 20000 in
set_option maxHeartbeats 4000000 in
theorem te_182_0_ok : ∀ pc, e_EOq eft cls elay eI n_182 pc (te_182_0 pc) :=
  (e_Tok2
  (e_Tok2
  (e_Tok2
  (e_Tok2
  (e_Lok (ld_aload_n_0 (x_dk dn_182_0_0_ok 0 rfl)))
  (e_Tok2
  (e_Lok (lk_10_38g ho_182 (x_dk dn_182_0_0_ok 1 rfl)))
  (e_Lok (ps_bipush_20 (x_dk dn_182_0_0_ok 2 rfl)))))
  (e_Tok2
  (e_Tok2
  (e_Lok (e_st (I := eI) (er_icmplt (off := 5) (tg := 11) (x_dk dn_182_0_0_ok 3 rfl) (by decide)) nx_if2))
  (e_Lok (ps_iconst_0 (x_dk dn_182_0_0_ok 4 rfl))))
  (e_Tok2
  (e_Lok (e_rt (I := eI) (k := 4) ⟨(x_dk dn_182_0_0_ok 5 rfl), rfl⟩))
  (e_Lok (ld_aload_n_0 (x_dk dn_182_0_0_ok 6 rfl))))))
  (e_Tok2
  (e_Tok2
  (e_Tok2
  (e_Lok (lk_10_11g ho_182 (x_dk dn_182_0_0_ok 7 rfl)))
  (e_Lok (ld_aload_n_0 (x_dk dn_182_0_0_ok 8 rfl))))
  (e_Tok2
  (e_Lok (lk_10_38g ho_182 (x_dk dn_182_0_0_ok 9 rfl)))
  (e_Lok (ld_aload_n_0 (x_dk dn_182_0_0_ok 10 rfl)))))
  (e_Tok2
  (e_Tok2
  (e_Lok (lk_10_70g ho_182 (x_dk dn_182_0_0_ok 11 rfl)))
  (e_Lok (sm_iastore (x_dk dn_182_0_0_ok 12 rfl))))
  (e_Tok2
  (e_Lok (ld_aload_n_0 (x_dk dn_182_0_0_ok 13 rfl)))
  (e_Lok (lk_10_15g ho_182 (x_dk dn_182_0_0_ok 14 rfl)))))))
  (e_Tok2
  (e_Tok2
  (e_Tok2
  (e_Tok2
  (e_Lok (ld_aload_n_0 (x_dk dn_182_0_0_ok 15 rfl)))
  (e_Lok (lk_10_38g ho_182 (x_dk dn_182_0_0_ok 16 rfl))))
  (e_Tok2
  (e_Lok (ld_aload_n_0 (x_dk dn_182_0_0_ok 17 rfl)))
  (e_Lok (lk_10_63g ho_182 (x_dk dn_182_0_0_ok 18 rfl)))))
  (e_Tok2
  (e_Tok2
  (e_Lok (sm_iastore (x_dk dn_182_0_0_ok 19 rfl)))
  (e_Lok (ld_aload_n_0 (x_dk dn_182_0_0_ok 20 rfl))))
  (e_Tok2
  (e_Lok (e_st (I := eI) (er_dup (x_dk dn_182_0_0_ok 21 rfl)) (nx_stk bf_dup)))
  (e_Lok (lk_10_38g ho_182 (x_dk dn_182_0_0_ok 22 rfl))))))
  (e_Tok2
  (e_Tok2
  (e_Tok2
  (e_Lok (ps_iconst_1 (x_dk dn_182_0_0_ok 23 rfl)))
  (e_Lok (sm_iadd (x_dk dn_182_0_0_ok 24 rfl))))
  (e_Tok2
  (e_Lok (lk_10_38p ho_182 (x_dk dn_182_0_1_ok 0 rfl)))
  (e_Lok (ld_aload_n_0 (x_dk dn_182_0_1_ok 1 rfl)))))
  (e_Tok2
  (e_Tok2
  (e_Lok (ld_iload_n_1 (x_dk dn_182_0_1_ok 2 rfl)))
  (e_Lok (lk_10_70p ho_182 (x_dk dn_182_0_1_ok 3 rfl))))
  (e_Tok2
  (e_Lok (ps_iconst_1 (x_dk dn_182_0_1_ok 4 rfl)))
  (e_Lok (e_rt (I := eI) (k := 4) ⟨(x_dk dn_182_0_1_ok 5 rfl), rfl⟩)))))))
def te_182 : Nat → eE := te_182_0
theorem te_182_ok : ∀ pc, e_EOq eft cls elay eI n_182 pc (te_182 pc) := te_182_0_ok
theorem ho_183 : (xm_y n_183).cls = "RobotCellHouse$Task" := rfl
def dn_183_0_0 : List (Nat × Instr × Nat) := [(0, .aload_n 0, 1), (1, .getfield 38, 3), (4, .iconst 1, 1), (5, .if_icmp .ge 4, 3), (8, .return_, 1), (9, .aload_n 0, 1), (10, .dup, 1), (11, .getfield 38, 3), (14, .iconst 1, 1), (15, .isub, 1), (16, .putfield 38, 3), (19, .aload_n 0, 1), (20, .aload_n 0, 1), (21, .getfield 15, 3), (24, .aload_n 0, 1), (25, .getfield 38, 3), (28, .iaload, 1), (29, .putfield 63, 3), (32, .aload_n 0, 1), (33, .aload_n 0, 1), (34, .getfield 11, 3), (37, .aload_n 0, 1), (38, .getfield 38, 3), (41, .iaload, 1), (42, .putfield 70, 3)]
set_option maxRecDepth 20000 in
theorem dn_183_0_0_ok : dn_183_0_0.all (fun q => decide (decode (xm_b n_183) q.1 = .ok (q.2.1, q.2.2))) = true := xa_g_ok (by decide +kernel)
def dn_183_0_1 : List (Nat × Instr × Nat) := [(45, .return_, 1)]
set_option maxRecDepth 20000 in
theorem dn_183_0_1_ok : dn_183_0_1.all (fun q => decide (decode (xm_b n_183) q.1 = .ok (q.2.1, q.2.2))) = true := xa_g_ok (by decide +kernel)
def te_183_0 : Nat → eE := (e_T 20 (e_T 9 (e_T 4 (e_T 0 (e_L 0 (0, ei_load 0 2 1, 0, 0)) (e_T 1 (e_L 1 (0, ei_getf eft elay 10 4 4, 0, 0)) (e_L 4 (0, ei_push (0, 1) 5, 0, 0)))) (e_T 5 (e_L 5 (0, ei_if2 3 9 8, 0, 0)) (e_T 8 (e_L 8 (1, e_nof, 0, 0)) (e_L 9 (0, ei_load 0 2 10, 0, 0))))) (e_T 14 (e_T 10 (e_L 10 (0, ei_stk ef_dup 11, 0, 0)) (e_T 11 (e_L 11 (0, ei_getf eft elay 10 4 14, 0, 0)) (e_L 14 (0, ei_push (0, 1) 15, 0, 0)))) (e_T 16 (e_T 15 (e_L 15 (0, ei_bin eF_sub 16, 0, 0)) (e_L 16 (0, ei_putf eft elay 10 4 0 19, 0, 0))) (e_T 19 (e_L 19 (0, ei_load 0 2 20, 0, 0)) (e_L 20 (0, ei_load 0 2 21, 0, 0)))))) (e_T 32 (e_T 25 (e_T 21 (e_L 21 (0, ei_getf eft elay 10 17 24, 0, 0)) (e_T 24 (e_L 24 (0, ei_load 0 2 25, 0, 0)) (e_L 25 (0, ei_getf eft elay 10 4 28, 0, 0)))) (e_T 28 (e_L 28 (0, ei_ald elay false 29, 0, 0)) (e_T 29 (e_L 29 (0, ei_putf eft elay 10 15 0 32, 0, 0)) (e_L 32 (0, ei_load 0 2 33, 0, 0))))) (e_T 37 (e_T 33 (e_L 33 (0, ei_load 0 2 34, 0, 0)) (e_T 34 (e_L 34 (0, ei_getf eft elay 10 16 37, 0, 0)) (e_L 37 (0, ei_load 0 2 38, 0, 0)))) (e_T 41 (e_T 38 (e_L 38 (0, ei_getf eft elay 10 4 41, 0, 0)) (e_L 41 (0, ei_ald elay false 42, 0, 0))) (e_T 42 (e_L 42 (0, ei_putf eft elay 10 3 0 45, 0, 0)) (e_L 45 (1, e_nof, 0, 0)))))))
set_option maxRecDepth 20000 in
set_option maxHeartbeats 4000000 in
theorem te_183_0_ok : ∀ pc, e_EOq eft cls elay eI n_183 pc (te_183_0 pc) :=
  (e_Tok2
  (e_Tok2
  (e_Tok2
  (e_Tok2
  (e_Lok (ld_aload_n_0 (x_dk dn_183_0_0_ok 0 rfl)))
  (e_Tok2
  (e_Lok (lk_10_38g ho_183 (x_dk dn_183_0_0_ok 1 rfl)))
  (e_Lok (ps_iconst_1 (x_dk dn_183_0_0_ok 2 rfl)))))
  (e_Tok2
  (e_Lok (e_st (I := eI) (er_icmpge (off := 4) (tg := 9) (x_dk dn_183_0_0_ok 3 rfl) (by decide)) nx_if2))
  (e_Tok2
  (e_Lok (e_rt (I := eI) (k := 0) ⟨(x_dk dn_183_0_0_ok 4 rfl), rfl⟩))
  (e_Lok (ld_aload_n_0 (x_dk dn_183_0_0_ok 5 rfl))))))
  (e_Tok2
  (e_Tok2
  (e_Lok (e_st (I := eI) (er_dup (x_dk dn_183_0_0_ok 6 rfl)) (nx_stk bf_dup)))
  (e_Tok2
  (e_Lok (lk_10_38g ho_183 (x_dk dn_183_0_0_ok 7 rfl)))
  (e_Lok (ps_iconst_1 (x_dk dn_183_0_0_ok 8 rfl)))))
  (e_Tok2
  (e_Tok2
  (e_Lok (sm_isub (x_dk dn_183_0_0_ok 9 rfl)))
  (e_Lok (lk_10_38p ho_183 (x_dk dn_183_0_0_ok 10 rfl))))
  (e_Tok2
  (e_Lok (ld_aload_n_0 (x_dk dn_183_0_0_ok 11 rfl)))
  (e_Lok (ld_aload_n_0 (x_dk dn_183_0_0_ok 12 rfl)))))))
  (e_Tok2
  (e_Tok2
  (e_Tok2
  (e_Lok (lk_10_15g ho_183 (x_dk dn_183_0_0_ok 13 rfl)))
  (e_Tok2
  (e_Lok (ld_aload_n_0 (x_dk dn_183_0_0_ok 14 rfl)))
  (e_Lok (lk_10_38g ho_183 (x_dk dn_183_0_0_ok 15 rfl)))))
  (e_Tok2
  (e_Lok (sm_iaload (x_dk dn_183_0_0_ok 16 rfl)))
  (e_Tok2
  (e_Lok (lk_10_63p ho_183 (x_dk dn_183_0_0_ok 17 rfl)))
  (e_Lok (ld_aload_n_0 (x_dk dn_183_0_0_ok 18 rfl))))))
  (e_Tok2
  (e_Tok2
  (e_Lok (ld_aload_n_0 (x_dk dn_183_0_0_ok 19 rfl)))
  (e_Tok2
  (e_Lok (lk_10_11g ho_183 (x_dk dn_183_0_0_ok 20 rfl)))
  (e_Lok (ld_aload_n_0 (x_dk dn_183_0_0_ok 21 rfl)))))
  (e_Tok2
  (e_Tok2
  (e_Lok (lk_10_38g ho_183 (x_dk dn_183_0_0_ok 22 rfl)))
  (e_Lok (sm_iaload (x_dk dn_183_0_0_ok 23 rfl))))
  (e_Tok2
  (e_Lok (lk_10_70p ho_183 (x_dk dn_183_0_0_ok 24 rfl)))
  (e_Lok (e_rt (I := eI) (k := 0) ⟨(x_dk dn_183_0_1_ok 0 rfl), rfl⟩)))))))
def te_183 : Nat → eE := te_183_0
theorem te_183_ok : ∀ pc, e_EOq eft cls elay eI n_183 pc (te_183 pc) := te_183_0_ok
theorem ho_184 : (xm_y n_184).cls = "RobotCellHouse$Task" := rfl
def dn_184_0_0 : List (Nat × Instr × Nat) := [(0, .aload_n 0, 1), (1, .getfield 63, 3), (4, .sipush 600, 3), (7, .if_icmp .lt 4, 3), (10, .return_, 1), (11, .aload_n 0, 1), (12, .getfield 18, 3), (15, .aload_n 0, 1), (16, .getfield 63, 3), (19, .iload_n 1, 1), (20, .iastore, 1), (21, .aload_n 0, 1), (22, .getfield 21, 3), (25, .aload_n 0, 1), (26, .getfield 63, 3), (29, .iconst 0, 1), (30, .iastore, 1), (31, .aload_n 0, 1), (32, .dup, 1), (33, .getfield 63, 3), (36, .iconst 1, 1), (37, .iadd, 1), (38, .putfield 63, 3), (41, .return_, 1)]
set_option maxRecDepth 20000 in
theorem dn_184_0_0_ok : dn_184_0_0.all (fun q => decide (decode (xm_b n_184) q.1 = .ok (q.2.1, q.2.2))) = true := xa_g_ok (by decide +kernel)
def te_184_0 : Nat → eE := (e_T 21 (e_T 11 (e_T 4 (e_T 0 (e_L 0 (0, ei_load 0 2 1, 0, 0)) (e_T 1 (e_L 1 (0, ei_getf eft elay 10 15 4, 0, 0)) (e_L 4 (0, ei_push (0, 600) 7, 0, 0)))) (e_T 7 (e_L 7 (0, ei_if2 2 11 10, 0, 0)) (e_T 10 (e_L 10 (1, e_nof, 0, 0)) (e_L 11 (0, ei_load 0 2 12, 0, 0))))) (e_T 16 (e_T 12 (e_L 12 (0, ei_getf eft elay 10 18 15, 0, 0)) (e_T 15 (e_L 15 (0, ei_load 0 2 16, 0, 0)) (e_L 16 (0, ei_getf eft elay 10 15 19, 0, 0)))) (e_T 19 (e_L 19 (0, ei_load 1 0 20, 0, 0)) (e_T 20 (e_L 20 (0, ei_ast elay false 21, 0, 0)) (e_L 21 (0, ei_load 0 2 22, 0, 0)))))) (e_T 31 (e_T 26 (e_T 22 (e_L 22 (0, ei_getf eft elay 10 19 25, 0, 0)) (e_T 25 (e_L 25 (0, ei_load 0 2 26, 0, 0)) (e_L 26 (0, ei_getf eft elay 10 15 29, 0, 0)))) (e_T 29 (e_L 29 (0, ei_push (0, 0) 30, 0, 0)) (e_T 30 (e_L 30 (0, ei_ast elay false 31, 0, 0)) (e_L 31 (0, ei_load 0 2 32, 0, 0))))) (e_T 36 (e_T 32 (e_L 32 (0, ei_stk ef_dup 33, 0, 0)) (e_T 33 (e_L 33 (0, ei_getf eft elay 10 15 36, 0, 0)) (e_L 36 (0, ei_push (0, 1) 37, 0, 0)))) (e_T 37 (e_L 37 (0, ei_bin eF_add 38, 0, 0)) (e_T 38 (e_L 38 (0, ei_putf eft elay 10 15 0 41, 0, 0)) (e_L 41 (1, e_nof, 0, 0)))))))
set_option maxRecDepth 20000 in
set_option maxHeartbeats 4000000 in
theorem te_184_0_ok : ∀ pc, e_EOq eft cls elay eI n_184 pc (te_184_0 pc) :=
  (e_Tok2
  (e_Tok2
  (e_Tok2
  (e_Tok2
  (e_Lok (ld_aload_n_0 (x_dk dn_184_0_0_ok 0 rfl)))
  (e_Tok2
  (e_Lok (lk_10_63g ho_184 (x_dk dn_184_0_0_ok 1 rfl)))
  (e_Lok (ps_sipush_600 (x_dk dn_184_0_0_ok 2 rfl)))))
  (e_Tok2
  (e_Lok (e_st (I := eI) (er_icmplt (off := 4) (tg := 11) (x_dk dn_184_0_0_ok 3 rfl) (by decide)) nx_if2))
  (e_Tok2
  (e_Lok (e_rt (I := eI) (k := 0) ⟨(x_dk dn_184_0_0_ok 4 rfl), rfl⟩))
  (e_Lok (ld_aload_n_0 (x_dk dn_184_0_0_ok 5 rfl))))))
  (e_Tok2
  (e_Tok2
  (e_Lok (lk_10_18g ho_184 (x_dk dn_184_0_0_ok 6 rfl)))
  (e_Tok2
  (e_Lok (ld_aload_n_0 (x_dk dn_184_0_0_ok 7 rfl)))
  (e_Lok (lk_10_63g ho_184 (x_dk dn_184_0_0_ok 8 rfl)))))
  (e_Tok2
  (e_Lok (ld_iload_n_1 (x_dk dn_184_0_0_ok 9 rfl)))
  (e_Tok2
  (e_Lok (sm_iastore (x_dk dn_184_0_0_ok 10 rfl)))
  (e_Lok (ld_aload_n_0 (x_dk dn_184_0_0_ok 11 rfl)))))))
  (e_Tok2
  (e_Tok2
  (e_Tok2
  (e_Lok (lk_10_21g ho_184 (x_dk dn_184_0_0_ok 12 rfl)))
  (e_Tok2
  (e_Lok (ld_aload_n_0 (x_dk dn_184_0_0_ok 13 rfl)))
  (e_Lok (lk_10_63g ho_184 (x_dk dn_184_0_0_ok 14 rfl)))))
  (e_Tok2
  (e_Lok (ps_iconst_0 (x_dk dn_184_0_0_ok 15 rfl)))
  (e_Tok2
  (e_Lok (sm_iastore (x_dk dn_184_0_0_ok 16 rfl)))
  (e_Lok (ld_aload_n_0 (x_dk dn_184_0_0_ok 17 rfl))))))
  (e_Tok2
  (e_Tok2
  (e_Lok (e_st (I := eI) (er_dup (x_dk dn_184_0_0_ok 18 rfl)) (nx_stk bf_dup)))
  (e_Tok2
  (e_Lok (lk_10_63g ho_184 (x_dk dn_184_0_0_ok 19 rfl)))
  (e_Lok (ps_iconst_1 (x_dk dn_184_0_0_ok 20 rfl)))))
  (e_Tok2
  (e_Lok (sm_iadd (x_dk dn_184_0_0_ok 21 rfl)))
  (e_Tok2
  (e_Lok (lk_10_63p ho_184 (x_dk dn_184_0_0_ok 22 rfl)))
  (e_Lok (e_rt (I := eI) (k := 0) ⟨(x_dk dn_184_0_0_ok 23 rfl), rfl⟩)))))))
def te_184 : Nat → eE := te_184_0
theorem te_184_ok : ∀ pc, e_EOq eft cls elay eI n_184 pc (te_184 pc) := te_184_0_ok
theorem ho_185 : (xm_y n_185).cls = "RobotCellHouse$Task" := rfl
def dn_185_0_0 : List (Nat × Instr × Nat) := [(0, .aload_n 0, 1), (1, .getfield 63, 3), (4, .iconst 1, 1), (5, .if_icmp .ge 4, 3), (8, .return_, 1), (9, .aload_n 0, 1), (10, .getfield 18, 3), (13, .aload_n 0, 1), (14, .getfield 63, 3), (17, .iconst 1, 1), (18, .isub, 1), (19, .iaload, 1), (20, .istore_n 2, 1), (21, .aload_n 1, 1), (22, .iload_n 2, 1), (23, .iconst 2, 1), (24, .iadd, 1), (25, .invokevirtual 73, 3), (28, .istore_n 3, 1), (29, .iload_n 3, 1), (30, .ifCond .ne 27, 3), (33, .aload_n 0, 1), (34, .dup, 1), (35, .getfield 63, 3), (38, .iconst 1, 1)]
set_option maxRecDepth 20000 in
theorem dn_185_0_0_ok : dn_185_0_0.all (fun q => decide (decode (xm_b n_185) q.1 = .ok (q.2.1, q.2.2))) = true := xa_g_ok (by decide +kernel)
def dn_185_0_1 : List (Nat × Instr × Nat) := [(39, .isub, 1), (40, .putfield 63, 3), (43, .aload_n 0, 1), (44, .aload_n 1, 1), (45, .iload_n 2, 1), (46, .iconst 3, 1), (47, .iadd, 1), (48, .invokevirtual 73, 3), (51, .putfield 70, 3), (54, .goto 20, 3), (57, .aload_n 0, 1), (58, .getfield 21, 3), (61, .aload_n 0, 1), (62, .getfield 63, 3), (65, .iconst 1, 1), (66, .isub, 1), (67, .iconst 2, 1), (68, .iastore, 1), (69, .aload_n 0, 1), (70, .iload_n 3, 1), (71, .putfield 70, 3), (74, .return_, 1)]
set_option maxRecDepth 20000 in
theorem dn_185_0_1_ok : dn_185_0_1.all (fun q => decide (decode (xm_b n_185) q.1 = .ok (q.2.1, q.2.2))) = true := xa_g_ok (by decide +kernel)
def te_185_0 : Nat → eE := (e_T 18 (e_T 8 (e_T 1 (e_T 0 (e_L 0 (0, ei_load 0 2 1, 0, 0)) (e_L 1 (0, ei_getf eft elay 10 15 4, 0, 0))) (e_T 4 (e_L 4 (0, ei_push (0, 1) 5, 0, 0)) (e_T 5 (e_L 5 (0, ei_if2 3 9 8, 0, 0)) (e_L 8 (1, e_nof, 0, 0))))) (e_T 13 (e_T 9 (e_L 9 (0, ei_load 0 2 10, 0, 0)) (e_T 10 (e_L 10 (0, ei_getf eft elay 10 18 13, 0, 0)) (e_L 13 (0, ei_load 0 2 14, 0, 0)))) (e_T 14 (e_L 14 (0, ei_getf eft elay 10 15 17, 0, 0)) (e_T 17 (e_L 17 (0, ei_push (0, 1) 18, 0, 0)) (e_L 18 (0, ei_bin eF_sub 19, 0, 0)))))) (e_T 24 (e_T 21 (e_T 19 (e_L 19 (0, ei_ald elay false 20, 0, 0)) (e_T 20 (e_L 20 (0, ei_stor 2 0 21, 0, 0)) (e_L 21 (0, ei_load 1 2 22, 0, 0)))) (e_T 22 (e_L 22 (0, ei_load 2 0 23, 0, 0)) (e_T 23 (e_L 23 (0, ei_push (0, 2) 24, 0, 0)) (e_L 24 (0, ei_bin eF_add 25, 0, 0))))) (e_T 29 (e_T 25 (e_L 25 (2, e_nof, 24, 2)) (e_T 28 (e_L 28 (0, ei_stor 3 0 29, 0, 0)) (e_L 29 (0, ei_load 3 0 30, 0, 0)))) (e_T 30 (e_L 30 (0, ei_if1 1 57 33, 0, 0)) (e_T 33 (e_L 33 (0, ei_load 0 2 34, 0, 0)) (e_L 34 (0, ei_stk ef_dup 35, 0, 0)))))))
set_option maxRecDepth 20000 in
set_option maxHeartbeats 4000000 in
theorem te_185_0_ok : ∀ pc, e_EOq eft cls elay eI n_185 pc (te_185_0 pc) :=
  (e_Tok2
  (e_Tok2
  (e_Tok2
  (e_Tok2
  (e_Lok (ld_aload_n_0 (x_dk dn_185_0_0_ok 0 rfl)))
  (e_Lok (lk_10_63g ho_185 (x_dk dn_185_0_0_ok 1 rfl))))
  (e_Tok2
  (e_Lok (ps_iconst_1 (x_dk dn_185_0_0_ok 2 rfl)))
  (e_Tok2
  (e_Lok (e_st (I := eI) (er_icmpge (off := 4) (tg := 9) (x_dk dn_185_0_0_ok 3 rfl) (by decide)) nx_if2))
  (e_Lok (e_rt (I := eI) (k := 0) ⟨(x_dk dn_185_0_0_ok 4 rfl), rfl⟩)))))
  (e_Tok2
  (e_Tok2
  (e_Lok (ld_aload_n_0 (x_dk dn_185_0_0_ok 5 rfl)))
  (e_Tok2
  (e_Lok (lk_10_18g ho_185 (x_dk dn_185_0_0_ok 6 rfl)))
  (e_Lok (ld_aload_n_0 (x_dk dn_185_0_0_ok 7 rfl)))))
  (e_Tok2
  (e_Lok (lk_10_63g ho_185 (x_dk dn_185_0_0_ok 8 rfl)))
  (e_Tok2
  (e_Lok (ps_iconst_1 (x_dk dn_185_0_0_ok 9 rfl)))
  (e_Lok (sm_isub (x_dk dn_185_0_0_ok 10 rfl)))))))
  (e_Tok2
  (e_Tok2
  (e_Tok2
  (e_Lok (sm_iaload (x_dk dn_185_0_0_ok 11 rfl)))
  (e_Tok2
  (e_Lok (e_st (I := eI) (er_istore_n (i := 2) (x_dk dn_185_0_0_ok 12 rfl) (by decide +kernel)) nx_stor))
  (e_Lok (ld_aload_n_1 (x_dk dn_185_0_0_ok 13 rfl)))))
  (e_Tok2
  (e_Lok (ld_iload_n_2 (x_dk dn_185_0_0_ok 14 rfl)))
  (e_Tok2
  (e_Lok (ps_iconst_2 (x_dk dn_185_0_0_ok 15 rfl)))
  (e_Lok (sm_iadd (x_dk dn_185_0_0_ok 16 rfl))))))
  (e_Tok2
  (e_Tok2
  (e_Lok (lk_10_73 ho_185 (x_dk dn_185_0_0_ok 17 rfl)))
  (e_Tok2
  (e_Lok (e_st (I := eI) (er_istore_n (i := 3) (x_dk dn_185_0_0_ok 18 rfl) (by decide +kernel)) nx_stor))
  (e_Lok (ld_iload_n_3 (x_dk dn_185_0_0_ok 19 rfl)))))
  (e_Tok2
  (e_Lok (e_st (I := eI) (er_ifne (off := 27) (tg := 57) (x_dk dn_185_0_0_ok 20 rfl) (by decide)) nx_if1))
  (e_Tok2
  (e_Lok (ld_aload_n_0 (x_dk dn_185_0_0_ok 21 rfl)))
  (e_Lok (e_st (I := eI) (er_dup (x_dk dn_185_0_0_ok 22 rfl)) (nx_stk bf_dup))))))))
def te_185_23 : Nat → eE := (e_T 54 (e_T 44 (e_T 39 (e_T 35 (e_L 35 (0, ei_getf eft elay 10 15 38, 0, 0)) (e_T 38 (e_L 38 (0, ei_push (0, 1) 39, 0, 0)) (e_L 39 (0, ei_bin eF_sub 40, 0, 0)))) (e_T 40 (e_L 40 (0, ei_putf eft elay 10 15 0 43, 0, 0)) (e_T 43 (e_L 43 (0, ei_load 0 2 44, 0, 0)) (e_L 44 (0, ei_load 1 2 45, 0, 0))))) (e_T 47 (e_T 45 (e_L 45 (0, ei_load 2 0 46, 0, 0)) (e_T 46 (e_L 46 (0, ei_push (0, 3) 47, 0, 0)) (e_L 47 (0, ei_bin eF_add 48, 0, 0)))) (e_T 48 (e_L 48 (2, e_nof, 24, 2)) (e_T 51 (e_L 51 (0, ei_putf eft elay 10 3 0 54, 0, 0)) (e_L 54 (0, ei_goto 74, 0, 0)))))) (e_T 66 (e_T 61 (e_T 57 (e_L 57 (0, ei_load 0 2 58, 0, 0)) (e_T 58 (e_L 58 (0, ei_getf eft elay 10 19 61, 0, 0)) (e_L 61 (0, ei_load 0 2 62, 0, 0)))) (e_T 62 (e_L 62 (0, ei_getf eft elay 10 15 65, 0, 0)) (e_T 65 (e_L 65 (0, ei_push (0, 1) 66, 0, 0)) (e_L 66 (0, ei_bin eF_sub 67, 0, 0))))) (e_T 69 (e_T 67 (e_L 67 (0, ei_push (0, 2) 68, 0, 0)) (e_T 68 (e_L 68 (0, ei_ast elay false 69, 0, 0)) (e_L 69 (0, ei_load 0 2 70, 0, 0)))) (e_T 70 (e_L 70 (0, ei_load 3 0 71, 0, 0)) (e_T 71 (e_L 71 (0, ei_putf eft elay 10 3 0 74, 0, 0)) (e_L 74 (1, e_nof, 0, 0)))))))
set_option maxRecDepth 20000 in
set_option maxHeartbeats 4000000 in
theorem te_185_23_ok : ∀ pc, e_EOq eft cls elay eI n_185 pc (te_185_23 pc) :=
  (e_Tok2
  (e_Tok2
  (e_Tok2
  (e_Tok2
  (e_Lok (lk_10_63g ho_185 (x_dk dn_185_0_0_ok 23 rfl)))
  (e_Tok2
  (e_Lok (ps_iconst_1 (x_dk dn_185_0_0_ok 24 rfl)))
  (e_Lok (sm_isub (x_dk dn_185_0_1_ok 0 rfl)))))
  (e_Tok2
  (e_Lok (lk_10_63p ho_185 (x_dk dn_185_0_1_ok 1 rfl)))
  (e_Tok2
  (e_Lok (ld_aload_n_0 (x_dk dn_185_0_1_ok 2 rfl)))
  (e_Lok (ld_aload_n_1 (x_dk dn_185_0_1_ok 3 rfl))))))
  (e_Tok2
  (e_Tok2
  (e_Lok (ld_iload_n_2 (x_dk dn_185_0_1_ok 4 rfl)))
  (e_Tok2
  (e_Lok (ps_iconst_3 (x_dk dn_185_0_1_ok 5 rfl)))
  (e_Lok (sm_iadd (x_dk dn_185_0_1_ok 6 rfl)))))
  (e_Tok2
  (e_Lok (lk_10_73 ho_185 (x_dk dn_185_0_1_ok 7 rfl)))
  (e_Tok2
  (e_Lok (lk_10_70p ho_185 (x_dk dn_185_0_1_ok 8 rfl)))
  (e_Lok (e_st (I := eI) (er_goto (off := 20) (tg := 74) (x_dk dn_185_0_1_ok 9 rfl) (by decide)) nx_goto))))))
  (e_Tok2
  (e_Tok2
  (e_Tok2
  (e_Lok (ld_aload_n_0 (x_dk dn_185_0_1_ok 10 rfl)))
  (e_Tok2
  (e_Lok (lk_10_21g ho_185 (x_dk dn_185_0_1_ok 11 rfl)))
  (e_Lok (ld_aload_n_0 (x_dk dn_185_0_1_ok 12 rfl)))))
  (e_Tok2
  (e_Lok (lk_10_63g ho_185 (x_dk dn_185_0_1_ok 13 rfl)))
  (e_Tok2
  (e_Lok (ps_iconst_1 (x_dk dn_185_0_1_ok 14 rfl)))
  (e_Lok (sm_isub (x_dk dn_185_0_1_ok 15 rfl))))))
  (e_Tok2
  (e_Tok2
  (e_Lok (ps_iconst_2 (x_dk dn_185_0_1_ok 16 rfl)))
  (e_Tok2
  (e_Lok (sm_iastore (x_dk dn_185_0_1_ok 17 rfl)))
  (e_Lok (ld_aload_n_0 (x_dk dn_185_0_1_ok 18 rfl)))))
  (e_Tok2
  (e_Lok (ld_iload_n_3 (x_dk dn_185_0_1_ok 19 rfl)))
  (e_Tok2
  (e_Lok (lk_10_70p ho_185 (x_dk dn_185_0_1_ok 20 rfl)))
  (e_Lok (e_rt (I := eI) (k := 0) ⟨(x_dk dn_185_0_1_ok 21 rfl), rfl⟩)))))))
def te_185 : Nat → eE := (e_T 34 te_185_0 te_185_23)
theorem te_185_ok : ∀ pc, e_EOq eft cls elay eI n_185 pc (te_185 pc) := (e_Tok2 (te_185_0_ok) (te_185_23_ok))
theorem ho_186 : (xm_y n_186).cls = "RobotCellHouse$Task" := rfl
def dn_186_0_0 : List (Nat × Instr × Nat) := [(0, .aload_n 0, 1), (1, .getfield 63, 3), (4, .iconst 1, 1), (5, .if_icmp .ge 5, 3), (8, .iconst 0, 1), (9, .ireturn, 1), (10, .aload_n 0, 1), (11, .dup, 1), (12, .getfield 63, 3), (15, .iconst 1, 1), (16, .isub, 1), (17, .putfield 63, 3), (20, .aload_n 0, 1), (21, .getfield 21, 3), (24, .aload_n 0, 1), (25, .getfield 63, 3), (28, .iaload, 1), (29, .iconst 2, 1), (30, .ishr, 1), (31, .ireturn, 1)]
set_option maxRecDepth 20000 in
theorem dn_186_0_0_ok : dn_186_0_0.all (fun q => decide (decode (xm_b n_186) q.1 = .ok (q.2.1, q.2.2))) = true := xa_g_ok (by decide +kernel)
def te_186_0 : Nat → eE := (e_T 15 (e_T 8 (e_T 1 (e_T 0 (e_L 0 (0, ei_load 0 2 1, 0, 0)) (e_L 1 (0, ei_getf eft elay 10 15 4, 0, 0))) (e_T 4 (e_L 4 (0, ei_push (0, 1) 5, 0, 0)) (e_T 5 (e_L 5 (0, ei_if2 3 10 8, 0, 0)) (e_L 8 (0, ei_push (0, 0) 9, 0, 0))))) (e_T 10 (e_T 9 (e_L 9 (1, e_nof, 1, 0)) (e_L 10 (0, ei_load 0 2 11, 0, 0))) (e_T 11 (e_L 11 (0, ei_stk ef_dup 12, 0, 0)) (e_T 12 (e_L 12 (0, ei_getf eft elay 10 15 15, 0, 0)) (e_L 15 (0, ei_push (0, 1) 16, 0, 0)))))) (e_T 24 (e_T 17 (e_T 16 (e_L 16 (0, ei_bin eF_sub 17, 0, 0)) (e_L 17 (0, ei_putf eft elay 10 15 0 20, 0, 0))) (e_T 20 (e_L 20 (0, ei_load 0 2 21, 0, 0)) (e_T 21 (e_L 21 (0, ei_getf eft elay 10 19 24, 0, 0)) (e_L 24 (0, ei_load 0 2 25, 0, 0))))) (e_T 28 (e_T 25 (e_L 25 (0, ei_getf eft elay 10 15 28, 0, 0)) (e_L 28 (0, ei_ald elay false 29, 0, 0))) (e_T 29 (e_L 29 (0, ei_push (0, 2) 30, 0, 0)) (e_T 30 (e_L 30 (0, ei_bin (eB (fun x y => x >>> (y &&& 31))) 31, 0, 0)) (e_L 31 (1, e_nof, 1, 0)))))))
set_option maxRecDepth 20000 in
set_option maxHeartbeats 4000000 in
theorem te_186_0_ok : ∀ pc, e_EOq eft cls elay eI n_186 pc (te_186_0 pc) :=
  (e_Tok2
  (e_Tok2
  (e_Tok2
  (e_Tok2
  (e_Lok (ld_aload_n_0 (x_dk dn_186_0_0_ok 0 rfl)))
  (e_Lok (lk_10_63g ho_186 (x_dk dn_186_0_0_ok 1 rfl))))
  (e_Tok2
  (e_Lok (ps_iconst_1 (x_dk dn_186_0_0_ok 2 rfl)))
  (e_Tok2
  (e_Lok (e_st (I := eI) (er_icmpge (off := 5) (tg := 10) (x_dk dn_186_0_0_ok 3 rfl) (by decide)) nx_if2))
  (e_Lok (ps_iconst_0 (x_dk dn_186_0_0_ok 4 rfl))))))
  (e_Tok2
  (e_Tok2
  (e_Lok (e_rt (I := eI) (k := 1) ⟨(x_dk dn_186_0_0_ok 5 rfl), rfl⟩))
  (e_Lok (ld_aload_n_0 (x_dk dn_186_0_0_ok 6 rfl))))
  (e_Tok2
  (e_Lok (e_st (I := eI) (er_dup (x_dk dn_186_0_0_ok 7 rfl)) (nx_stk bf_dup)))
  (e_Tok2
  (e_Lok (lk_10_63g ho_186 (x_dk dn_186_0_0_ok 8 rfl)))
  (e_Lok (ps_iconst_1 (x_dk dn_186_0_0_ok 9 rfl)))))))
  (e_Tok2
  (e_Tok2
  (e_Tok2
  (e_Lok (sm_isub (x_dk dn_186_0_0_ok 10 rfl)))
  (e_Lok (lk_10_63p ho_186 (x_dk dn_186_0_0_ok 11 rfl))))
  (e_Tok2
  (e_Lok (ld_aload_n_0 (x_dk dn_186_0_0_ok 12 rfl)))
  (e_Tok2
  (e_Lok (lk_10_21g ho_186 (x_dk dn_186_0_0_ok 13 rfl)))
  (e_Lok (ld_aload_n_0 (x_dk dn_186_0_0_ok 14 rfl))))))
  (e_Tok2
  (e_Tok2
  (e_Lok (lk_10_63g ho_186 (x_dk dn_186_0_0_ok 15 rfl)))
  (e_Lok (sm_iaload (x_dk dn_186_0_0_ok 16 rfl))))
  (e_Tok2
  (e_Lok (ps_iconst_2 (x_dk dn_186_0_0_ok 17 rfl)))
  (e_Tok2
  (e_Lok (e_st (I := eI) (er_ishr (x_dk dn_186_0_0_ok 18 rfl)) nx_bin))
  (e_Lok (e_rt (I := eI) (k := 1) ⟨(x_dk dn_186_0_0_ok 19 rfl), rfl⟩)))))))
def te_186 : Nat → eE := te_186_0
theorem te_186_ok : ∀ pc, e_EOq eft cls elay eI n_186 pc (te_186 pc) := te_186_0_ok
theorem ho_187 : (xm_y n_187).cls = "RobotCellHouse$Task" := rfl
def dn_187_0_0 : List (Nat × Instr × Nat) := [(0, .aload_n 0, 1), (1, .getfield 63, 3), (4, .sipush 600, 3), (7, .if_icmp .ge 15, 3), (10, .aload_n 0, 1), (11, .getfield 24, 3), (14, .aload_n 0, 1), (15, .getfield 63, 3), (18, .iaload, 1), (19, .goto 4, 3), (22, .iconst 0, 1), (23, .ireturn, 1)]
set_option maxRecDepth 20000 in
theorem dn_187_0_0_ok : dn_187_0_0.all (fun q => decide (decode (xm_b n_187) q.1 = .ok (q.2.1, q.2.2))) = true := xa_g_ok (by decide +kernel)
def te_187_0 : Nat → eE := (e_T 11 (e_T 4 (e_T 0 (e_L 0 (0, ei_load 0 2 1, 0, 0)) (e_T 1 (e_L 1 (0, ei_getf eft elay 10 15 4, 0, 0)) (e_L 4 (0, ei_push (0, 600) 7, 0, 0)))) (e_T 7 (e_L 7 (0, ei_if2 3 22 10, 0, 0)) (e_T 10 (e_L 10 (0, ei_load 0 2 11, 0, 0)) (e_L 11 (0, ei_getf eft elay 10 20 14, 0, 0))))) (e_T 18 (e_T 14 (e_L 14 (0, ei_load 0 2 15, 0, 0)) (e_T 15 (e_L 15 (0, ei_getf eft elay 10 15 18, 0, 0)) (e_L 18 (0, ei_ald elay false 19, 0, 0)))) (e_T 19 (e_L 19 (0, ei_goto 23, 0, 0)) (e_T 22 (e_L 22 (0, ei_push (0, 0) 23, 0, 0)) (e_L 23 (1, e_nof, 1, 0))))))
set_option maxRecDepth 20000 in
set_option maxHeartbeats 4000000 in
theorem te_187_0_ok : ∀ pc, e_EOq eft cls elay eI n_187 pc (te_187_0 pc) :=
  (e_Tok2
  (e_Tok2
  (e_Tok2
  (e_Lok (ld_aload_n_0 (x_dk dn_187_0_0_ok 0 rfl)))
  (e_Tok2
  (e_Lok (lk_10_63g ho_187 (x_dk dn_187_0_0_ok 1 rfl)))
  (e_Lok (ps_sipush_600 (x_dk dn_187_0_0_ok 2 rfl)))))
  (e_Tok2
  (e_Lok (e_st (I := eI) (er_icmpge (off := 15) (tg := 22) (x_dk dn_187_0_0_ok 3 rfl) (by decide)) nx_if2))
  (e_Tok2
  (e_Lok (ld_aload_n_0 (x_dk dn_187_0_0_ok 4 rfl)))
  (e_Lok (lk_10_24g ho_187 (x_dk dn_187_0_0_ok 5 rfl))))))
  (e_Tok2
  (e_Tok2
  (e_Lok (ld_aload_n_0 (x_dk dn_187_0_0_ok 6 rfl)))
  (e_Tok2
  (e_Lok (lk_10_63g ho_187 (x_dk dn_187_0_0_ok 7 rfl)))
  (e_Lok (sm_iaload (x_dk dn_187_0_0_ok 8 rfl)))))
  (e_Tok2
  (e_Lok (e_st (I := eI) (er_goto (off := 4) (tg := 23) (x_dk dn_187_0_0_ok 9 rfl) (by decide)) nx_goto))
  (e_Tok2
  (e_Lok (ps_iconst_0 (x_dk dn_187_0_0_ok 10 rfl)))
  (e_Lok (e_rt (I := eI) (k := 1) ⟨(x_dk dn_187_0_0_ok 11 rfl), rfl⟩))))))
def te_187 : Nat → eE := te_187_0
theorem te_187_ok : ∀ pc, e_EOq eft cls elay eI n_187 pc (te_187 pc) := te_187_0_ok
theorem ho_188 : (xm_y n_188).cls = "RobotCellHouse$Task" := rfl
def dn_188_0_0 : List (Nat × Instr × Nat) := [(0, .iload_n 2, 1), (1, .iconst 1, 1), (2, .if_icmp .eq 11, 3), (5, .aload_n 0, 1), (6, .getfield 38, 3), (9, .iconst 1, 1), (10, .if_icmp .ge 7, 3), (13, .iconst 0, 1), (14, .goto 14, 3), (17, .aload_n 0, 1), (18, .getfield 15, 3), (21, .aload_n 0, 1), (22, .getfield 38, 3), (25, .iconst 1, 1), (26, .isub, 1), (27, .iaload, 1), (28, .istore 4, 2), (30, .iload_n 2, 1), (31, .iconst 3, 1), (32, .if_icmp .ne 13, 3), (35, .iload 4, 2), (37, .aload_n 1, 1), (38, .iload_n 3, 1), (39, .invokevirtual 73, 3), (42, .iadd, 1)]
set_option maxRecDepth 20000 in
theorem dn_188_0_0_ok : dn_188_0_0.all (fun q => decide (decode (xm_b n_188) q.1 = .ok (q.2.1, q.2.2))) = true := xa_g_ok (by decide +kernel)
def dn_188_0_1 : List (Nat × Instr × Nat) := [(43, .istore 4, 2), (45, .aload_n 0, 1), (46, .getfield 63, 3), (49, .iload 4, 2), (51, .if_icmp .le 133, 3), (54, .aload_n 0, 1), (55, .getfield 18, 3), (58, .aload_n 0, 1), (59, .getfield 63, 3), (62, .iconst 1, 1), (63, .isub, 1), (64, .iaload, 1), (65, .istore 5, 2), (67, .aload_n 0, 1), (68, .getfield 21, 3), (71, .aload_n 0, 1), (72, .getfield 63, 3), (75, .iconst 1, 1), (76, .isub, 1), (77, .iaload, 1), (78, .iconst 3, 1), (79, .iand, 1), (80, .istore 6, 2), (82, .iload_n 2, 1), (83, .iconst 1, 1)]
set_option maxRecDepth 20000 in
theorem dn_188_0_1_ok : dn_188_0_1.all (fun q => decide (decode (xm_b n_188) q.1 = .ok (q.2.1, q.2.2))) = true := xa_g_ok (by decide +kernel)
def dn_188_0_2 : List (Nat × Instr × Nat) := [(84, .if_icmp .ne 39, 3), (87, .iload 6, 2), (89, .ifCond .ne 34, 3), (92, .aload_n 1, 1), (93, .iload 5, 2), (95, .iconst 1, 1), (96, .iadd, 1), (97, .invokevirtual 73, 3), (100, .ifCond .eq 23, 3), (103, .aload_n 0, 1), (104, .iload_n 3, 1), (105, .putfield 50, 3), (108, .aload_n 0, 1), (109, .iconst 1, 1), (110, .aload_n 1, 1), (111, .iload 5, 2), (113, .iconst 1, 1), (114, .iadd, 1), (115, .invokevirtual 73, 3), (118, .invokevirtual 79, 3), (121, .iconst 1, 1), (122, .ireturn, 1), (123, .iload 6, 2), (125, .iconst 2, 1), (126, .if_icmp .eq 45, 3)]
set_option maxRecDepth 20000 in
theorem dn_188_0_2_ok : dn_188_0_2.all (fun q => decide (decode (xm_b n_188) q.1 = .ok (q.2.1, q.2.2))) = true := xa_g_ok (by decide +kernel)
def dn_188_0_3 : List (Nat × Instr × Nat) := [(129, .aload_n 1, 1), (130, .iload 5, 2), (132, .iconst 2, 1), (133, .iadd, 1), (134, .invokevirtual 73, 3), (137, .ifCond .eq 34, 3), (140, .aload_n 0, 1), (141, .getfield 24, 3), (144, .aload_n 0, 1), (145, .getfield 63, 3), (148, .iconst 1, 1), (149, .isub, 1), (150, .iload_n 3, 1), (151, .iastore, 1), (152, .aload_n 0, 1), (153, .iconst 2, 1), (154, .iload_n 2, 1), (155, .iconst 2, 1), (156, .ishl, 1), (157, .ior, 1), (158, .aload_n 1, 1), (159, .iload 5, 2), (161, .iconst 2, 1), (162, .iadd, 1), (163, .invokevirtual 73, 3)]
set_option maxRecDepth 20000 in
theorem dn_188_0_3_ok : dn_188_0_3.all (fun q => decide (decode (xm_b n_188) q.1 = .ok (q.2.1, q.2.2))) = true := xa_g_ok (by decide +kernel)
def dn_188_1_0 : List (Nat × Instr × Nat) := [(166, .invokevirtual 79, 3), (169, .iconst 1, 1), (170, .ireturn, 1), (171, .aload_n 0, 1), (172, .dup, 1), (173, .getfield 63, 3), (176, .iconst 1, 1), (177, .isub, 1), (178, .putfield 63, 3), (181, .goto (-136), 3), (184, .iload_n 2, 1), (185, .iconst 2, 1), (186, .if_icmp .ne 7, 3), (189, .aload_n 0, 1), (190, .invokevirtual 83, 3), (193, .iload_n 2, 1), (194, .iconst 3, 1), (195, .if_icmp .ne 14, 3), (198, .aload_n 0, 1), (199, .aload_n 1, 1), (200, .iload_n 3, 1), (201, .iconst 1, 1), (202, .iadd, 1), (203, .invokevirtual 73, 3), (206, .putfield 70, 3)]
set_option maxRecDepth 20000 in
theorem dn_188_1_0_ok : dn_188_1_0.all (fun q => decide (decode (xm_b n_188) q.1 = .ok (q.2.1, q.2.2))) = true := xa_g_ok (by decide +kernel)
def dn_188_1_1 : List (Nat × Instr × Nat) := [(209, .iload_n 2, 1), (210, .iconst 1, 1), (211, .if_icmp .eq 7, 3), (214, .iconst 1, 1), (215, .goto 4, 3), (218, .iconst 0, 1), (219, .ireturn, 1)]
set_option maxRecDepth 20000 in
theorem dn_188_1_1_ok : dn_188_1_1.all (fun q => decide (decode (xm_b n_188) q.1 = .ok (q.2.1, q.2.2))) = true := xa_g_ok (by decide +kernel)
def te_188_0 : Nat → eE := (e_T 27 (e_T 13 (e_T 5 (e_T 1 (e_T 0 (e_L 0 (0, ei_load 2 0 1, 0, 0)) (e_L 1 (0, ei_push (0, 1) 2, 0, 0))) (e_T 2 (e_L 2 (0, ei_if2 0 13 5, 0, 0)) (e_L 5 (0, ei_load 0 2 6, 0, 0)))) (e_T 9 (e_T 6 (e_L 6 (0, ei_getf eft elay 10 4 9, 0, 0)) (e_L 9 (0, ei_push (0, 1) 10, 0, 0))) (e_T 10 (e_L 10 (0, ei_if2 3 17 13, 0, 0)) (e_L 13 (0, ei_push (0, 0) 14, 0, 0))))) (e_T 21 (e_T 17 (e_T 14 (e_L 14 (0, ei_goto 28, 0, 0)) (e_L 17 (0, ei_load 0 2 18, 0, 0))) (e_T 18 (e_L 18 (0, ei_getf eft elay 10 17 21, 0, 0)) (e_L 21 (0, ei_load 0 2 22, 0, 0)))) (e_T 25 (e_T 22 (e_L 22 (0, ei_getf eft elay 10 4 25, 0, 0)) (e_L 25 (0, ei_push (0, 1) 26, 0, 0))) (e_T 26 (e_L 26 (0, ei_bin eF_sub 27, 0, 0)) (e_L 27 (0, ei_ald elay false 28, 0, 0)))))) (e_T 39 (e_T 32 (e_T 30 (e_T 28 (e_L 28 (0, ei_stor 4 0 30, 0, 0)) (e_L 30 (0, ei_load 2 0 31, 0, 0))) (e_T 31 (e_L 31 (0, ei_push (0, 3) 32, 0, 0)) (e_L 32 (0, ei_if2 1 45 35, 0, 0)))) (e_T 37 (e_T 35 (e_L 35 (0, ei_load 4 0 37, 0, 0)) (e_L 37 (0, ei_load 1 2 38, 0, 0))) (e_T 38 (e_L 38 (0, ei_load 3 0 39, 0, 0)) (e_L 39 (2, e_nof, 24, 2))))) (e_T 46 (e_T 43 (e_T 42 (e_L 42 (0, ei_bin eF_add 43, 0, 0)) (e_L 43 (0, ei_stor 4 0 45, 0, 0))) (e_T 45 (e_L 45 (0, ei_load 0 2 46, 0, 0)) (e_L 46 (0, ei_getf eft elay 10 15 49, 0, 0)))) (e_T 51 (e_T 49 (e_L 49 (0, ei_load 4 0 51, 0, 0)) (e_L 51 (0, ei_if2 5 184 54, 0, 0))) (e_T 54 (e_L 54 (0, ei_load 0 2 55, 0, 0)) (e_T 55 (e_L 55 (0, ei_getf eft elay 10 18 58, 0, 0)) (e_L 58 (0, ei_load 0 2 59, 0, 0))))))))
set_option maxRecDepth 20000 in
set_option maxHeartbeats 4000000 in
theorem te_188_0_ok : ∀ pc, e_EOq eft cls elay eI n_188 pc (te_188_0 pc) :=
  (e_Tok2
  (e_Tok2
  (e_Tok2
  (e_Tok2
  (e_Tok2
  (e_Lok (ld_iload_n_2 (x_dk dn_188_0_0_ok 0 rfl)))
  (e_Lok (ps_iconst_1 (x_dk dn_188_0_0_ok 1 rfl))))
  (e_Tok2
  (e_Lok (e_st (I := eI) (er_icmpeq (off := 11) (tg := 13) (x_dk dn_188_0_0_ok 2 rfl) (by decide)) nx_if2))
  (e_Lok (ld_aload_n_0 (x_dk dn_188_0_0_ok 3 rfl)))))
  (e_Tok2
  (e_Tok2
  (e_Lok (lk_10_38g ho_188 (x_dk dn_188_0_0_ok 4 rfl)))
  (e_Lok (ps_iconst_1 (x_dk dn_188_0_0_ok 5 rfl))))
  (e_Tok2
  (e_Lok (e_st (I := eI) (er_icmpge (off := 7) (tg := 17) (x_dk dn_188_0_0_ok 6 rfl) (by decide)) nx_if2))
  (e_Lok (ps_iconst_0 (x_dk dn_188_0_0_ok 7 rfl))))))
  (e_Tok2
  (e_Tok2
  (e_Tok2
  (e_Lok (e_st (I := eI) (er_goto (off := 14) (tg := 28) (x_dk dn_188_0_0_ok 8 rfl) (by decide)) nx_goto))
  (e_Lok (ld_aload_n_0 (x_dk dn_188_0_0_ok 9 rfl))))
  (e_Tok2
  (e_Lok (lk_10_15g ho_188 (x_dk dn_188_0_0_ok 10 rfl)))
  (e_Lok (ld_aload_n_0 (x_dk dn_188_0_0_ok 11 rfl)))))
  (e_Tok2
  (e_Tok2
  (e_Lok (lk_10_38g ho_188 (x_dk dn_188_0_0_ok 12 rfl)))
  (e_Lok (ps_iconst_1 (x_dk dn_188_0_0_ok 13 rfl))))
  (e_Tok2
  (e_Lok (sm_isub (x_dk dn_188_0_0_ok 14 rfl)))
  (e_Lok (sm_iaload (x_dk dn_188_0_0_ok 15 rfl)))))))
  (e_Tok2
  (e_Tok2
  (e_Tok2
  (e_Tok2
  (e_Lok (e_st (I := eI) (er_istore (i := 4) (x_dk dn_188_0_0_ok 16 rfl) (by decide +kernel)) nx_stor))
  (e_Lok (ld_iload_n_2 (x_dk dn_188_0_0_ok 17 rfl))))
  (e_Tok2
  (e_Lok (ps_iconst_3 (x_dk dn_188_0_0_ok 18 rfl)))
  (e_Lok (e_st (I := eI) (er_icmpne (off := 13) (tg := 45) (x_dk dn_188_0_0_ok 19 rfl) (by decide)) nx_if2))))
  (e_Tok2
  (e_Tok2
  (e_Lok (ld_iload_4 (x_dk dn_188_0_0_ok 20 rfl)))
  (e_Lok (ld_aload_n_1 (x_dk dn_188_0_0_ok 21 rfl))))
  (e_Tok2
  (e_Lok (ld_iload_n_3 (x_dk dn_188_0_0_ok 22 rfl)))
  (e_Lok (lk_10_73 ho_188 (x_dk dn_188_0_0_ok 23 rfl))))))
  (e_Tok2
  (e_Tok2
  (e_Tok2
  (e_Lok (sm_iadd (x_dk dn_188_0_0_ok 24 rfl)))
  (e_Lok (e_st (I := eI) (er_istore (i := 4) (x_dk dn_188_0_1_ok 0 rfl) (by decide +kernel)) nx_stor)))
  (e_Tok2
  (e_Lok (ld_aload_n_0 (x_dk dn_188_0_1_ok 1 rfl)))
  (e_Lok (lk_10_63g ho_188 (x_dk dn_188_0_1_ok 2 rfl)))))
  (e_Tok2
  (e_Tok2
  (e_Lok (ld_iload_4 (x_dk dn_188_0_1_ok 3 rfl)))
  (e_Lok (e_st (I := eI) (er_icmple (off := 133) (tg := 184) (x_dk dn_188_0_1_ok 4 rfl) (by decide)) nx_if2)))
  (e_Tok2
  (e_Lok (ld_aload_n_0 (x_dk dn_188_0_1_ok 5 rfl)))
  (e_Tok2
  (e_Lok (lk_10_18g ho_188 (x_dk dn_188_0_1_ok 6 rfl)))
  (e_Lok (ld_aload_n_0 (x_dk dn_188_0_1_ok 7 rfl)))))))))
def te_188_33 : Nat → eE := (e_T 82 (e_T 71 (e_T 64 (e_T 62 (e_T 59 (e_L 59 (0, ei_getf eft elay 10 15 62, 0, 0)) (e_L 62 (0, ei_push (0, 1) 63, 0, 0))) (e_T 63 (e_L 63 (0, ei_bin eF_sub 64, 0, 0)) (e_L 64 (0, ei_ald elay false 65, 0, 0)))) (e_T 67 (e_T 65 (e_L 65 (0, ei_stor 5 0 67, 0, 0)) (e_L 67 (0, ei_load 0 2 68, 0, 0))) (e_T 68 (e_L 68 (0, ei_getf eft elay 10 19 71, 0, 0)) (e_L 71 (0, ei_load 0 2 72, 0, 0))))) (e_T 77 (e_T 75 (e_T 72 (e_L 72 (0, ei_getf eft elay 10 15 75, 0, 0)) (e_L 75 (0, ei_push (0, 1) 76, 0, 0))) (e_T 76 (e_L 76 (0, ei_bin eF_sub 77, 0, 0)) (e_L 77 (0, ei_ald elay false 78, 0, 0)))) (e_T 79 (e_T 78 (e_L 78 (0, ei_push (0, 3) 79, 0, 0)) (e_L 79 (0, ei_bin (eB (fun x y => x &&& y)) 80, 0, 0))) (e_T 80 (e_L 80 (0, ei_stor 6 0 82, 0, 0)) (e_L 82 (0, ei_load 2 0 83, 0, 0)))))) (e_T 96 (e_T 89 (e_T 84 (e_T 83 (e_L 83 (0, ei_push (0, 1) 84, 0, 0)) (e_L 84 (0, ei_if2 1 123 87, 0, 0))) (e_T 87 (e_L 87 (0, ei_load 6 0 89, 0, 0)) (e_L 89 (0, ei_if1 1 123 92, 0, 0)))) (e_T 93 (e_T 92 (e_L 92 (0, ei_load 1 2 93, 0, 0)) (e_L 93 (0, ei_load 5 0 95, 0, 0))) (e_T 95 (e_L 95 (0, ei_push (0, 1) 96, 0, 0)) (e_L 96 (0, ei_bin eF_add 97, 0, 0))))) (e_T 104 (e_T 100 (e_T 97 (e_L 97 (2, e_nof, 24, 2)) (e_L 100 (0, ei_if1 0 123 103, 0, 0))) (e_T 103 (e_L 103 (0, ei_load 0 2 104, 0, 0)) (e_L 104 (0, ei_load 3 0 105, 0, 0)))) (e_T 108 (e_T 105 (e_L 105 (0, ei_putf eft elay 10 6 0 108, 0, 0)) (e_L 108 (0, ei_load 0 2 109, 0, 0))) (e_T 109 (e_L 109 (0, ei_push (0, 1) 110, 0, 0)) (e_T 110 (e_L 110 (0, ei_load 1 2 111, 0, 0)) (e_L 111 (0, ei_load 5 0 113, 0, 0))))))))
set_option maxRecDepth 20000 in
set_option maxHeartbeats 4000000 in
theorem te_188_33_ok : ∀ pc, e_EOq eft cls elay eI n_188 pc (te_188_33 pc) :=
  (e_Tok2
  (e_Tok2
  (e_Tok2
  (e_Tok2
  (e_Tok2
  (e_Lok (lk_10_63g ho_188 (x_dk dn_188_0_1_ok 8 rfl)))
  (e_Lok (ps_iconst_1 (x_dk dn_188_0_1_ok 9 rfl))))
  (e_Tok2
  (e_Lok (sm_isub (x_dk dn_188_0_1_ok 10 rfl)))
  (e_Lok (sm_iaload (x_dk dn_188_0_1_ok 11 rfl)))))
  (e_Tok2
  (e_Tok2
  (e_Lok (e_st (I := eI) (er_istore (i := 5) (x_dk dn_188_0_1_ok 12 rfl) (by decide +kernel)) nx_stor))
  (e_Lok (ld_aload_n_0 (x_dk dn_188_0_1_ok 13 rfl))))
  (e_Tok2
  (e_Lok (lk_10_21g ho_188 (x_dk dn_188_0_1_ok 14 rfl)))
  (e_Lok (ld_aload_n_0 (x_dk dn_188_0_1_ok 15 rfl))))))
  (e_Tok2
  (e_Tok2
  (e_Tok2
  (e_Lok (lk_10_63g ho_188 (x_dk dn_188_0_1_ok 16 rfl)))
  (e_Lok (ps_iconst_1 (x_dk dn_188_0_1_ok 17 rfl))))
  (e_Tok2
  (e_Lok (sm_isub (x_dk dn_188_0_1_ok 18 rfl)))
  (e_Lok (sm_iaload (x_dk dn_188_0_1_ok 19 rfl)))))
  (e_Tok2
  (e_Tok2
  (e_Lok (ps_iconst_3 (x_dk dn_188_0_1_ok 20 rfl)))
  (e_Lok (e_st (I := eI) (er_iand (x_dk dn_188_0_1_ok 21 rfl)) nx_bin)))
  (e_Tok2
  (e_Lok (e_st (I := eI) (er_istore (i := 6) (x_dk dn_188_0_1_ok 22 rfl) (by decide +kernel)) nx_stor))
  (e_Lok (ld_iload_n_2 (x_dk dn_188_0_1_ok 23 rfl)))))))
  (e_Tok2
  (e_Tok2
  (e_Tok2
  (e_Tok2
  (e_Lok (ps_iconst_1 (x_dk dn_188_0_1_ok 24 rfl)))
  (e_Lok (e_st (I := eI) (er_icmpne (off := 39) (tg := 123) (x_dk dn_188_0_2_ok 0 rfl) (by decide)) nx_if2)))
  (e_Tok2
  (e_Lok (ld_iload_6 (x_dk dn_188_0_2_ok 1 rfl)))
  (e_Lok (e_st (I := eI) (er_ifne (off := 34) (tg := 123) (x_dk dn_188_0_2_ok 2 rfl) (by decide)) nx_if1))))
  (e_Tok2
  (e_Tok2
  (e_Lok (ld_aload_n_1 (x_dk dn_188_0_2_ok 3 rfl)))
  (e_Lok (ld_iload_5 (x_dk dn_188_0_2_ok 4 rfl))))
  (e_Tok2
  (e_Lok (ps_iconst_1 (x_dk dn_188_0_2_ok 5 rfl)))
  (e_Lok (sm_iadd (x_dk dn_188_0_2_ok 6 rfl))))))
  (e_Tok2
  (e_Tok2
  (e_Tok2
  (e_Lok (lk_10_73 ho_188 (x_dk dn_188_0_2_ok 7 rfl)))
  (e_Lok (e_st (I := eI) (er_ifeq (off := 23) (tg := 123) (x_dk dn_188_0_2_ok 8 rfl) (by decide)) nx_if1)))
  (e_Tok2
  (e_Lok (ld_aload_n_0 (x_dk dn_188_0_2_ok 9 rfl)))
  (e_Lok (ld_iload_n_3 (x_dk dn_188_0_2_ok 10 rfl)))))
  (e_Tok2
  (e_Tok2
  (e_Lok (lk_10_50p ho_188 (x_dk dn_188_0_2_ok 11 rfl)))
  (e_Lok (ld_aload_n_0 (x_dk dn_188_0_2_ok 12 rfl))))
  (e_Tok2
  (e_Lok (ps_iconst_1 (x_dk dn_188_0_2_ok 13 rfl)))
  (e_Tok2
  (e_Lok (ld_aload_n_1 (x_dk dn_188_0_2_ok 14 rfl)))
  (e_Lok (ld_iload_5 (x_dk dn_188_0_2_ok 15 rfl)))))))))
def te_188_66 : Nat → eE := (e_T 140 (e_T 125 (e_T 118 (e_T 114 (e_T 113 (e_L 113 (0, ei_push (0, 1) 114, 0, 0)) (e_L 114 (0, ei_bin eF_add 115, 0, 0))) (e_T 115 (e_L 115 (2, e_nof, 24, 2)) (e_L 118 (2, e_nof, 189, 3)))) (e_T 122 (e_T 121 (e_L 121 (0, ei_push (0, 1) 122, 0, 0)) (e_L 122 (1, e_nof, 4, 0))) (e_T 123 (e_L 123 (0, ei_load 6 0 125, 0, 0)) (e_L 125 (0, ei_push (0, 2) 126, 0, 0))))) (e_T 132 (e_T 129 (e_T 126 (e_L 126 (0, ei_if2 0 171 129, 0, 0)) (e_L 129 (0, ei_load 1 2 130, 0, 0))) (e_T 130 (e_L 130 (0, ei_load 5 0 132, 0, 0)) (e_L 132 (0, ei_push (0, 2) 133, 0, 0)))) (e_T 134 (e_T 133 (e_L 133 (0, ei_bin eF_add 134, 0, 0)) (e_L 134 (2, e_nof, 24, 2))) (e_T 137 (e_L 137 (0, ei_if1 0 171 140, 0, 0)) (e_L 140 (0, ei_load 0 2 141, 0, 0)))))) (e_T 152 (e_T 148 (e_T 144 (e_T 141 (e_L 141 (0, ei_getf eft elay 10 20 144, 0, 0)) (e_L 144 (0, ei_load 0 2 145, 0, 0))) (e_T 145 (e_L 145 (0, ei_getf eft elay 10 15 148, 0, 0)) (e_L 148 (0, ei_push (0, 1) 149, 0, 0)))) (e_T 150 (e_T 149 (e_L 149 (0, ei_bin eF_sub 150, 0, 0)) (e_L 150 (0, ei_load 3 0 151, 0, 0))) (e_T 151 (e_L 151 (0, ei_ast elay false 152, 0, 0)) (e_L 152 (0, ei_load 0 2 153, 0, 0))))) (e_T 156 (e_T 154 (e_T 153 (e_L 153 (0, ei_push (0, 2) 154, 0, 0)) (e_L 154 (0, ei_load 2 0 155, 0, 0))) (e_T 155 (e_L 155 (0, ei_push (0, 2) 156, 0, 0)) (e_L 156 (0, ei_bin (eB (fun x y => x <<< (y &&& 31))) 157, 0, 0)))) (e_T 158 (e_T 157 (e_L 157 (0, ei_bin (eB (fun x y => x ||| y)) 158, 0, 0)) (e_L 158 (0, ei_load 1 2 159, 0, 0))) (e_T 159 (e_L 159 (0, ei_load 5 0 161, 0, 0)) (e_T 161 (e_L 161 (0, ei_push (0, 2) 162, 0, 0)) (e_L 162 (0, ei_bin eF_add 163, 0, 0))))))))
set_option maxRecDepth 20000 in
set_option maxHeartbeats 4000000 in
theorem te_188_66_ok : ∀ pc, e_EOq eft cls elay eI n_188 pc (te_188_66 pc) :=
  (e_Tok2
  (e_Tok2
  (e_Tok2
  (e_Tok2
  (e_Tok2
  (e_Lok (ps_iconst_1 (x_dk dn_188_0_2_ok 16 rfl)))
  (e_Lok (sm_iadd (x_dk dn_188_0_2_ok 17 rfl))))
  (e_Tok2
  (e_Lok (lk_10_73 ho_188 (x_dk dn_188_0_2_ok 18 rfl)))
  (e_Lok (lk_10_79 ho_188 (x_dk dn_188_0_2_ok 19 rfl)))))
  (e_Tok2
  (e_Tok2
  (e_Lok (ps_iconst_1 (x_dk dn_188_0_2_ok 20 rfl)))
  (e_Lok (e_rt (I := eI) (k := 4) ⟨(x_dk dn_188_0_2_ok 21 rfl), rfl⟩)))
  (e_Tok2
  (e_Lok (ld_iload_6 (x_dk dn_188_0_2_ok 22 rfl)))
  (e_Lok (ps_iconst_2 (x_dk dn_188_0_2_ok 23 rfl))))))
  (e_Tok2
  (e_Tok2
  (e_Tok2
  (e_Lok (e_st (I := eI) (er_icmpeq (off := 45) (tg := 171) (x_dk dn_188_0_2_ok 24 rfl) (by decide)) nx_if2))
  (e_Lok (ld_aload_n_1 (x_dk dn_188_0_3_ok 0 rfl))))
  (e_Tok2
  (e_Lok (ld_iload_5 (x_dk dn_188_0_3_ok 1 rfl)))
  (e_Lok (ps_iconst_2 (x_dk dn_188_0_3_ok 2 rfl)))))
  (e_Tok2
  (e_Tok2
  (e_Lok (sm_iadd (x_dk dn_188_0_3_ok 3 rfl)))
  (e_Lok (lk_10_73 ho_188 (x_dk dn_188_0_3_ok 4 rfl))))
  (e_Tok2
  (e_Lok (e_st (I := eI) (er_ifeq (off := 34) (tg := 171) (x_dk dn_188_0_3_ok 5 rfl) (by decide)) nx_if1))
  (e_Lok (ld_aload_n_0 (x_dk dn_188_0_3_ok 6 rfl)))))))
  (e_Tok2
  (e_Tok2
  (e_Tok2
  (e_Tok2
  (e_Lok (lk_10_24g ho_188 (x_dk dn_188_0_3_ok 7 rfl)))
  (e_Lok (ld_aload_n_0 (x_dk dn_188_0_3_ok 8 rfl))))
  (e_Tok2
  (e_Lok (lk_10_63g ho_188 (x_dk dn_188_0_3_ok 9 rfl)))
  (e_Lok (ps_iconst_1 (x_dk dn_188_0_3_ok 10 rfl)))))
  (e_Tok2
  (e_Tok2
  (e_Lok (sm_isub (x_dk dn_188_0_3_ok 11 rfl)))
  (e_Lok (ld_iload_n_3 (x_dk dn_188_0_3_ok 12 rfl))))
  (e_Tok2
  (e_Lok (sm_iastore (x_dk dn_188_0_3_ok 13 rfl)))
  (e_Lok (ld_aload_n_0 (x_dk dn_188_0_3_ok 14 rfl))))))
  (e_Tok2
  (e_Tok2
  (e_Tok2
  (e_Lok (ps_iconst_2 (x_dk dn_188_0_3_ok 15 rfl)))
  (e_Lok (ld_iload_n_2 (x_dk dn_188_0_3_ok 16 rfl))))
  (e_Tok2
  (e_Lok (ps_iconst_2 (x_dk dn_188_0_3_ok 17 rfl)))
  (e_Lok (e_st (I := eI) (er_ishl (x_dk dn_188_0_3_ok 18 rfl)) nx_bin))))
  (e_Tok2
  (e_Tok2
  (e_Lok (e_st (I := eI) (er_ior (x_dk dn_188_0_3_ok 19 rfl)) nx_bin))
  (e_Lok (ld_aload_n_1 (x_dk dn_188_0_3_ok 20 rfl))))
  (e_Tok2
  (e_Lok (ld_iload_5 (x_dk dn_188_0_3_ok 21 rfl)))
  (e_Tok2
  (e_Lok (ps_iconst_2 (x_dk dn_188_0_3_ok 22 rfl)))
  (e_Lok (sm_iadd (x_dk dn_188_0_3_ok 23 rfl)))))))))
def te_188_99 : Nat → eE := (e_T 190 (e_T 176 (e_T 170 (e_T 166 (e_T 163 (e_L 163 (2, e_nof, 24, 2)) (e_L 166 (2, e_nof, 189, 3))) (e_T 169 (e_L 169 (0, ei_push (0, 1) 170, 0, 0)) (e_L 170 (1, e_nof, 4, 0)))) (e_T 172 (e_T 171 (e_L 171 (0, ei_load 0 2 172, 0, 0)) (e_L 172 (0, ei_stk ef_dup 173, 0, 0))) (e_T 173 (e_L 173 (0, ei_getf eft elay 10 15 176, 0, 0)) (e_L 176 (0, ei_push (0, 1) 177, 0, 0))))) (e_T 184 (e_T 178 (e_T 177 (e_L 177 (0, ei_bin eF_sub 178, 0, 0)) (e_L 178 (0, ei_putf eft elay 10 15 0 181, 0, 0))) (e_T 181 (e_L 181 (0, ei_goto 45, 0, 0)) (e_L 184 (0, ei_load 2 0 185, 0, 0)))) (e_T 186 (e_T 185 (e_L 185 (0, ei_push (0, 2) 186, 0, 0)) (e_L 186 (0, ei_if2 1 193 189, 0, 0))) (e_T 189 (e_L 189 (0, ei_load 0 2 190, 0, 0)) (e_L 190 (2, e_nof, 183, 1)))))) (e_T 202 (e_T 198 (e_T 194 (e_T 193 (e_L 193 (0, ei_load 2 0 194, 0, 0)) (e_L 194 (0, ei_push (0, 3) 195, 0, 0))) (e_T 195 (e_L 195 (0, ei_if2 1 209 198, 0, 0)) (e_L 198 (0, ei_load 0 2 199, 0, 0)))) (e_T 200 (e_T 199 (e_L 199 (0, ei_load 1 2 200, 0, 0)) (e_L 200 (0, ei_load 3 0 201, 0, 0))) (e_T 201 (e_L 201 (0, ei_push (0, 1) 202, 0, 0)) (e_L 202 (0, ei_bin eF_add 203, 0, 0))))) (e_T 210 (e_T 206 (e_T 203 (e_L 203 (2, e_nof, 24, 2)) (e_L 206 (0, ei_putf eft elay 10 3 0 209, 0, 0))) (e_T 209 (e_L 209 (0, ei_load 2 0 210, 0, 0)) (e_L 210 (0, ei_push (0, 1) 211, 0, 0)))) (e_T 214 (e_T 211 (e_L 211 (0, ei_if2 0 218 214, 0, 0)) (e_L 214 (0, ei_push (0, 1) 215, 0, 0))) (e_T 215 (e_L 215 (0, ei_goto 219, 0, 0)) (e_T 218 (e_L 218 (0, ei_push (0, 0) 219, 0, 0)) (e_L 219 (1, e_nof, 4, 0))))))))
set_option maxRecDepth 20000 in
set_option maxHeartbeats 4000000 in
theorem te_188_99_ok : ∀ pc, e_EOq eft cls elay eI n_188 pc (te_188_99 pc) :=
  (e_Tok2
  (e_Tok2
  (e_Tok2
  (e_Tok2
  (e_Tok2
  (e_Lok (lk_10_73 ho_188 (x_dk dn_188_0_3_ok 24 rfl)))
  (e_Lok (lk_10_79 ho_188 (x_dk dn_188_1_0_ok 0 rfl))))
  (e_Tok2
  (e_Lok (ps_iconst_1 (x_dk dn_188_1_0_ok 1 rfl)))
  (e_Lok (e_rt (I := eI) (k := 4) ⟨(x_dk dn_188_1_0_ok 2 rfl), rfl⟩))))
  (e_Tok2
  (e_Tok2
  (e_Lok (ld_aload_n_0 (x_dk dn_188_1_0_ok 3 rfl)))
  (e_Lok (e_st (I := eI) (er_dup (x_dk dn_188_1_0_ok 4 rfl)) (nx_stk bf_dup))))
  (e_Tok2
  (e_Lok (lk_10_63g ho_188 (x_dk dn_188_1_0_ok 5 rfl)))
  (e_Lok (ps_iconst_1 (x_dk dn_188_1_0_ok 6 rfl))))))
  (e_Tok2
  (e_Tok2
  (e_Tok2
  (e_Lok (sm_isub (x_dk dn_188_1_0_ok 7 rfl)))
  (e_Lok (lk_10_63p ho_188 (x_dk dn_188_1_0_ok 8 rfl))))
  (e_Tok2
  (e_Lok (e_st (I := eI) (er_goto (off := (-136)) (tg := 45) (x_dk dn_188_1_0_ok 9 rfl) (by decide)) nx_goto))
  (e_Lok (ld_iload_n_2 (x_dk dn_188_1_0_ok 10 rfl)))))
  (e_Tok2
  (e_Tok2
  (e_Lok (ps_iconst_2 (x_dk dn_188_1_0_ok 11 rfl)))
  (e_Lok (e_st (I := eI) (er_icmpne (off := 7) (tg := 193) (x_dk dn_188_1_0_ok 12 rfl) (by decide)) nx_if2)))
  (e_Tok2
  (e_Lok (ld_aload_n_0 (x_dk dn_188_1_0_ok 13 rfl)))
  (e_Lok (lk_10_83 ho_188 (x_dk dn_188_1_0_ok 14 rfl)))))))
  (e_Tok2
  (e_Tok2
  (e_Tok2
  (e_Tok2
  (e_Lok (ld_iload_n_2 (x_dk dn_188_1_0_ok 15 rfl)))
  (e_Lok (ps_iconst_3 (x_dk dn_188_1_0_ok 16 rfl))))
  (e_Tok2
  (e_Lok (e_st (I := eI) (er_icmpne (off := 14) (tg := 209) (x_dk dn_188_1_0_ok 17 rfl) (by decide)) nx_if2))
  (e_Lok (ld_aload_n_0 (x_dk dn_188_1_0_ok 18 rfl)))))
  (e_Tok2
  (e_Tok2
  (e_Lok (ld_aload_n_1 (x_dk dn_188_1_0_ok 19 rfl)))
  (e_Lok (ld_iload_n_3 (x_dk dn_188_1_0_ok 20 rfl))))
  (e_Tok2
  (e_Lok (ps_iconst_1 (x_dk dn_188_1_0_ok 21 rfl)))
  (e_Lok (sm_iadd (x_dk dn_188_1_0_ok 22 rfl))))))
  (e_Tok2
  (e_Tok2
  (e_Tok2
  (e_Lok (lk_10_73 ho_188 (x_dk dn_188_1_0_ok 23 rfl)))
  (e_Lok (lk_10_70p ho_188 (x_dk dn_188_1_0_ok 24 rfl))))
  (e_Tok2
  (e_Lok (ld_iload_n_2 (x_dk dn_188_1_1_ok 0 rfl)))
  (e_Lok (ps_iconst_1 (x_dk dn_188_1_1_ok 1 rfl)))))
  (e_Tok2
  (e_Tok2
  (e_Lok (e_st (I := eI) (er_icmpeq (off := 7) (tg := 218) (x_dk dn_188_1_1_ok 2 rfl) (by decide)) nx_if2))
  (e_Lok (ps_iconst_1 (x_dk dn_188_1_1_ok 3 rfl))))
  (e_Tok2
  (e_Lok (e_st (I := eI) (er_goto (off := 4) (tg := 219) (x_dk dn_188_1_1_ok 4 rfl) (by decide)) nx_goto))
  (e_Tok2
  (e_Lok (ps_iconst_0 (x_dk dn_188_1_1_ok 5 rfl)))
  (e_Lok (e_rt (I := eI) (k := 4) ⟨(x_dk dn_188_1_1_ok 6 rfl), rfl⟩))))))))
def te_188 : Nat → eE := (e_T 111 (e_T 58 te_188_0 te_188_33) (e_T 162 te_188_66 te_188_99))
theorem te_188_ok : ∀ pc, e_EOq eft cls elay eI n_188 pc (te_188 pc) := (e_Tok2 ((e_Tok2 (te_188_0_ok) (te_188_33_ok))) ((e_Tok2 (te_188_66_ok) (te_188_99_ok))))
theorem ho_189 : (xm_y n_189).cls = "RobotCellHouse$Task" := rfl
def dn_189_0_0 : List (Nat × Instr × Nat) := [(0, .aload_n 0, 1), (1, .getfield 21, 3), (4, .aload_n 0, 1), (5, .getfield 63, 3), (8, .iconst 1, 1), (9, .isub, 1), (10, .iload_n 1, 1), (11, .iastore, 1), (12, .aload_n 0, 1), (13, .getfield 38, 3), (16, .iconst 1, 1), (17, .if_icmp .le 34, 3), (20, .aload_n 0, 1), (21, .getfield 15, 3), (24, .aload_n 0, 1), (25, .getfield 38, 3), (28, .iconst 1, 1), (29, .isub, 1), (30, .iaload, 1), (31, .aload_n 0, 1), (32, .getfield 63, 3), (35, .if_icmp .lt 16, 3), (38, .aload_n 0, 1), (39, .dup, 1), (40, .getfield 38, 3)]
set_option maxRecDepth 20000 in
theorem dn_189_0_0_ok : dn_189_0_0.all (fun q => decide (decode (xm_b n_189) q.1 = .ok (q.2.1, q.2.2))) = true := xa_g_ok (by decide +kernel)
def dn_189_0_1 : List (Nat × Instr × Nat) := [(43, .iconst 1, 1), (44, .isub, 1), (45, .putfield 38, 3), (48, .goto (-36), 3), (51, .aload_n 0, 1), (52, .iload_n 2, 1), (53, .putfield 70, 3), (56, .return_, 1)]
set_option maxRecDepth 20000 in
theorem dn_189_0_1_ok : dn_189_0_1.all (fun q => decide (decode (xm_b n_189) q.1 = .ok (q.2.1, q.2.2))) = true := xa_g_ok (by decide +kernel)
def te_189_0 : Nat → eE := (e_T 25 (e_T 11 (e_T 5 (e_T 1 (e_T 0 (e_L 0 (0, ei_load 0 2 1, 0, 0)) (e_L 1 (0, ei_getf eft elay 10 19 4, 0, 0))) (e_T 4 (e_L 4 (0, ei_load 0 2 5, 0, 0)) (e_L 5 (0, ei_getf eft elay 10 15 8, 0, 0)))) (e_T 9 (e_T 8 (e_L 8 (0, ei_push (0, 1) 9, 0, 0)) (e_L 9 (0, ei_bin eF_sub 10, 0, 0))) (e_T 10 (e_L 10 (0, ei_load 1 0 11, 0, 0)) (e_L 11 (0, ei_ast elay false 12, 0, 0))))) (e_T 17 (e_T 13 (e_T 12 (e_L 12 (0, ei_load 0 2 13, 0, 0)) (e_L 13 (0, ei_getf eft elay 10 4 16, 0, 0))) (e_T 16 (e_L 16 (0, ei_push (0, 1) 17, 0, 0)) (e_L 17 (0, ei_if2 5 51 20, 0, 0)))) (e_T 21 (e_T 20 (e_L 20 (0, ei_load 0 2 21, 0, 0)) (e_L 21 (0, ei_getf eft elay 10 17 24, 0, 0))) (e_T 24 (e_L 24 (0, ei_load 0 2 25, 0, 0)) (e_L 25 (0, ei_getf eft elay 10 4 28, 0, 0)))))) (e_T 39 (e_T 31 (e_T 29 (e_T 28 (e_L 28 (0, ei_push (0, 1) 29, 0, 0)) (e_L 29 (0, ei_bin eF_sub 30, 0, 0))) (e_T 30 (e_L 30 (0, ei_ald elay false 31, 0, 0)) (e_L 31 (0, ei_load 0 2 32, 0, 0)))) (e_T 35 (e_T 32 (e_L 32 (0, ei_getf eft elay 10 15 35, 0, 0)) (e_L 35 (0, ei_if2 2 51 38, 0, 0))) (e_T 38 (e_L 38 (0, ei_load 0 2 39, 0, 0)) (e_L 39 (0, ei_stk ef_dup 40, 0, 0))))) (e_T 45 (e_T 43 (e_T 40 (e_L 40 (0, ei_getf eft elay 10 4 43, 0, 0)) (e_L 43 (0, ei_push (0, 1) 44, 0, 0))) (e_T 44 (e_L 44 (0, ei_bin eF_sub 45, 0, 0)) (e_L 45 (0, ei_putf eft elay 10 4 0 48, 0, 0)))) (e_T 51 (e_T 48 (e_L 48 (0, ei_goto 12, 0, 0)) (e_L 51 (0, ei_load 0 2 52, 0, 0))) (e_T 52 (e_L 52 (0, ei_load 2 0 53, 0, 0)) (e_T 53 (e_L 53 (0, ei_putf eft elay 10 3 0 56, 0, 0)) (e_L 56 (1, e_nof, 0, 0))))))))
set_option maxRecDepth 20000 in
set_option maxHeartbeats 4000000 in
theorem te_189_0_ok : ∀ pc, e_EOq eft cls elay eI n_189 pc (te_189_0 pc) :=
  (e_Tok2
  (e_Tok2
  (e_Tok2
  (e_Tok2
  (e_Tok2
  (e_Lok (ld_aload_n_0 (x_dk dn_189_0_0_ok 0 rfl)))
  (e_Lok (lk_10_21g ho_189 (x_dk dn_189_0_0_ok 1 rfl))))
  (e_Tok2
  (e_Lok (ld_aload_n_0 (x_dk dn_189_0_0_ok 2 rfl)))
  (e_Lok (lk_10_63g ho_189 (x_dk dn_189_0_0_ok 3 rfl)))))
  (e_Tok2
  (e_Tok2
  (e_Lok (ps_iconst_1 (x_dk dn_189_0_0_ok 4 rfl)))
  (e_Lok (sm_isub (x_dk dn_189_0_0_ok 5 rfl))))
  (e_Tok2
  (e_Lok (ld_iload_n_1 (x_dk dn_189_0_0_ok 6 rfl)))
  (e_Lok (sm_iastore (x_dk dn_189_0_0_ok 7 rfl))))))
  (e_Tok2
  (e_Tok2
  (e_Tok2
  (e_Lok (ld_aload_n_0 (x_dk dn_189_0_0_ok 8 rfl)))
  (e_Lok (lk_10_38g ho_189 (x_dk dn_189_0_0_ok 9 rfl))))
  (e_Tok2
  (e_Lok (ps_iconst_1 (x_dk dn_189_0_0_ok 10 rfl)))
  (e_Lok (e_st (I := eI) (er_icmple (off := 34) (tg := 51) (x_dk dn_189_0_0_ok 11 rfl) (by decide)) nx_if2))))
  (e_Tok2
  (e_Tok2
  (e_Lok (ld_aload_n_0 (x_dk dn_189_0_0_ok 12 rfl)))
  (e_Lok (lk_10_15g ho_189 (x_dk dn_189_0_0_ok 13 rfl))))
  (e_Tok2
  (e_Lok (ld_aload_n_0 (x_dk dn_189_0_0_ok 14 rfl)))
  (e_Lok (lk_10_38g ho_189 (x_dk dn_189_0_0_ok 15 rfl)))))))
  (e_Tok2
  (e_Tok2
  (e_Tok2
  (e_Tok2
  (e_Lok (ps_iconst_1 (x_dk dn_189_0_0_ok 16 rfl)))
  (e_Lok (sm_isub (x_dk dn_189_0_0_ok 17 rfl))))
  (e_Tok2
  (e_Lok (sm_iaload (x_dk dn_189_0_0_ok 18 rfl)))
  (e_Lok (ld_aload_n_0 (x_dk dn_189_0_0_ok 19 rfl)))))
  (e_Tok2
  (e_Tok2
  (e_Lok (lk_10_63g ho_189 (x_dk dn_189_0_0_ok 20 rfl)))
  (e_Lok (e_st (I := eI) (er_icmplt (off := 16) (tg := 51) (x_dk dn_189_0_0_ok 21 rfl) (by decide)) nx_if2)))
  (e_Tok2
  (e_Lok (ld_aload_n_0 (x_dk dn_189_0_0_ok 22 rfl)))
  (e_Lok (e_st (I := eI) (er_dup (x_dk dn_189_0_0_ok 23 rfl)) (nx_stk bf_dup))))))
  (e_Tok2
  (e_Tok2
  (e_Tok2
  (e_Lok (lk_10_38g ho_189 (x_dk dn_189_0_0_ok 24 rfl)))
  (e_Lok (ps_iconst_1 (x_dk dn_189_0_1_ok 0 rfl))))
  (e_Tok2
  (e_Lok (sm_isub (x_dk dn_189_0_1_ok 1 rfl)))
  (e_Lok (lk_10_38p ho_189 (x_dk dn_189_0_1_ok 2 rfl)))))
  (e_Tok2
  (e_Tok2
  (e_Lok (e_st (I := eI) (er_goto (off := (-36)) (tg := 12) (x_dk dn_189_0_1_ok 3 rfl) (by decide)) nx_goto))
  (e_Lok (ld_aload_n_0 (x_dk dn_189_0_1_ok 4 rfl))))
  (e_Tok2
  (e_Lok (ld_iload_n_2 (x_dk dn_189_0_1_ok 5 rfl)))
  (e_Tok2
  (e_Lok (lk_10_70p ho_189 (x_dk dn_189_0_1_ok 6 rfl)))
  (e_Lok (e_rt (I := eI) (k := 0) ⟨(x_dk dn_189_0_1_ok 7 rfl), rfl⟩))))))))
def te_189 : Nat → eE := te_189_0
theorem te_189_ok : ∀ pc, e_EOq eft cls elay eI n_189 pc (te_189 pc) := te_189_0_ok
end
