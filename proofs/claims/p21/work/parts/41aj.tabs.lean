noncomputable section
theorem ho_142 : (xm_y n_142).cls = "RobotCellHouse$Reader" := rfl
def dn_142_0_0 : List (Nat × Instr × Nat) := [(0, .aload_n 0, 1), (1, .invokevirtual 54, 3), (4, .aload_n 0, 1), (5, .getfield 57, 3), (8, .iconst 1, 1), (9, .if_icmp .ne 81, 3), (12, .aload_n 0, 1), (13, .invokevirtual 183, 3), (16, .aload_n 0, 1), (17, .getfield 45, 3), (20, .bipush 32, 2), (22, .if_icmp .ge 25, 3), (25, .aload_n 0, 1), (26, .getfield 21, 3), (29, .getfield 186, 3), (32, .aload_n 0, 1), (33, .getfield 45, 3), (36, .aload_n 0, 1), (37, .getfield 21, 3), (40, .getfield 164, 3), (43, .iastore, 1), (44, .goto 13, 3), (47, .aload_n 0, 1), (48, .bipush 7, 2), (50, .aload_n 0, 1)]
set_option maxRecDepth 20000 in
theorem dn_142_0_0_ok : dn_142_0_0.all (fun q => decide (decode (xm_b n_142) q.1 = .ok (q.2.1, q.2.2))) = true := xa_g_ok (by decide +kernel)
def dn_142_0_1 : List (Nat × Instr × Nat) := [(51, .getfield 78, 3), (54, .invokevirtual 153, 3), (57, .aload_n 0, 1), (58, .getfield 45, 3), (61, .sipush 500, 3), (64, .if_icmp .ge 26, 3), (67, .aload_n 0, 1), (68, .getfield 33, 3), (71, .aload_n 0, 1), (72, .getfield 45, 3), (75, .aload_n 0, 1), (76, .getfield 78, 3), (79, .iastore, 1), (80, .aload_n 0, 1), (81, .dup, 1), (82, .getfield 45, 3), (85, .iconst 1, 1), (86, .iadd, 1), (87, .putfield 45, 3), (90, .aload_n 0, 1), (91, .iconst 1, 1), (92, .invokevirtual 180, 3), (95, .aload_n 0, 1), (96, .bipush 20, 2), (98, .invokevirtual 180, 3)]
set_option maxRecDepth 20000 in
theorem dn_142_0_1_ok : dn_142_0_1.all (fun q => decide (decode (xm_b n_142) q.1 = .ok (q.2.1, q.2.2))) = true := xa_g_ok (by decide +kernel)
def dn_142_0_2 : List (Nat × Instr × Nat) := [(101, .aload_n 0, 1), (102, .iconst 0, 1), (103, .putfield 189, 3), (106, .aload_n 0, 1), (107, .iconst (-1), 1), (108, .putfield 192, 3), (111, .aload_n 0, 1), (112, .invokevirtual 195, 3), (115, .aload_n 0, 1), (116, .bipush 23, 2), (118, .invokevirtual 180, 3), (121, .aload_n 0, 1), (122, .getfield 21, 3), (125, .bipush 43, 2), (127, .iconst 0, 1), (128, .invokevirtual 198, 3), (131, .pop, 1), (132, .return_, 1)]
set_option maxRecDepth 20000 in
theorem dn_142_0_2_ok : dn_142_0_2.all (fun q => decide (decode (xm_b n_142) q.1 = .ok (q.2.1, q.2.2))) = true := xa_g_ok (by decide +kernel)
def te_142_0 : Nat → eE := (e_T 33 (e_T 13 (e_T 5 (e_T 1 (e_T 0 (e_L 0 (0, ei_load 0 2 1, 0, 0)) (e_L 1 (2, e_nof, 123, 1))) (e_T 4 (e_L 4 (0, ei_load 0 2 5, 0, 0)) (e_L 5 (0, ei_getf eft elay 8 5 8, 0, 0)))) (e_T 9 (e_T 8 (e_L 8 (0, ei_push (0, 1) 9, 0, 0)) (e_L 9 (0, ei_if2 1 90 12, 0, 0))) (e_T 12 (e_L 12 (0, ei_load 0 2 13, 0, 0)) (e_L 13 (2, e_nof, 139, 1))))) (e_T 22 (e_T 17 (e_T 16 (e_L 16 (0, ei_load 0 2 17, 0, 0)) (e_L 17 (0, ei_getf eft elay 8 14 20, 0, 0))) (e_T 20 (e_L 20 (0, ei_push (0, 32) 22, 0, 0)) (e_L 22 (0, ei_if2 3 47 25, 0, 0)))) (e_T 26 (e_T 25 (e_L 25 (0, ei_load 0 2 26, 0, 0)) (e_L 26 (0, ei_getf eft elay 8 3 29, 0, 0))) (e_T 29 (e_L 29 (0, ei_getf eft elay 1 3 32, 0, 0)) (e_T 32 (e_L 32 (0, ei_load 0 2 33, 0, 0)) (e_L 33 (0, ei_getf eft elay 8 14 36, 0, 0))))))) (e_T 50 (e_T 43 (e_T 37 (e_T 36 (e_L 36 (0, ei_load 0 2 37, 0, 0)) (e_L 37 (0, ei_getf eft elay 8 3 40, 0, 0))) (e_T 40 (e_L 40 (0, ei_getf eft elay 1 0 43, 0, 0)) (e_L 43 (0, ei_ast elay false 44, 0, 0)))) (e_T 47 (e_T 44 (e_L 44 (0, ei_goto 57, 0, 0)) (e_L 47 (0, ei_load 0 2 48, 0, 0))) (e_T 48 (e_L 48 (0, ei_push (0, 7) 50, 0, 0)) (e_L 50 (0, ei_load 0 2 51, 0, 0))))) (e_T 58 (e_T 54 (e_T 51 (e_L 51 (0, ei_getf eft elay 8 6 54, 0, 0)) (e_L 54 (2, e_nof, 133, 3))) (e_T 57 (e_L 57 (0, ei_load 0 2 58, 0, 0)) (e_L 58 (0, ei_getf eft elay 8 14 61, 0, 0)))) (e_T 64 (e_T 61 (e_L 61 (0, ei_push (0, 500) 64, 0, 0)) (e_L 64 (0, ei_if2 3 90 67, 0, 0))) (e_T 67 (e_L 67 (0, ei_load 0 2 68, 0, 0)) (e_T 68 (e_L 68 (0, ei_getf eft elay 8 16 71, 0, 0)) (e_L 71 (0, ei_load 0 2 72, 0, 0))))))))
set_option maxRecDepth 20000 in
set_option maxHeartbeats 4000000 in
theorem te_142_0_ok : ∀ pc, e_EOq eft cls elay eI n_142 pc (te_142_0 pc) :=
  (e_Tok2
  (e_Tok2
  (e_Tok2
  (e_Tok2
  (e_Tok2
  (e_Lok (ld_aload_n_0 (x_dk dn_142_0_0_ok 0 rfl)))
  (e_Lok (lk_8_54 ho_142 (x_dk dn_142_0_0_ok 1 rfl))))
  (e_Tok2
  (e_Lok (ld_aload_n_0 (x_dk dn_142_0_0_ok 2 rfl)))
  (e_Lok (lk_8_57g ho_142 (x_dk dn_142_0_0_ok 3 rfl)))))
  (e_Tok2
  (e_Tok2
  (e_Lok (ps_iconst_1 (x_dk dn_142_0_0_ok 4 rfl)))
  (e_Lok (e_st (I := eI) (er_icmpne (off := 81) (tg := 90) (x_dk dn_142_0_0_ok 5 rfl) (by decide)) nx_if2)))
  (e_Tok2
  (e_Lok (ld_aload_n_0 (x_dk dn_142_0_0_ok 6 rfl)))
  (e_Lok (lk_8_183 ho_142 (x_dk dn_142_0_0_ok 7 rfl))))))
  (e_Tok2
  (e_Tok2
  (e_Tok2
  (e_Lok (ld_aload_n_0 (x_dk dn_142_0_0_ok 8 rfl)))
  (e_Lok (lk_8_45g ho_142 (x_dk dn_142_0_0_ok 9 rfl))))
  (e_Tok2
  (e_Lok (ps_bipush_32 (x_dk dn_142_0_0_ok 10 rfl)))
  (e_Lok (e_st (I := eI) (er_icmpge (off := 25) (tg := 47) (x_dk dn_142_0_0_ok 11 rfl) (by decide)) nx_if2))))
  (e_Tok2
  (e_Tok2
  (e_Lok (ld_aload_n_0 (x_dk dn_142_0_0_ok 12 rfl)))
  (e_Lok (lk_8_21g ho_142 (x_dk dn_142_0_0_ok 13 rfl))))
  (e_Tok2
  (e_Lok (lk_8_186g ho_142 (x_dk dn_142_0_0_ok 14 rfl)))
  (e_Tok2
  (e_Lok (ld_aload_n_0 (x_dk dn_142_0_0_ok 15 rfl)))
  (e_Lok (lk_8_45g ho_142 (x_dk dn_142_0_0_ok 16 rfl))))))))
  (e_Tok2
  (e_Tok2
  (e_Tok2
  (e_Tok2
  (e_Lok (ld_aload_n_0 (x_dk dn_142_0_0_ok 17 rfl)))
  (e_Lok (lk_8_21g ho_142 (x_dk dn_142_0_0_ok 18 rfl))))
  (e_Tok2
  (e_Lok (lk_8_164g ho_142 (x_dk dn_142_0_0_ok 19 rfl)))
  (e_Lok (sm_iastore (x_dk dn_142_0_0_ok 20 rfl)))))
  (e_Tok2
  (e_Tok2
  (e_Lok (e_st (I := eI) (er_goto (off := 13) (tg := 57) (x_dk dn_142_0_0_ok 21 rfl) (by decide)) nx_goto))
  (e_Lok (ld_aload_n_0 (x_dk dn_142_0_0_ok 22 rfl))))
  (e_Tok2
  (e_Lok (ps_bipush_7 (x_dk dn_142_0_0_ok 23 rfl)))
  (e_Lok (ld_aload_n_0 (x_dk dn_142_0_0_ok 24 rfl))))))
  (e_Tok2
  (e_Tok2
  (e_Tok2
  (e_Lok (lk_8_78g ho_142 (x_dk dn_142_0_1_ok 0 rfl)))
  (e_Lok (lk_8_153 ho_142 (x_dk dn_142_0_1_ok 1 rfl))))
  (e_Tok2
  (e_Lok (ld_aload_n_0 (x_dk dn_142_0_1_ok 2 rfl)))
  (e_Lok (lk_8_45g ho_142 (x_dk dn_142_0_1_ok 3 rfl)))))
  (e_Tok2
  (e_Tok2
  (e_Lok (ps_sipush_500 (x_dk dn_142_0_1_ok 4 rfl)))
  (e_Lok (e_st (I := eI) (er_icmpge (off := 26) (tg := 90) (x_dk dn_142_0_1_ok 5 rfl) (by decide)) nx_if2)))
  (e_Tok2
  (e_Lok (ld_aload_n_0 (x_dk dn_142_0_1_ok 6 rfl)))
  (e_Tok2
  (e_Lok (lk_8_33g ho_142 (x_dk dn_142_0_1_ok 7 rfl)))
  (e_Lok (ld_aload_n_0 (x_dk dn_142_0_1_ok 8 rfl)))))))))
def te_142_34 : Nat → eE := (e_T 101 (e_T 85 (e_T 79 (e_T 75 (e_T 72 (e_L 72 (0, ei_getf eft elay 8 14 75, 0, 0)) (e_L 75 (0, ei_load 0 2 76, 0, 0))) (e_T 76 (e_L 76 (0, ei_getf eft elay 8 6 79, 0, 0)) (e_L 79 (0, ei_ast elay false 80, 0, 0)))) (e_T 81 (e_T 80 (e_L 80 (0, ei_load 0 2 81, 0, 0)) (e_L 81 (0, ei_stk ef_dup 82, 0, 0))) (e_T 82 (e_L 82 (0, ei_getf eft elay 8 14 85, 0, 0)) (e_L 85 (0, ei_push (0, 1) 86, 0, 0))))) (e_T 91 (e_T 87 (e_T 86 (e_L 86 (0, ei_bin eF_add 87, 0, 0)) (e_L 87 (0, ei_putf eft elay 8 14 0 90, 0, 0))) (e_T 90 (e_L 90 (0, ei_load 0 2 91, 0, 0)) (e_L 91 (0, ei_push (0, 1) 92, 0, 0)))) (e_T 95 (e_T 92 (e_L 92 (2, e_nof, 129, 2)) (e_L 95 (0, ei_load 0 2 96, 0, 0))) (e_T 96 (e_L 96 (0, ei_push (0, 20) 98, 0, 0)) (e_T 98 (e_L 98 (2, e_nof, 129, 2)) (e_L 101 (0, ei_load 0 2 102, 0, 0))))))) (e_T 115 (e_T 107 (e_T 103 (e_T 102 (e_L 102 (0, ei_push (0, 0) 103, 0, 0)) (e_L 103 (0, ei_putf eft elay 8 12 0 106, 0, 0))) (e_T 106 (e_L 106 (0, ei_load 0 2 107, 0, 0)) (e_L 107 (0, ei_push (0, (-1)) 108, 0, 0)))) (e_T 111 (e_T 108 (e_L 108 (0, ei_putf eft elay 8 13 0 111, 0, 0)) (e_L 111 (0, ei_load 0 2 112, 0, 0))) (e_T 112 (e_L 112 (2, e_nof, 144, 1)) (e_L 115 (0, ei_load 0 2 116, 0, 0))))) (e_T 122 (e_T 118 (e_T 116 (e_L 116 (0, ei_push (0, 23) 118, 0, 0)) (e_L 118 (2, e_nof, 129, 2))) (e_T 121 (e_L 121 (0, ei_load 0 2 122, 0, 0)) (e_L 122 (0, ei_getf eft elay 8 3 125, 0, 0)))) (e_T 127 (e_T 125 (e_L 125 (0, ei_push (0, 43) 127, 0, 0)) (e_L 127 (0, ei_push (0, 0) 128, 0, 0))) (e_T 128 (e_L 128 (2, e_nof, 21, 3)) (e_T 131 (e_L 131 (0, ei_stk ef_pop 132, 0, 0)) (e_L 132 (1, e_nof, 0, 0))))))))
set_option maxRecDepth 20000 in
set_option maxHeartbeats 4000000 in
theorem te_142_34_ok : ∀ pc, e_EOq eft cls elay eI n_142 pc (te_142_34 pc) :=
  (e_Tok2
  (e_Tok2
  (e_Tok2
  (e_Tok2
  (e_Tok2
  (e_Lok (lk_8_45g ho_142 (x_dk dn_142_0_1_ok 9 rfl)))
  (e_Lok (ld_aload_n_0 (x_dk dn_142_0_1_ok 10 rfl))))
  (e_Tok2
  (e_Lok (lk_8_78g ho_142 (x_dk dn_142_0_1_ok 11 rfl)))
  (e_Lok (sm_iastore (x_dk dn_142_0_1_ok 12 rfl)))))
  (e_Tok2
  (e_Tok2
  (e_Lok (ld_aload_n_0 (x_dk dn_142_0_1_ok 13 rfl)))
  (e_Lok (e_st (I := eI) (er_dup (x_dk dn_142_0_1_ok 14 rfl)) (nx_stk bf_dup))))
  (e_Tok2
  (e_Lok (lk_8_45g ho_142 (x_dk dn_142_0_1_ok 15 rfl)))
  (e_Lok (ps_iconst_1 (x_dk dn_142_0_1_ok 16 rfl))))))
  (e_Tok2
  (e_Tok2
  (e_Tok2
  (e_Lok (sm_iadd (x_dk dn_142_0_1_ok 17 rfl)))
  (e_Lok (lk_8_45p ho_142 (x_dk dn_142_0_1_ok 18 rfl))))
  (e_Tok2
  (e_Lok (ld_aload_n_0 (x_dk dn_142_0_1_ok 19 rfl)))
  (e_Lok (ps_iconst_1 (x_dk dn_142_0_1_ok 20 rfl)))))
  (e_Tok2
  (e_Tok2
  (e_Lok (lk_8_180 ho_142 (x_dk dn_142_0_1_ok 21 rfl)))
  (e_Lok (ld_aload_n_0 (x_dk dn_142_0_1_ok 22 rfl))))
  (e_Tok2
  (e_Lok (ps_bipush_20 (x_dk dn_142_0_1_ok 23 rfl)))
  (e_Tok2
  (e_Lok (lk_8_180 ho_142 (x_dk dn_142_0_1_ok 24 rfl)))
  (e_Lok (ld_aload_n_0 (x_dk dn_142_0_2_ok 0 rfl))))))))
  (e_Tok2
  (e_Tok2
  (e_Tok2
  (e_Tok2
  (e_Lok (ps_iconst_0 (x_dk dn_142_0_2_ok 1 rfl)))
  (e_Lok (lk_8_189p ho_142 (x_dk dn_142_0_2_ok 2 rfl))))
  (e_Tok2
  (e_Lok (ld_aload_n_0 (x_dk dn_142_0_2_ok 3 rfl)))
  (e_Lok (ps_iconst_m1 (x_dk dn_142_0_2_ok 4 rfl)))))
  (e_Tok2
  (e_Tok2
  (e_Lok (lk_8_192p ho_142 (x_dk dn_142_0_2_ok 5 rfl)))
  (e_Lok (ld_aload_n_0 (x_dk dn_142_0_2_ok 6 rfl))))
  (e_Tok2
  (e_Lok (lk_8_195 ho_142 (x_dk dn_142_0_2_ok 7 rfl)))
  (e_Lok (ld_aload_n_0 (x_dk dn_142_0_2_ok 8 rfl))))))
  (e_Tok2
  (e_Tok2
  (e_Tok2
  (e_Lok (ps_bipush_23 (x_dk dn_142_0_2_ok 9 rfl)))
  (e_Lok (lk_8_180 ho_142 (x_dk dn_142_0_2_ok 10 rfl))))
  (e_Tok2
  (e_Lok (ld_aload_n_0 (x_dk dn_142_0_2_ok 11 rfl)))
  (e_Lok (lk_8_21g ho_142 (x_dk dn_142_0_2_ok 12 rfl)))))
  (e_Tok2
  (e_Tok2
  (e_Lok (ps_bipush_43 (x_dk dn_142_0_2_ok 13 rfl)))
  (e_Lok (ps_iconst_0 (x_dk dn_142_0_2_ok 14 rfl))))
  (e_Tok2
  (e_Lok (lk_8_198 ho_142 (x_dk dn_142_0_2_ok 15 rfl)))
  (e_Tok2
  (e_Lok (e_st (I := eI) (er_pop (x_dk dn_142_0_2_ok 16 rfl)) (nx_stk bf_pop)))
  (e_Lok (e_rt (I := eI) (k := 0) ⟨(x_dk dn_142_0_2_ok 17 rfl), rfl⟩))))))))
def te_142 : Nat → eE := (e_T 71 te_142_0 te_142_34)
theorem te_142_ok : ∀ pc, e_EOq eft cls elay eI n_142 pc (te_142 pc) := (e_Tok2 (te_142_0_ok) (te_142_34_ok))
theorem ho_143 : (xm_y n_143).cls = "RobotCellHouse$Reader" := rfl
def dn_143_0_0 : List (Nat × Instr × Nat) := [(0, .aload_n 0, 1), (1, .getfield 57, 3), (4, .iconst 1, 1), (5, .if_icmp .eq 35, 3), (8, .aload_n 0, 1), (9, .getfield 57, 3), (12, .bipush 24, 2), (14, .bipush 39, 2), (16, .invokestatic 201, 3), (19, .ifCond .ne 21, 3), (22, .aload_n 0, 1), (23, .getfield 57, 3), (26, .bipush 41, 2), (28, .if_icmp .eq 12, 3), (31, .aload_n 0, 1), (32, .getfield 57, 3), (35, .bipush 42, 2), (37, .if_icmp .ne 7, 3), (40, .iconst 1, 1), (41, .goto 4, 3), (44, .iconst 0, 1), (45, .ireturn, 1)]
set_option maxRecDepth 20000 in
theorem dn_143_0_0_ok : dn_143_0_0.all (fun q => decide (decode (xm_b n_143) q.1 = .ok (q.2.1, q.2.2))) = true := xa_g_ok (by decide +kernel)
def te_143_0 : Nat → eE := (e_T 22 (e_T 8 (e_T 1 (e_T 0 (e_L 0 (0, ei_load 0 2 1, 0, 0)) (e_L 1 (0, ei_getf eft elay 8 5 4, 0, 0))) (e_T 4 (e_L 4 (0, ei_push (0, 1) 5, 0, 0)) (e_T 5 (e_L 5 (0, ei_if2 0 40 8, 0, 0)) (e_L 8 (0, ei_load 0 2 9, 0, 0))))) (e_T 14 (e_T 9 (e_L 9 (0, ei_getf eft elay 8 5 12, 0, 0)) (e_T 12 (e_L 12 (0, ei_push (0, 24) 14, 0, 0)) (e_L 14 (0, ei_push (0, 39) 16, 0, 0)))) (e_T 16 (e_L 16 (2, e_nof, 242, 3)) (e_T 19 (e_L 19 (0, ei_if1 1 40 22, 0, 0)) (e_L 22 (0, ei_load 0 2 23, 0, 0)))))) (e_T 32 (e_T 26 (e_T 23 (e_L 23 (0, ei_getf eft elay 8 5 26, 0, 0)) (e_L 26 (0, ei_push (0, 41) 28, 0, 0))) (e_T 28 (e_L 28 (0, ei_if2 0 40 31, 0, 0)) (e_T 31 (e_L 31 (0, ei_load 0 2 32, 0, 0)) (e_L 32 (0, ei_getf eft elay 8 5 35, 0, 0))))) (e_T 40 (e_T 35 (e_L 35 (0, ei_push (0, 42) 37, 0, 0)) (e_T 37 (e_L 37 (0, ei_if2 1 44 40, 0, 0)) (e_L 40 (0, ei_push (0, 1) 41, 0, 0)))) (e_T 41 (e_L 41 (0, ei_goto 45, 0, 0)) (e_T 44 (e_L 44 (0, ei_push (0, 0) 45, 0, 0)) (e_L 45 (1, e_nof, 4, 0)))))))
set_option maxRecDepth 20000 in
set_option maxHeartbeats 4000000 in
theorem te_143_0_ok : ∀ pc, e_EOq eft cls elay eI n_143 pc (te_143_0 pc) :=
  (e_Tok2
  (e_Tok2
  (e_Tok2
  (e_Tok2
  (e_Lok (ld_aload_n_0 (x_dk dn_143_0_0_ok 0 rfl)))
  (e_Lok (lk_8_57g ho_143 (x_dk dn_143_0_0_ok 1 rfl))))
  (e_Tok2
  (e_Lok (ps_iconst_1 (x_dk dn_143_0_0_ok 2 rfl)))
  (e_Tok2
  (e_Lok (e_st (I := eI) (er_icmpeq (off := 35) (tg := 40) (x_dk dn_143_0_0_ok 3 rfl) (by decide)) nx_if2))
  (e_Lok (ld_aload_n_0 (x_dk dn_143_0_0_ok 4 rfl))))))
  (e_Tok2
  (e_Tok2
  (e_Lok (lk_8_57g ho_143 (x_dk dn_143_0_0_ok 5 rfl)))
  (e_Tok2
  (e_Lok (ps_bipush_24 (x_dk dn_143_0_0_ok 6 rfl)))
  (e_Lok (ps_bipush_39 (x_dk dn_143_0_0_ok 7 rfl)))))
  (e_Tok2
  (e_Lok (lk_8_201 ho_143 (x_dk dn_143_0_0_ok 8 rfl)))
  (e_Tok2
  (e_Lok (e_st (I := eI) (er_ifne (off := 21) (tg := 40) (x_dk dn_143_0_0_ok 9 rfl) (by decide)) nx_if1))
  (e_Lok (ld_aload_n_0 (x_dk dn_143_0_0_ok 10 rfl)))))))
  (e_Tok2
  (e_Tok2
  (e_Tok2
  (e_Lok (lk_8_57g ho_143 (x_dk dn_143_0_0_ok 11 rfl)))
  (e_Lok (ps_bipush_41 (x_dk dn_143_0_0_ok 12 rfl))))
  (e_Tok2
  (e_Lok (e_st (I := eI) (er_icmpeq (off := 12) (tg := 40) (x_dk dn_143_0_0_ok 13 rfl) (by decide)) nx_if2))
  (e_Tok2
  (e_Lok (ld_aload_n_0 (x_dk dn_143_0_0_ok 14 rfl)))
  (e_Lok (lk_8_57g ho_143 (x_dk dn_143_0_0_ok 15 rfl))))))
  (e_Tok2
  (e_Tok2
  (e_Lok (ps_bipush_42 (x_dk dn_143_0_0_ok 16 rfl)))
  (e_Tok2
  (e_Lok (e_st (I := eI) (er_icmpne (off := 7) (tg := 44) (x_dk dn_143_0_0_ok 17 rfl) (by decide)) nx_if2))
  (e_Lok (ps_iconst_1 (x_dk dn_143_0_0_ok 18 rfl)))))
  (e_Tok2
  (e_Lok (e_st (I := eI) (er_goto (off := 4) (tg := 45) (x_dk dn_143_0_0_ok 19 rfl) (by decide)) nx_goto))
  (e_Tok2
  (e_Lok (ps_iconst_0 (x_dk dn_143_0_0_ok 20 rfl)))
  (e_Lok (e_rt (I := eI) (k := 4) ⟨(x_dk dn_143_0_0_ok 21 rfl), rfl⟩)))))))
def te_143 : Nat → eE := te_143_0
theorem te_143_ok : ∀ pc, e_EOq eft cls elay eI n_143 pc (te_143 pc) := te_143_0_ok
theorem ho_144 : (xm_y n_144).cls = "RobotCellHouse$Reader" := rfl
def dn_144_0_0 : List (Nat × Instr × Nat) := [(0, .iconst 0, 1), (1, .istore_n 1, 1), (2, .iload_n 1, 1), (3, .sipush 4000, 3), (6, .if_icmp .ge 20, 3), (9, .aload_n 0, 1), (10, .invokevirtual 205, 3), (13, .ifCond .eq 13, 3), (16, .aload_n 0, 1), (17, .invokevirtual 209, 3), (20, .iinc 1 1, 3), (23, .goto (-21), 3), (26, .return_, 1)]
set_option maxRecDepth 20000 in
theorem dn_144_0_0_ok : dn_144_0_0.all (fun q => decide (decode (xm_b n_144) q.1 = .ok (q.2.1, q.2.2))) = true := xa_g_ok (by decide +kernel)
def te_144_0 : Nat → eE := (e_T 9 (e_T 2 (e_T 0 (e_L 0 (0, ei_push (0, 0) 1, 0, 0)) (e_T 1 (e_L 1 (0, ei_stor 1 0 2, 0, 0)) (e_L 2 (0, ei_load 1 0 3, 0, 0)))) (e_T 3 (e_L 3 (0, ei_push (0, 4000) 6, 0, 0)) (e_T 6 (e_L 6 (0, ei_if2 3 26 9, 0, 0)) (e_L 9 (0, ei_load 0 2 10, 0, 0))))) (e_T 16 (e_T 10 (e_L 10 (2, e_nof, 143, 1)) (e_T 13 (e_L 13 (0, ei_if1 0 26 16, 0, 0)) (e_L 16 (0, ei_load 0 2 17, 0, 0)))) (e_T 20 (e_T 17 (e_L 17 (2, e_nof, 145, 1)) (e_L 20 (0, ei_inc 1 1 23, 0, 0))) (e_T 23 (e_L 23 (0, ei_goto 2, 0, 0)) (e_L 26 (1, e_nof, 0, 0))))))
set_option maxRecDepth 20000 in
set_option maxHeartbeats 4000000 in
theorem te_144_0_ok : ∀ pc, e_EOq eft cls elay eI n_144 pc (te_144_0 pc) :=
  (e_Tok2
  (e_Tok2
  (e_Tok2
  (e_Lok (ps_iconst_0 (x_dk dn_144_0_0_ok 0 rfl)))
  (e_Tok2
  (e_Lok (e_st (I := eI) (er_istore_n (i := 1) (x_dk dn_144_0_0_ok 1 rfl) (by decide +kernel)) nx_stor))
  (e_Lok (ld_iload_n_1 (x_dk dn_144_0_0_ok 2 rfl)))))
  (e_Tok2
  (e_Lok (ps_sipush_4000 (x_dk dn_144_0_0_ok 3 rfl)))
  (e_Tok2
  (e_Lok (e_st (I := eI) (er_icmpge (off := 20) (tg := 26) (x_dk dn_144_0_0_ok 4 rfl) (by decide)) nx_if2))
  (e_Lok (ld_aload_n_0 (x_dk dn_144_0_0_ok 5 rfl))))))
  (e_Tok2
  (e_Tok2
  (e_Lok (lk_8_205 ho_144 (x_dk dn_144_0_0_ok 6 rfl)))
  (e_Tok2
  (e_Lok (e_st (I := eI) (er_ifeq (off := 13) (tg := 26) (x_dk dn_144_0_0_ok 7 rfl) (by decide)) nx_if1))
  (e_Lok (ld_aload_n_0 (x_dk dn_144_0_0_ok 8 rfl)))))
  (e_Tok2
  (e_Tok2
  (e_Lok (lk_8_209 ho_144 (x_dk dn_144_0_0_ok 9 rfl)))
  (e_Lok (e_st (I := eI) (er_iinc (i := 1) (n := 1) (x_dk dn_144_0_0_ok 10 rfl) (by decide +kernel) (by decide)) nx_inc)))
  (e_Tok2
  (e_Lok (e_st (I := eI) (er_goto (off := (-21)) (tg := 2) (x_dk dn_144_0_0_ok 11 rfl) (by decide)) nx_goto))
  (e_Lok (e_rt (I := eI) (k := 0) ⟨(x_dk dn_144_0_0_ok 12 rfl), rfl⟩))))))
def te_144 : Nat → eE := te_144_0
theorem te_144_ok : ∀ pc, e_EOq eft cls elay eI n_144 pc (te_144 pc) := te_144_0_ok
theorem ho_145 : (xm_y n_145).cls = "RobotCellHouse$Reader" := rfl
def dn_145_0_0 : List (Nat × Instr × Nat) := [(0, .aload_n 0, 1), (1, .getfield 57, 3), (4, .bipush 41, 2), (6, .if_icmp .eq 14, 3), (9, .aload_n 0, 1), (10, .getfield 21, 3), (13, .bipush 50, 2), (15, .iconst 0, 1), (16, .invokevirtual 198, 3), (19, .pop, 1), (20, .aload_n 0, 1), (21, .getfield 57, 3), (24, .tableswitch 328 1 41 #[180, 328, 328, 328, 328, 328, 328, 328, 328, 328, 328, 328, 328, 328, 328, 328, 328, 328, 328, 328, 328, 328, 328, 187, 194, 203, 212, 219, 228, 237, 246, 255, 264, 273, 282, 291, 298, 307, 314, 328, 321], 180), (204, .aload_n 0, 1), (205, .invokevirtual 212, 3), (208, .goto 148, 3), (211, .aload_n 0, 1), (212, .invokevirtual 215, 3), (215, .goto 141, 3), (218, .aload_n 0, 1), (219, .bipush 28, 2), (221, .invokevirtual 218, 3), (224, .goto 132, 3), (227, .aload_n 0, 1), (228, .bipush 29, 2)]
set_option maxRecDepth 20000 in
theorem dn_145_0_0_ok : dn_145_0_0.all (fun q => decide (decode (xm_b n_145) q.1 = .ok (q.2.1, q.2.2))) = true := xa_g_ok (by decide +kernel)
def dn_145_0_1 : List (Nat × Instr × Nat) := [(230, .invokevirtual 218, 3), (233, .goto 123, 3), (236, .aload_n 0, 1), (237, .invokevirtual 221, 3), (240, .goto 116, 3), (243, .aload_n 0, 1), (244, .bipush 31, 2), (246, .invokevirtual 218, 3), (249, .goto 107, 3), (252, .aload_n 0, 1), (253, .bipush 32, 2), (255, .invokevirtual 218, 3), (258, .goto 98, 3), (261, .aload_n 0, 1), (262, .bipush 33, 2), (264, .invokevirtual 224, 3), (267, .goto 89, 3), (270, .aload_n 0, 1), (271, .bipush 34, 2), (273, .invokevirtual 224, 3), (276, .goto 80, 3), (279, .aload_n 0, 1), (280, .bipush 35, 2), (282, .invokevirtual 218, 3), (285, .goto 71, 3)]
set_option maxRecDepth 20000 in
theorem dn_145_0_1_ok : dn_145_0_1.all (fun q => decide (decode (xm_b n_145) q.1 = .ok (q.2.1, q.2.2))) = true := xa_g_ok (by decide +kernel)
def dn_145_0_2 : List (Nat × Instr × Nat) := [(288, .aload_n 0, 1), (289, .bipush 36, 2), (291, .invokevirtual 218, 3), (294, .goto 62, 3), (297, .aload_n 0, 1), (298, .bipush 37, 2), (300, .invokevirtual 227, 3), (303, .goto 53, 3), (306, .aload_n 0, 1), (307, .bipush 38, 2), (309, .invokevirtual 227, 3), (312, .goto 44, 3), (315, .aload_n 0, 1), (316, .invokevirtual 230, 3), (319, .goto 37, 3), (322, .aload_n 0, 1), (323, .bipush 42, 2), (325, .invokevirtual 227, 3), (328, .goto 28, 3), (331, .aload_n 0, 1), (332, .invokevirtual 233, 3), (335, .goto 21, 3), (338, .aload_n 0, 1), (339, .invokevirtual 236, 3), (342, .goto 14, 3)]
set_option maxRecDepth 20000 in
theorem dn_145_0_2_ok : dn_145_0_2.all (fun q => decide (decode (xm_b n_145) q.1 = .ok (q.2.1, q.2.2))) = true := xa_g_ok (by decide +kernel)
def dn_145_0_3 : List (Nat × Instr × Nat) := [(345, .aload_n 0, 1), (346, .invokevirtual 239, 3), (349, .goto 7, 3), (352, .aload_n 0, 1), (353, .invokevirtual 242, 3), (356, .return_, 1)]
set_option maxRecDepth 20000 in
theorem dn_145_0_3_ok : dn_145_0_3.all (fun q => decide (decode (xm_b n_145) q.1 = .ok (q.2.1, q.2.2))) = true := xa_g_ok (by decide +kernel)
def te_145_0 : Nat → eE := (e_T 218 (e_T 19 (e_T 9 (e_T 1 (e_T 0 (e_L 0 (0, ei_load 0 2 1, 0, 0)) (e_L 1 (0, ei_getf eft elay 8 5 4, 0, 0))) (e_T 4 (e_L 4 (0, ei_push (0, 41) 6, 0, 0)) (e_T 6 (e_L 6 (0, ei_if2 0 20 9, 0, 0)) (e_L 9 (0, ei_load 0 2 10, 0, 0))))) (e_T 13 (e_T 10 (e_L 10 (0, ei_getf eft elay 8 3 13, 0, 0)) (e_L 13 (0, ei_push (0, 50) 15, 0, 0))) (e_T 15 (e_L 15 (0, ei_push (0, 0) 16, 0, 0)) (e_T 16 (e_L 16 (2, e_nof, 21, 3)) (e_L 19 (0, ei_stk ef_pop 20, 0, 0)))))) (e_T 205 (e_T 21 (e_T 20 (e_L 20 (0, ei_load 0 2 21, 0, 0)) (e_L 21 (0, ei_getf eft elay 8 5 24, 0, 0))) (e_T 24 (e_L 24 (0, ei_sw [((-2147483648), 0, 352), (1, 1, 204), (2, 2, 352), (3, 3, 352), (4, 4, 352), (5, 5, 352), (6, 6, 352), (7, 7, 352), (8, 8, 352), (9, 9, 352), (10, 10, 352), (11, 11, 352), (12, 12, 352), (13, 13, 352), (14, 14, 352), (15, 15, 352), (16, 16, 352), (17, 17, 352), (18, 18, 352), (19, 19, 352), (20, 20, 352), (21, 21, 352), (22, 22, 352), (23, 23, 352), (24, 24, 211), (25, 25, 218), (26, 26, 227), (27, 27, 236), (28, 28, 243), (29, 29, 252), (30, 30, 261), (31, 31, 270), (32, 32, 279), (33, 33, 288), (34, 34, 297), (35, 35, 306), (36, 36, 315), (37, 37, 322), (38, 38, 331), (39, 39, 338), (40, 40, 352), (41, 41, 345), (42, 2147483647, 352)], 0, 0)) (e_T 204 (e_L 204 (0, ei_load 0 2 205, 0, 0)) (e_L 205 (2, e_nof, 149, 1))))) (e_T 211 (e_T 208 (e_L 208 (0, ei_goto 356, 0, 0)) (e_L 211 (0, ei_load 0 2 212, 0, 0))) (e_T 212 (e_L 212 (2, e_nof, 150, 1)) (e_T 215 (e_L 215 (0, ei_goto 356, 0, 0)) (e_L 218 (0, ei_load 0 2 219, 0, 0))))))) (e_T 240 (e_T 228 (e_T 221 (e_T 219 (e_L 219 (0, ei_push (0, 28) 221, 0, 0)) (e_L 221 (2, e_nof, 147, 2))) (e_T 224 (e_L 224 (0, ei_goto 356, 0, 0)) (e_T 227 (e_L 227 (0, ei_load 0 2 228, 0, 0)) (e_L 228 (0, ei_push (0, 29) 230, 0, 0))))) (e_T 233 (e_T 230 (e_L 230 (2, e_nof, 147, 2)) (e_L 233 (0, ei_goto 356, 0, 0))) (e_T 236 (e_L 236 (0, ei_load 0 2 237, 0, 0)) (e_T 237 (e_L 237 (2, e_nof, 151, 1)) (e_L 240 (0, ei_goto 356, 0, 0)))))) (e_T 252 (e_T 244 (e_T 243 (e_L 243 (0, ei_load 0 2 244, 0, 0)) (e_L 244 (0, ei_push (0, 31) 246, 0, 0))) (e_T 246 (e_L 246 (2, e_nof, 147, 2)) (e_T 249 (e_L 249 (0, ei_goto 356, 0, 0)) (e_L 252 (0, ei_load 0 2 253, 0, 0))))) (e_T 255 (e_T 253 (e_L 253 (0, ei_push (0, 32) 255, 0, 0)) (e_L 255 (2, e_nof, 147, 2))) (e_T 258 (e_L 258 (0, ei_goto 356, 0, 0)) (e_T 261 (e_L 261 (0, ei_load 0 2 262, 0, 0)) (e_L 262 (0, ei_push (0, 33) 264, 0, 0))))))))
set_option maxRecDepth 20000 in
set_option maxHeartbeats 4000000 in
theorem te_145_0_ok : ∀ pc, e_EOq eft cls elay eI n_145 pc (te_145_0 pc) :=
  (e_Tok2
  (e_Tok2
  (e_Tok2
  (e_Tok2
  (e_Tok2
  (e_Lok (ld_aload_n_0 (x_dk dn_145_0_0_ok 0 rfl)))
  (e_Lok (lk_8_57g ho_145 (x_dk dn_145_0_0_ok 1 rfl))))
  (e_Tok2
  (e_Lok (ps_bipush_41 (x_dk dn_145_0_0_ok 2 rfl)))
  (e_Tok2
  (e_Lok (e_st (I := eI) (er_icmpeq (off := 14) (tg := 20) (x_dk dn_145_0_0_ok 3 rfl) (by decide)) nx_if2))
  (e_Lok (ld_aload_n_0 (x_dk dn_145_0_0_ok 4 rfl))))))
  (e_Tok2
  (e_Tok2
  (e_Lok (lk_8_21g ho_145 (x_dk dn_145_0_0_ok 5 rfl)))
  (e_Lok (ps_bipush_50 (x_dk dn_145_0_0_ok 6 rfl))))
  (e_Tok2
  (e_Lok (ps_iconst_0 (x_dk dn_145_0_0_ok 7 rfl)))
  (e_Tok2
  (e_Lok (lk_8_198 ho_145 (x_dk dn_145_0_0_ok 8 rfl)))
  (e_Lok (e_st (I := eI) (er_pop (x_dk dn_145_0_0_ok 9 rfl)) (nx_stk bf_pop)))))))
  (e_Tok2
  (e_Tok2
  (e_Tok2
  (e_Lok (ld_aload_n_0 (x_dk dn_145_0_0_ok 10 rfl)))
  (e_Lok (lk_8_57g ho_145 (x_dk dn_145_0_0_ok 11 rfl))))
  (e_Tok2
  (e_Lok (e_st (I := eI) (er_tsw (dflt := 328) (lo := 1) (hi := 41) (offs := #[180, 328, 328, 328, 328, 328, 328, 328, 328, 328, 328, 328, 328, 328, 328, 328, 328, 328, 328, 328, 328, 328, 328, 187, 194, 203, 212, 219, 228, 237, 246, 255, 264, 273, 282, 291, 298, 307, 314, 328, 321]) (len := 180) (n := 41) (x_dk dn_145_0_0_ok 12 rfl) (by decide) (by decide +kernel)) nx_sw))
  (e_Tok2
  (e_Lok (ld_aload_n_0 (x_dk dn_145_0_0_ok 13 rfl)))
  (e_Lok (lk_8_212 ho_145 (x_dk dn_145_0_0_ok 14 rfl))))))
  (e_Tok2
  (e_Tok2
  (e_Lok (e_st (I := eI) (er_goto (off := 148) (tg := 356) (x_dk dn_145_0_0_ok 15 rfl) (by decide)) nx_goto))
  (e_Lok (ld_aload_n_0 (x_dk dn_145_0_0_ok 16 rfl))))
  (e_Tok2
  (e_Lok (lk_8_215 ho_145 (x_dk dn_145_0_0_ok 17 rfl)))
  (e_Tok2
  (e_Lok (e_st (I := eI) (er_goto (off := 141) (tg := 356) (x_dk dn_145_0_0_ok 18 rfl) (by decide)) nx_goto))
  (e_Lok (ld_aload_n_0 (x_dk dn_145_0_0_ok 19 rfl))))))))
  (e_Tok2
  (e_Tok2
  (e_Tok2
  (e_Tok2
  (e_Lok (ps_bipush_28 (x_dk dn_145_0_0_ok 20 rfl)))
  (e_Lok (lk_8_218 ho_145 (x_dk dn_145_0_0_ok 21 rfl))))
  (e_Tok2
  (e_Lok (e_st (I := eI) (er_goto (off := 132) (tg := 356) (x_dk dn_145_0_0_ok 22 rfl) (by decide)) nx_goto))
  (e_Tok2
  (e_Lok (ld_aload_n_0 (x_dk dn_145_0_0_ok 23 rfl)))
  (e_Lok (ps_bipush_29 (x_dk dn_145_0_0_ok 24 rfl))))))
  (e_Tok2
  (e_Tok2
  (e_Lok (lk_8_218 ho_145 (x_dk dn_145_0_1_ok 0 rfl)))
  (e_Lok (e_st (I := eI) (er_goto (off := 123) (tg := 356) (x_dk dn_145_0_1_ok 1 rfl) (by decide)) nx_goto)))
  (e_Tok2
  (e_Lok (ld_aload_n_0 (x_dk dn_145_0_1_ok 2 rfl)))
  (e_Tok2
  (e_Lok (lk_8_221 ho_145 (x_dk dn_145_0_1_ok 3 rfl)))
  (e_Lok (e_st (I := eI) (er_goto (off := 116) (tg := 356) (x_dk dn_145_0_1_ok 4 rfl) (by decide)) nx_goto))))))
  (e_Tok2
  (e_Tok2
  (e_Tok2
  (e_Lok (ld_aload_n_0 (x_dk dn_145_0_1_ok 5 rfl)))
  (e_Lok (ps_bipush_31 (x_dk dn_145_0_1_ok 6 rfl))))
  (e_Tok2
  (e_Lok (lk_8_218 ho_145 (x_dk dn_145_0_1_ok 7 rfl)))
  (e_Tok2
  (e_Lok (e_st (I := eI) (er_goto (off := 107) (tg := 356) (x_dk dn_145_0_1_ok 8 rfl) (by decide)) nx_goto))
  (e_Lok (ld_aload_n_0 (x_dk dn_145_0_1_ok 9 rfl))))))
  (e_Tok2
  (e_Tok2
  (e_Lok (ps_bipush_32 (x_dk dn_145_0_1_ok 10 rfl)))
  (e_Lok (lk_8_218 ho_145 (x_dk dn_145_0_1_ok 11 rfl))))
  (e_Tok2
  (e_Lok (e_st (I := eI) (er_goto (off := 98) (tg := 356) (x_dk dn_145_0_1_ok 12 rfl) (by decide)) nx_goto))
  (e_Tok2
  (e_Lok (ld_aload_n_0 (x_dk dn_145_0_1_ok 13 rfl)))
  (e_Lok (ps_bipush_33 (x_dk dn_145_0_1_ok 14 rfl)))))))))
def te_145_40 : Nat → eE := (e_T 285 (e_T 273 (e_T 267 (e_T 264 (e_L 264 (2, e_nof, 148, 2)) (e_L 267 (0, ei_goto 356, 0, 0))) (e_T 270 (e_L 270 (0, ei_load 0 2 271, 0, 0)) (e_T 271 (e_L 271 (0, ei_push (0, 34) 273, 0, 0)) (e_L 273 (2, e_nof, 148, 2))))) (e_T 279 (e_T 276 (e_L 276 (0, ei_goto 356, 0, 0)) (e_L 279 (0, ei_load 0 2 280, 0, 0))) (e_T 280 (e_L 280 (0, ei_push (0, 35) 282, 0, 0)) (e_T 282 (e_L 282 (2, e_nof, 147, 2)) (e_L 285 (0, ei_goto 356, 0, 0)))))) (e_T 297 (e_T 289 (e_T 288 (e_L 288 (0, ei_load 0 2 289, 0, 0)) (e_L 289 (0, ei_push (0, 36) 291, 0, 0))) (e_T 291 (e_L 291 (2, e_nof, 147, 2)) (e_T 294 (e_L 294 (0, ei_goto 356, 0, 0)) (e_L 297 (0, ei_load 0 2 298, 0, 0))))) (e_T 300 (e_T 298 (e_L 298 (0, ei_push (0, 37) 300, 0, 0)) (e_L 300 (2, e_nof, 146, 2))) (e_T 303 (e_L 303 (0, ei_goto 356, 0, 0)) (e_T 306 (e_L 306 (0, ei_load 0 2 307, 0, 0)) (e_L 307 (0, ei_push (0, 38) 309, 0, 0)))))))
set_option maxRecDepth 20000 in
set_option maxHeartbeats 4000000 in
theorem te_145_40_ok : ∀ pc, e_EOq eft cls elay eI n_145 pc (te_145_40 pc) :=
  (e_Tok2
  (e_Tok2
  (e_Tok2
  (e_Tok2
  (e_Lok (lk_8_224 ho_145 (x_dk dn_145_0_1_ok 15 rfl)))
  (e_Lok (e_st (I := eI) (er_goto (off := 89) (tg := 356) (x_dk dn_145_0_1_ok 16 rfl) (by decide)) nx_goto)))
  (e_Tok2
  (e_Lok (ld_aload_n_0 (x_dk dn_145_0_1_ok 17 rfl)))
  (e_Tok2
  (e_Lok (ps_bipush_34 (x_dk dn_145_0_1_ok 18 rfl)))
  (e_Lok (lk_8_224 ho_145 (x_dk dn_145_0_1_ok 19 rfl))))))
  (e_Tok2
  (e_Tok2
  (e_Lok (e_st (I := eI) (er_goto (off := 80) (tg := 356) (x_dk dn_145_0_1_ok 20 rfl) (by decide)) nx_goto))
  (e_Lok (ld_aload_n_0 (x_dk dn_145_0_1_ok 21 rfl))))
  (e_Tok2
  (e_Lok (ps_bipush_35 (x_dk dn_145_0_1_ok 22 rfl)))
  (e_Tok2
  (e_Lok (lk_8_218 ho_145 (x_dk dn_145_0_1_ok 23 rfl)))
  (e_Lok (e_st (I := eI) (er_goto (off := 71) (tg := 356) (x_dk dn_145_0_1_ok 24 rfl) (by decide)) nx_goto))))))
  (e_Tok2
  (e_Tok2
  (e_Tok2
  (e_Lok (ld_aload_n_0 (x_dk dn_145_0_2_ok 0 rfl)))
  (e_Lok (ps_bipush_36 (x_dk dn_145_0_2_ok 1 rfl))))
  (e_Tok2
  (e_Lok (lk_8_218 ho_145 (x_dk dn_145_0_2_ok 2 rfl)))
  (e_Tok2
  (e_Lok (e_st (I := eI) (er_goto (off := 62) (tg := 356) (x_dk dn_145_0_2_ok 3 rfl) (by decide)) nx_goto))
  (e_Lok (ld_aload_n_0 (x_dk dn_145_0_2_ok 4 rfl))))))
  (e_Tok2
  (e_Tok2
  (e_Lok (ps_bipush_37 (x_dk dn_145_0_2_ok 5 rfl)))
  (e_Lok (lk_8_227 ho_145 (x_dk dn_145_0_2_ok 6 rfl))))
  (e_Tok2
  (e_Lok (e_st (I := eI) (er_goto (off := 53) (tg := 356) (x_dk dn_145_0_2_ok 7 rfl) (by decide)) nx_goto))
  (e_Tok2
  (e_Lok (ld_aload_n_0 (x_dk dn_145_0_2_ok 8 rfl)))
  (e_Lok (ps_bipush_38 (x_dk dn_145_0_2_ok 9 rfl))))))))
def te_145_60 : Nat → eE := (e_T 331 (e_T 319 (e_T 312 (e_T 309 (e_L 309 (2, e_nof, 146, 2)) (e_L 312 (0, ei_goto 356, 0, 0))) (e_T 315 (e_L 315 (0, ei_load 0 2 316, 0, 0)) (e_T 316 (e_L 316 (2, e_nof, 152, 1)) (e_L 319 (0, ei_goto 356, 0, 0))))) (e_T 323 (e_T 322 (e_L 322 (0, ei_load 0 2 323, 0, 0)) (e_L 323 (0, ei_push (0, 42) 325, 0, 0))) (e_T 325 (e_L 325 (2, e_nof, 146, 2)) (e_T 328 (e_L 328 (0, ei_goto 356, 0, 0)) (e_L 331 (0, ei_load 0 2 332, 0, 0)))))) (e_T 342 (e_T 335 (e_T 332 (e_L 332 (2, e_nof, 153, 1)) (e_L 335 (0, ei_goto 356, 0, 0))) (e_T 338 (e_L 338 (0, ei_load 0 2 339, 0, 0)) (e_T 339 (e_L 339 (2, e_nof, 154, 1)) (e_L 342 (0, ei_goto 356, 0, 0))))) (e_T 349 (e_T 345 (e_L 345 (0, ei_load 0 2 346, 0, 0)) (e_T 346 (e_L 346 (2, e_nof, 155, 1)) (e_L 349 (0, ei_goto 356, 0, 0)))) (e_T 352 (e_L 352 (0, ei_load 0 2 353, 0, 0)) (e_T 353 (e_L 353 (2, e_nof, 156, 1)) (e_L 356 (1, e_nof, 0, 0)))))))
set_option maxRecDepth 20000 in
set_option maxHeartbeats 4000000 in
theorem te_145_60_ok : ∀ pc, e_EOq eft cls elay eI n_145 pc (te_145_60 pc) :=
  (e_Tok2
  (e_Tok2
  (e_Tok2
  (e_Tok2
  (e_Lok (lk_8_227 ho_145 (x_dk dn_145_0_2_ok 10 rfl)))
  (e_Lok (e_st (I := eI) (er_goto (off := 44) (tg := 356) (x_dk dn_145_0_2_ok 11 rfl) (by decide)) nx_goto)))
  (e_Tok2
  (e_Lok (ld_aload_n_0 (x_dk dn_145_0_2_ok 12 rfl)))
  (e_Tok2
  (e_Lok (lk_8_230 ho_145 (x_dk dn_145_0_2_ok 13 rfl)))
  (e_Lok (e_st (I := eI) (er_goto (off := 37) (tg := 356) (x_dk dn_145_0_2_ok 14 rfl) (by decide)) nx_goto)))))
  (e_Tok2
  (e_Tok2
  (e_Lok (ld_aload_n_0 (x_dk dn_145_0_2_ok 15 rfl)))
  (e_Lok (ps_bipush_42 (x_dk dn_145_0_2_ok 16 rfl))))
  (e_Tok2
  (e_Lok (lk_8_227 ho_145 (x_dk dn_145_0_2_ok 17 rfl)))
  (e_Tok2
  (e_Lok (e_st (I := eI) (er_goto (off := 28) (tg := 356) (x_dk dn_145_0_2_ok 18 rfl) (by decide)) nx_goto))
  (e_Lok (ld_aload_n_0 (x_dk dn_145_0_2_ok 19 rfl)))))))
  (e_Tok2
  (e_Tok2
  (e_Tok2
  (e_Lok (lk_8_233 ho_145 (x_dk dn_145_0_2_ok 20 rfl)))
  (e_Lok (e_st (I := eI) (er_goto (off := 21) (tg := 356) (x_dk dn_145_0_2_ok 21 rfl) (by decide)) nx_goto)))
  (e_Tok2
  (e_Lok (ld_aload_n_0 (x_dk dn_145_0_2_ok 22 rfl)))
  (e_Tok2
  (e_Lok (lk_8_236 ho_145 (x_dk dn_145_0_2_ok 23 rfl)))
  (e_Lok (e_st (I := eI) (er_goto (off := 14) (tg := 356) (x_dk dn_145_0_2_ok 24 rfl) (by decide)) nx_goto)))))
  (e_Tok2
  (e_Tok2
  (e_Lok (ld_aload_n_0 (x_dk dn_145_0_3_ok 0 rfl)))
  (e_Tok2
  (e_Lok (lk_8_239 ho_145 (x_dk dn_145_0_3_ok 1 rfl)))
  (e_Lok (e_st (I := eI) (er_goto (off := 7) (tg := 356) (x_dk dn_145_0_3_ok 2 rfl) (by decide)) nx_goto))))
  (e_Tok2
  (e_Lok (ld_aload_n_0 (x_dk dn_145_0_3_ok 3 rfl)))
  (e_Tok2
  (e_Lok (lk_8_242 ho_145 (x_dk dn_145_0_3_ok 4 rfl)))
  (e_Lok (e_rt (I := eI) (k := 0) ⟨(x_dk dn_145_0_3_ok 5 rfl), rfl⟩)))))))
def te_145 : Nat → eE := (e_T 262 te_145_0 (e_T 307 te_145_40 te_145_60))
theorem te_145_ok : ∀ pc, e_EOq eft cls elay eI n_145 pc (te_145 pc) := (e_Tok2 (te_145_0_ok) ((e_Tok2 (te_145_40_ok) (te_145_60_ok))))
theorem ho_146 : (xm_y n_146).cls = "RobotCellHouse$Reader" := rfl
def dn_146_0_0 : List (Nat × Instr × Nat) := [(0, .aload_n 0, 1), (1, .invokevirtual 54, 3), (4, .aload_n 0, 1), (5, .bipush 19, 2), (7, .invokevirtual 180, 3), (10, .aload_n 0, 1), (11, .getfield 21, 3), (14, .iload_n 1, 1), (15, .iconst 0, 1), (16, .invokevirtual 198, 3), (19, .pop, 1), (20, .return_, 1)]
set_option maxRecDepth 20000 in
theorem dn_146_0_0_ok : dn_146_0_0.all (fun q => decide (decode (xm_b n_146) q.1 = .ok (q.2.1, q.2.2))) = true := xa_g_ok (by decide +kernel)
def te_146_0 : Nat → eE := (e_T 10 (e_T 4 (e_T 0 (e_L 0 (0, ei_load 0 2 1, 0, 0)) (e_T 1 (e_L 1 (2, e_nof, 123, 1)) (e_L 4 (0, ei_load 0 2 5, 0, 0)))) (e_T 5 (e_L 5 (0, ei_push (0, 19) 7, 0, 0)) (e_T 7 (e_L 7 (2, e_nof, 129, 2)) (e_L 10 (0, ei_load 0 2 11, 0, 0))))) (e_T 15 (e_T 11 (e_L 11 (0, ei_getf eft elay 8 3 14, 0, 0)) (e_T 14 (e_L 14 (0, ei_load 1 0 15, 0, 0)) (e_L 15 (0, ei_push (0, 0) 16, 0, 0)))) (e_T 16 (e_L 16 (2, e_nof, 21, 3)) (e_T 19 (e_L 19 (0, ei_stk ef_pop 20, 0, 0)) (e_L 20 (1, e_nof, 0, 0))))))
set_option maxRecDepth 20000 in
set_option maxHeartbeats 4000000 in
theorem te_146_0_ok : ∀ pc, e_EOq eft cls elay eI n_146 pc (te_146_0 pc) :=
  (e_Tok2
  (e_Tok2
  (e_Tok2
  (e_Lok (ld_aload_n_0 (x_dk dn_146_0_0_ok 0 rfl)))
  (e_Tok2
  (e_Lok (lk_8_54 ho_146 (x_dk dn_146_0_0_ok 1 rfl)))
  (e_Lok (ld_aload_n_0 (x_dk dn_146_0_0_ok 2 rfl)))))
  (e_Tok2
  (e_Lok (ps_bipush_19 (x_dk dn_146_0_0_ok 3 rfl)))
  (e_Tok2
  (e_Lok (lk_8_180 ho_146 (x_dk dn_146_0_0_ok 4 rfl)))
  (e_Lok (ld_aload_n_0 (x_dk dn_146_0_0_ok 5 rfl))))))
  (e_Tok2
  (e_Tok2
  (e_Lok (lk_8_21g ho_146 (x_dk dn_146_0_0_ok 6 rfl)))
  (e_Tok2
  (e_Lok (ld_iload_n_1 (x_dk dn_146_0_0_ok 7 rfl)))
  (e_Lok (ps_iconst_0 (x_dk dn_146_0_0_ok 8 rfl)))))
  (e_Tok2
  (e_Lok (lk_8_198 ho_146 (x_dk dn_146_0_0_ok 9 rfl)))
  (e_Tok2
  (e_Lok (e_st (I := eI) (er_pop (x_dk dn_146_0_0_ok 10 rfl)) (nx_stk bf_pop)))
  (e_Lok (e_rt (I := eI) (k := 0) ⟨(x_dk dn_146_0_0_ok 11 rfl), rfl⟩))))))
def te_146 : Nat → eE := te_146_0
theorem te_146_ok : ∀ pc, e_EOq eft cls elay eI n_146 pc (te_146 pc) := te_146_0_ok
theorem ho_147 : (xm_y n_147).cls = "RobotCellHouse$Reader" := rfl
def dn_147_0_0 : List (Nat × Instr × Nat) := [(0, .aload_n 0, 1), (1, .invokevirtual 54, 3), (4, .aload_n 0, 1), (5, .getfield 21, 3), (8, .getfield 164, 3), (11, .istore_n 2, 1), (12, .aload_n 0, 1), (13, .invokevirtual 245, 3), (16, .aload_n 0, 1), (17, .bipush 19, 2), (19, .invokevirtual 180, 3), (22, .aload_n 0, 1), (23, .getfield 21, 3), (26, .iload_n 1, 1), (27, .iload_n 2, 1), (28, .invokevirtual 198, 3), (31, .pop, 1), (32, .return_, 1)]
set_option maxRecDepth 20000 in
theorem dn_147_0_0_ok : dn_147_0_0.all (fun q => decide (decode (xm_b n_147) q.1 = .ok (q.2.1, q.2.2))) = true := xa_g_ok (by decide +kernel)
def te_147_0 : Nat → eE := (e_T 16 (e_T 5 (e_T 1 (e_T 0 (e_L 0 (0, ei_load 0 2 1, 0, 0)) (e_L 1 (2, e_nof, 123, 1))) (e_T 4 (e_L 4 (0, ei_load 0 2 5, 0, 0)) (e_L 5 (0, ei_getf eft elay 8 3 8, 0, 0)))) (e_T 11 (e_T 8 (e_L 8 (0, ei_getf eft elay 1 0 11, 0, 0)) (e_L 11 (0, ei_stor 2 0 12, 0, 0))) (e_T 12 (e_L 12 (0, ei_load 0 2 13, 0, 0)) (e_T 13 (e_L 13 (2, e_nof, 158, 1)) (e_L 16 (0, ei_load 0 2 17, 0, 0)))))) (e_T 23 (e_T 19 (e_T 17 (e_L 17 (0, ei_push (0, 19) 19, 0, 0)) (e_L 19 (2, e_nof, 129, 2))) (e_T 22 (e_L 22 (0, ei_load 0 2 23, 0, 0)) (e_L 23 (0, ei_getf eft elay 8 3 26, 0, 0)))) (e_T 27 (e_T 26 (e_L 26 (0, ei_load 1 0 27, 0, 0)) (e_L 27 (0, ei_load 2 0 28, 0, 0))) (e_T 28 (e_L 28 (2, e_nof, 21, 3)) (e_T 31 (e_L 31 (0, ei_stk ef_pop 32, 0, 0)) (e_L 32 (1, e_nof, 0, 0)))))))
set_option maxRecDepth 20000 in
set_option maxHeartbeats 4000000 in
theorem te_147_0_ok : ∀ pc, e_EOq eft cls elay eI n_147 pc (te_147_0 pc) :=
  (e_Tok2
  (e_Tok2
  (e_Tok2
  (e_Tok2
  (e_Lok (ld_aload_n_0 (x_dk dn_147_0_0_ok 0 rfl)))
  (e_Lok (lk_8_54 ho_147 (x_dk dn_147_0_0_ok 1 rfl))))
  (e_Tok2
  (e_Lok (ld_aload_n_0 (x_dk dn_147_0_0_ok 2 rfl)))
  (e_Lok (lk_8_21g ho_147 (x_dk dn_147_0_0_ok 3 rfl)))))
  (e_Tok2
  (e_Tok2
  (e_Lok (lk_8_164g ho_147 (x_dk dn_147_0_0_ok 4 rfl)))
  (e_Lok (e_st (I := eI) (er_istore_n (i := 2) (x_dk dn_147_0_0_ok 5 rfl) (by decide +kernel)) nx_stor)))
  (e_Tok2
  (e_Lok (ld_aload_n_0 (x_dk dn_147_0_0_ok 6 rfl)))
  (e_Tok2
  (e_Lok (lk_8_245 ho_147 (x_dk dn_147_0_0_ok 7 rfl)))
  (e_Lok (ld_aload_n_0 (x_dk dn_147_0_0_ok 8 rfl)))))))
  (e_Tok2
  (e_Tok2
  (e_Tok2
  (e_Lok (ps_bipush_19 (x_dk dn_147_0_0_ok 9 rfl)))
  (e_Lok (lk_8_180 ho_147 (x_dk dn_147_0_0_ok 10 rfl))))
  (e_Tok2
  (e_Lok (ld_aload_n_0 (x_dk dn_147_0_0_ok 11 rfl)))
  (e_Lok (lk_8_21g ho_147 (x_dk dn_147_0_0_ok 12 rfl)))))
  (e_Tok2
  (e_Tok2
  (e_Lok (ld_iload_n_1 (x_dk dn_147_0_0_ok 13 rfl)))
  (e_Lok (ld_iload_n_2 (x_dk dn_147_0_0_ok 14 rfl))))
  (e_Tok2
  (e_Lok (lk_8_198 ho_147 (x_dk dn_147_0_0_ok 15 rfl)))
  (e_Tok2
  (e_Lok (e_st (I := eI) (er_pop (x_dk dn_147_0_0_ok 16 rfl)) (nx_stk bf_pop)))
  (e_Lok (e_rt (I := eI) (k := 0) ⟨(x_dk dn_147_0_0_ok 17 rfl), rfl⟩)))))))
def te_147 : Nat → eE := te_147_0
theorem te_147_ok : ∀ pc, e_EOq eft cls elay eI n_147 pc (te_147 pc) := te_147_0_ok
theorem ho_148 : (xm_y n_148).cls = "RobotCellHouse$Reader" := rfl
def dn_148_0_0 : List (Nat × Instr × Nat) := [(0, .aload_n 0, 1), (1, .invokevirtual 54, 3), (4, .aload_n 0, 1), (5, .getfield 78, 3), (8, .istore_n 2, 1), (9, .aload_n 0, 1), (10, .iconst 1, 1), (11, .invokevirtual 180, 3), (14, .aload_n 0, 1), (15, .bipush 19, 2), (17, .invokevirtual 180, 3), (20, .aload_n 0, 1), (21, .getfield 21, 3), (24, .iload_n 1, 1), (25, .iload_n 2, 1), (26, .invokevirtual 198, 3), (29, .pop, 1), (30, .return_, 1)]
set_option maxRecDepth 20000 in
theorem dn_148_0_0_ok : dn_148_0_0.all (fun q => decide (decode (xm_b n_148) q.1 = .ok (q.2.1, q.2.2))) = true := xa_g_ok (by decide +kernel)
def te_148_0 : Nat → eE := (e_T 14 (e_T 5 (e_T 1 (e_T 0 (e_L 0 (0, ei_load 0 2 1, 0, 0)) (e_L 1 (2, e_nof, 123, 1))) (e_T 4 (e_L 4 (0, ei_load 0 2 5, 0, 0)) (e_L 5 (0, ei_getf eft elay 8 6 8, 0, 0)))) (e_T 9 (e_T 8 (e_L 8 (0, ei_stor 2 0 9, 0, 0)) (e_L 9 (0, ei_load 0 2 10, 0, 0))) (e_T 10 (e_L 10 (0, ei_push (0, 1) 11, 0, 0)) (e_T 11 (e_L 11 (2, e_nof, 129, 2)) (e_L 14 (0, ei_load 0 2 15, 0, 0)))))) (e_T 21 (e_T 17 (e_T 15 (e_L 15 (0, ei_push (0, 19) 17, 0, 0)) (e_L 17 (2, e_nof, 129, 2))) (e_T 20 (e_L 20 (0, ei_load 0 2 21, 0, 0)) (e_L 21 (0, ei_getf eft elay 8 3 24, 0, 0)))) (e_T 25 (e_T 24 (e_L 24 (0, ei_load 1 0 25, 0, 0)) (e_L 25 (0, ei_load 2 0 26, 0, 0))) (e_T 26 (e_L 26 (2, e_nof, 21, 3)) (e_T 29 (e_L 29 (0, ei_stk ef_pop 30, 0, 0)) (e_L 30 (1, e_nof, 0, 0)))))))
set_option maxRecDepth 20000 in
set_option maxHeartbeats 4000000 in
theorem te_148_0_ok : ∀ pc, e_EOq eft cls elay eI n_148 pc (te_148_0 pc) :=
  (e_Tok2
  (e_Tok2
  (e_Tok2
  (e_Tok2
  (e_Lok (ld_aload_n_0 (x_dk dn_148_0_0_ok 0 rfl)))
  (e_Lok (lk_8_54 ho_148 (x_dk dn_148_0_0_ok 1 rfl))))
  (e_Tok2
  (e_Lok (ld_aload_n_0 (x_dk dn_148_0_0_ok 2 rfl)))
  (e_Lok (lk_8_78g ho_148 (x_dk dn_148_0_0_ok 3 rfl)))))
  (e_Tok2
  (e_Tok2
  (e_Lok (e_st (I := eI) (er_istore_n (i := 2) (x_dk dn_148_0_0_ok 4 rfl) (by decide +kernel)) nx_stor))
  (e_Lok (ld_aload_n_0 (x_dk dn_148_0_0_ok 5 rfl))))
  (e_Tok2
  (e_Lok (ps_iconst_1 (x_dk dn_148_0_0_ok 6 rfl)))
  (e_Tok2
  (e_Lok (lk_8_180 ho_148 (x_dk dn_148_0_0_ok 7 rfl)))
  (e_Lok (ld_aload_n_0 (x_dk dn_148_0_0_ok 8 rfl)))))))
  (e_Tok2
  (e_Tok2
  (e_Tok2
  (e_Lok (ps_bipush_19 (x_dk dn_148_0_0_ok 9 rfl)))
  (e_Lok (lk_8_180 ho_148 (x_dk dn_148_0_0_ok 10 rfl))))
  (e_Tok2
  (e_Lok (ld_aload_n_0 (x_dk dn_148_0_0_ok 11 rfl)))
  (e_Lok (lk_8_21g ho_148 (x_dk dn_148_0_0_ok 12 rfl)))))
  (e_Tok2
  (e_Tok2
  (e_Lok (ld_iload_n_1 (x_dk dn_148_0_0_ok 13 rfl)))
  (e_Lok (ld_iload_n_2 (x_dk dn_148_0_0_ok 14 rfl))))
  (e_Tok2
  (e_Lok (lk_8_198 ho_148 (x_dk dn_148_0_0_ok 15 rfl)))
  (e_Tok2
  (e_Lok (e_st (I := eI) (er_pop (x_dk dn_148_0_0_ok 16 rfl)) (nx_stk bf_pop)))
  (e_Lok (e_rt (I := eI) (k := 0) ⟨(x_dk dn_148_0_0_ok 17 rfl), rfl⟩)))))))
def te_148 : Nat → eE := te_148_0
theorem te_148_ok : ∀ pc, e_EOq eft cls elay eI n_148 pc (te_148 pc) := te_148_0_ok
theorem ho_149 : (xm_y n_149).cls = "RobotCellHouse$Reader" := rfl
def dn_149_0_0 : List (Nat × Instr × Nat) := [(0, .aload_n 0, 1), (1, .invokevirtual 248, 3), (4, .istore_n 1, 1), (5, .aload_n 0, 1), (6, .invokevirtual 54, 3), (9, .aload_n 0, 1), (10, .bipush 13, 2), (12, .invokevirtual 180, 3), (15, .aload_n 0, 1), (16, .invokevirtual 245, 3), (19, .aload_n 0, 1), (20, .bipush 19, 2), (22, .invokevirtual 180, 3), (25, .aload_n 0, 1), (26, .getfield 21, 3), (29, .bipush 25, 2), (31, .iload_n 1, 1), (32, .invokevirtual 198, 3), (35, .pop, 1), (36, .return_, 1)]
set_option maxRecDepth 20000 in
theorem dn_149_0_0_ok : dn_149_0_0.all (fun q => decide (decode (xm_b n_149) q.1 = .ok (q.2.1, q.2.2))) = true := xa_g_ok (by decide +kernel)
def te_149_0 : Nat → eE := (e_T 16 (e_T 6 (e_T 1 (e_T 0 (e_L 0 (0, ei_load 0 2 1, 0, 0)) (e_L 1 (2, e_nof, 137, 1))) (e_T 4 (e_L 4 (0, ei_stor 1 0 5, 0, 0)) (e_T 5 (e_L 5 (0, ei_load 0 2 6, 0, 0)) (e_L 6 (2, e_nof, 123, 1))))) (e_T 10 (e_T 9 (e_L 9 (0, ei_load 0 2 10, 0, 0)) (e_L 10 (0, ei_push (0, 13) 12, 0, 0))) (e_T 12 (e_L 12 (2, e_nof, 129, 2)) (e_T 15 (e_L 15 (0, ei_load 0 2 16, 0, 0)) (e_L 16 (2, e_nof, 158, 1)))))) (e_T 26 (e_T 20 (e_T 19 (e_L 19 (0, ei_load 0 2 20, 0, 0)) (e_L 20 (0, ei_push (0, 19) 22, 0, 0))) (e_T 22 (e_L 22 (2, e_nof, 129, 2)) (e_T 25 (e_L 25 (0, ei_load 0 2 26, 0, 0)) (e_L 26 (0, ei_getf eft elay 8 3 29, 0, 0))))) (e_T 31 (e_T 29 (e_L 29 (0, ei_push (0, 25) 31, 0, 0)) (e_L 31 (0, ei_load 1 0 32, 0, 0))) (e_T 32 (e_L 32 (2, e_nof, 21, 3)) (e_T 35 (e_L 35 (0, ei_stk ef_pop 36, 0, 0)) (e_L 36 (1, e_nof, 0, 0)))))))
set_option maxRecDepth 20000 in
set_option maxHeartbeats 4000000 in
theorem te_149_0_ok : ∀ pc, e_EOq eft cls elay eI n_149 pc (te_149_0 pc) :=
  (e_Tok2
  (e_Tok2
  (e_Tok2
  (e_Tok2
  (e_Lok (ld_aload_n_0 (x_dk dn_149_0_0_ok 0 rfl)))
  (e_Lok (lk_8_248 ho_149 (x_dk dn_149_0_0_ok 1 rfl))))
  (e_Tok2
  (e_Lok (e_st (I := eI) (er_istore_n (i := 1) (x_dk dn_149_0_0_ok 2 rfl) (by decide +kernel)) nx_stor))
  (e_Tok2
  (e_Lok (ld_aload_n_0 (x_dk dn_149_0_0_ok 3 rfl)))
  (e_Lok (lk_8_54 ho_149 (x_dk dn_149_0_0_ok 4 rfl))))))
  (e_Tok2
  (e_Tok2
  (e_Lok (ld_aload_n_0 (x_dk dn_149_0_0_ok 5 rfl)))
  (e_Lok (ps_bipush_13 (x_dk dn_149_0_0_ok 6 rfl))))
  (e_Tok2
  (e_Lok (lk_8_180 ho_149 (x_dk dn_149_0_0_ok 7 rfl)))
  (e_Tok2
  (e_Lok (ld_aload_n_0 (x_dk dn_149_0_0_ok 8 rfl)))
  (e_Lok (lk_8_245 ho_149 (x_dk dn_149_0_0_ok 9 rfl)))))))
  (e_Tok2
  (e_Tok2
  (e_Tok2
  (e_Lok (ld_aload_n_0 (x_dk dn_149_0_0_ok 10 rfl)))
  (e_Lok (ps_bipush_19 (x_dk dn_149_0_0_ok 11 rfl))))
  (e_Tok2
  (e_Lok (lk_8_180 ho_149 (x_dk dn_149_0_0_ok 12 rfl)))
  (e_Tok2
  (e_Lok (ld_aload_n_0 (x_dk dn_149_0_0_ok 13 rfl)))
  (e_Lok (lk_8_21g ho_149 (x_dk dn_149_0_0_ok 14 rfl))))))
  (e_Tok2
  (e_Tok2
  (e_Lok (ps_bipush_25 (x_dk dn_149_0_0_ok 15 rfl)))
  (e_Lok (ld_iload_n_1 (x_dk dn_149_0_0_ok 16 rfl))))
  (e_Tok2
  (e_Lok (lk_8_198 ho_149 (x_dk dn_149_0_0_ok 17 rfl)))
  (e_Tok2
  (e_Lok (e_st (I := eI) (er_pop (x_dk dn_149_0_0_ok 18 rfl)) (nx_stk bf_pop)))
  (e_Lok (e_rt (I := eI) (k := 0) ⟨(x_dk dn_149_0_0_ok 19 rfl), rfl⟩)))))))
def te_149 : Nat → eE := te_149_0
theorem te_149_ok : ∀ pc, e_EOq eft cls elay eI n_149 pc (te_149 pc) := te_149_0_ok
theorem ho_150 : (xm_y n_150).cls = "RobotCellHouse$Reader" := rfl
def dn_150_0_0 : List (Nat × Instr × Nat) := [(0, .aload_n 0, 1), (1, .invokevirtual 54, 3), (4, .aload_n 0, 1), (5, .invokevirtual 245, 3), (8, .aload_n 0, 1), (9, .getfield 21, 3), (12, .bipush 26, 2), (14, .iconst 0, 1), (15, .invokevirtual 198, 3), (18, .pop, 1), (19, .iconst 1, 1), (20, .istore_n 1, 1), (21, .iload_n 1, 1), (22, .sipush 4000, 3), (25, .if_icmp .ge 37, 3), (28, .aload_n 0, 1), (29, .getfield 57, 3), (32, .bipush 18, 2), (34, .if_icmp .ne 28, 3), (37, .aload_n 0, 1), (38, .invokevirtual 54, 3), (41, .aload_n 0, 1), (42, .invokevirtual 245, 3), (45, .aload_n 0, 1), (46, .getfield 21, 3)]
set_option maxRecDepth 20000 in
theorem dn_150_0_0_ok : dn_150_0_0.all (fun q => decide (decode (xm_b n_150) q.1 = .ok (q.2.1, q.2.2))) = true := xa_g_ok (by decide +kernel)
def dn_150_0_1 : List (Nat × Instr × Nat) := [(49, .bipush 26, 2), (51, .iload_n 1, 1), (52, .invokevirtual 198, 3), (55, .pop, 1), (56, .iinc 1 1, 3), (59, .goto (-38), 3), (62, .aload_n 0, 1), (63, .bipush 19, 2), (65, .invokevirtual 180, 3), (68, .aload_n 0, 1), (69, .getfield 21, 3), (72, .bipush 27, 2), (74, .iload_n 1, 1), (75, .invokevirtual 198, 3), (78, .pop, 1), (79, .return_, 1)]
set_option maxRecDepth 20000 in
theorem dn_150_0_1_ok : dn_150_0_1.all (fun q => decide (decode (xm_b n_150) q.1 = .ok (q.2.1, q.2.2))) = true := xa_g_ok (by decide +kernel)
def te_150_0 : Nat → eE := (e_T 18 (e_T 8 (e_T 1 (e_T 0 (e_L 0 (0, ei_load 0 2 1, 0, 0)) (e_L 1 (2, e_nof, 123, 1))) (e_T 4 (e_L 4 (0, ei_load 0 2 5, 0, 0)) (e_T 5 (e_L 5 (2, e_nof, 158, 1)) (e_L 8 (0, ei_load 0 2 9, 0, 0))))) (e_T 12 (e_T 9 (e_L 9 (0, ei_getf eft elay 8 3 12, 0, 0)) (e_L 12 (0, ei_push (0, 26) 14, 0, 0))) (e_T 14 (e_L 14 (0, ei_push (0, 0) 15, 0, 0)) (e_T 15 (e_L 15 (2, e_nof, 21, 3)) (e_L 18 (0, ei_stk ef_pop 19, 0, 0)))))) (e_T 25 (e_T 20 (e_T 19 (e_L 19 (0, ei_push (0, 1) 20, 0, 0)) (e_L 20 (0, ei_stor 1 0 21, 0, 0))) (e_T 21 (e_L 21 (0, ei_load 1 0 22, 0, 0)) (e_T 22 (e_L 22 (0, ei_push (0, 4000) 25, 0, 0)) (e_L 25 (0, ei_if2 3 62 28, 0, 0))))) (e_T 29 (e_T 28 (e_L 28 (0, ei_load 0 2 29, 0, 0)) (e_L 29 (0, ei_getf eft elay 8 5 32, 0, 0))) (e_T 32 (e_L 32 (0, ei_push (0, 18) 34, 0, 0)) (e_T 34 (e_L 34 (0, ei_if2 1 62 37, 0, 0)) (e_L 37 (0, ei_load 0 2 38, 0, 0)))))))
set_option maxRecDepth 20000 in
set_option maxHeartbeats 4000000 in
theorem te_150_0_ok : ∀ pc, e_EOq eft cls elay eI n_150 pc (te_150_0 pc) :=
  (e_Tok2
  (e_Tok2
  (e_Tok2
  (e_Tok2
  (e_Lok (ld_aload_n_0 (x_dk dn_150_0_0_ok 0 rfl)))
  (e_Lok (lk_8_54 ho_150 (x_dk dn_150_0_0_ok 1 rfl))))
  (e_Tok2
  (e_Lok (ld_aload_n_0 (x_dk dn_150_0_0_ok 2 rfl)))
  (e_Tok2
  (e_Lok (lk_8_245 ho_150 (x_dk dn_150_0_0_ok 3 rfl)))
  (e_Lok (ld_aload_n_0 (x_dk dn_150_0_0_ok 4 rfl))))))
  (e_Tok2
  (e_Tok2
  (e_Lok (lk_8_21g ho_150 (x_dk dn_150_0_0_ok 5 rfl)))
  (e_Lok (ps_bipush_26 (x_dk dn_150_0_0_ok 6 rfl))))
  (e_Tok2
  (e_Lok (ps_iconst_0 (x_dk dn_150_0_0_ok 7 rfl)))
  (e_Tok2
  (e_Lok (lk_8_198 ho_150 (x_dk dn_150_0_0_ok 8 rfl)))
  (e_Lok (e_st (I := eI) (er_pop (x_dk dn_150_0_0_ok 9 rfl)) (nx_stk bf_pop)))))))
  (e_Tok2
  (e_Tok2
  (e_Tok2
  (e_Lok (ps_iconst_1 (x_dk dn_150_0_0_ok 10 rfl)))
  (e_Lok (e_st (I := eI) (er_istore_n (i := 1) (x_dk dn_150_0_0_ok 11 rfl) (by decide +kernel)) nx_stor)))
  (e_Tok2
  (e_Lok (ld_iload_n_1 (x_dk dn_150_0_0_ok 12 rfl)))
  (e_Tok2
  (e_Lok (ps_sipush_4000 (x_dk dn_150_0_0_ok 13 rfl)))
  (e_Lok (e_st (I := eI) (er_icmpge (off := 37) (tg := 62) (x_dk dn_150_0_0_ok 14 rfl) (by decide)) nx_if2)))))
  (e_Tok2
  (e_Tok2
  (e_Lok (ld_aload_n_0 (x_dk dn_150_0_0_ok 15 rfl)))
  (e_Lok (lk_8_57g ho_150 (x_dk dn_150_0_0_ok 16 rfl))))
  (e_Tok2
  (e_Lok (ps_bipush_18 (x_dk dn_150_0_0_ok 17 rfl)))
  (e_Tok2
  (e_Lok (e_st (I := eI) (er_icmpne (off := 28) (tg := 62) (x_dk dn_150_0_0_ok 18 rfl) (by decide)) nx_if2))
  (e_Lok (ld_aload_n_0 (x_dk dn_150_0_0_ok 19 rfl))))))))
def te_150_20 : Nat → eE := (e_T 56 (e_T 46 (e_T 41 (e_T 38 (e_L 38 (2, e_nof, 123, 1)) (e_L 41 (0, ei_load 0 2 42, 0, 0))) (e_T 42 (e_L 42 (2, e_nof, 158, 1)) (e_T 45 (e_L 45 (0, ei_load 0 2 46, 0, 0)) (e_L 46 (0, ei_getf eft elay 8 3 49, 0, 0))))) (e_T 51 (e_T 49 (e_L 49 (0, ei_push (0, 26) 51, 0, 0)) (e_L 51 (0, ei_load 1 0 52, 0, 0))) (e_T 52 (e_L 52 (2, e_nof, 21, 3)) (e_T 55 (e_L 55 (0, ei_stk ef_pop 56, 0, 0)) (e_L 56 (0, ei_inc 1 1 59, 0, 0)))))) (e_T 68 (e_T 62 (e_T 59 (e_L 59 (0, ei_goto 21, 0, 0)) (e_L 62 (0, ei_load 0 2 63, 0, 0))) (e_T 63 (e_L 63 (0, ei_push (0, 19) 65, 0, 0)) (e_T 65 (e_L 65 (2, e_nof, 129, 2)) (e_L 68 (0, ei_load 0 2 69, 0, 0))))) (e_T 74 (e_T 69 (e_L 69 (0, ei_getf eft elay 8 3 72, 0, 0)) (e_T 72 (e_L 72 (0, ei_push (0, 27) 74, 0, 0)) (e_L 74 (0, ei_load 1 0 75, 0, 0)))) (e_T 75 (e_L 75 (2, e_nof, 21, 3)) (e_T 78 (e_L 78 (0, ei_stk ef_pop 79, 0, 0)) (e_L 79 (1, e_nof, 0, 0)))))))
set_option maxRecDepth 20000 in
set_option maxHeartbeats 4000000 in
theorem te_150_20_ok : ∀ pc, e_EOq eft cls elay eI n_150 pc (te_150_20 pc) :=
  (e_Tok2
  (e_Tok2
  (e_Tok2
  (e_Tok2
  (e_Lok (lk_8_54 ho_150 (x_dk dn_150_0_0_ok 20 rfl)))
  (e_Lok (ld_aload_n_0 (x_dk dn_150_0_0_ok 21 rfl))))
  (e_Tok2
  (e_Lok (lk_8_245 ho_150 (x_dk dn_150_0_0_ok 22 rfl)))
  (e_Tok2
  (e_Lok (ld_aload_n_0 (x_dk dn_150_0_0_ok 23 rfl)))
  (e_Lok (lk_8_21g ho_150 (x_dk dn_150_0_0_ok 24 rfl))))))
  (e_Tok2
  (e_Tok2
  (e_Lok (ps_bipush_26 (x_dk dn_150_0_1_ok 0 rfl)))
  (e_Lok (ld_iload_n_1 (x_dk dn_150_0_1_ok 1 rfl))))
  (e_Tok2
  (e_Lok (lk_8_198 ho_150 (x_dk dn_150_0_1_ok 2 rfl)))
  (e_Tok2
  (e_Lok (e_st (I := eI) (er_pop (x_dk dn_150_0_1_ok 3 rfl)) (nx_stk bf_pop)))
  (e_Lok (e_st (I := eI) (er_iinc (i := 1) (n := 1) (x_dk dn_150_0_1_ok 4 rfl) (by decide +kernel) (by decide)) nx_inc))))))
  (e_Tok2
  (e_Tok2
  (e_Tok2
  (e_Lok (e_st (I := eI) (er_goto (off := (-38)) (tg := 21) (x_dk dn_150_0_1_ok 5 rfl) (by decide)) nx_goto))
  (e_Lok (ld_aload_n_0 (x_dk dn_150_0_1_ok 6 rfl))))
  (e_Tok2
  (e_Lok (ps_bipush_19 (x_dk dn_150_0_1_ok 7 rfl)))
  (e_Tok2
  (e_Lok (lk_8_180 ho_150 (x_dk dn_150_0_1_ok 8 rfl)))
  (e_Lok (ld_aload_n_0 (x_dk dn_150_0_1_ok 9 rfl))))))
  (e_Tok2
  (e_Tok2
  (e_Lok (lk_8_21g ho_150 (x_dk dn_150_0_1_ok 10 rfl)))
  (e_Tok2
  (e_Lok (ps_bipush_27 (x_dk dn_150_0_1_ok 11 rfl)))
  (e_Lok (ld_iload_n_1 (x_dk dn_150_0_1_ok 12 rfl)))))
  (e_Tok2
  (e_Lok (lk_8_198 ho_150 (x_dk dn_150_0_1_ok 13 rfl)))
  (e_Tok2
  (e_Lok (e_st (I := eI) (er_pop (x_dk dn_150_0_1_ok 14 rfl)) (nx_stk bf_pop)))
  (e_Lok (e_rt (I := eI) (k := 0) ⟨(x_dk dn_150_0_1_ok 15 rfl), rfl⟩)))))))
def te_150 : Nat → eE := (e_T 37 te_150_0 te_150_20)
theorem te_150_ok : ∀ pc, e_EOq eft cls elay eI n_150 pc (te_150 pc) := (e_Tok2 (te_150_0_ok) (te_150_20_ok))
theorem ho_151 : (xm_y n_151).cls = "RobotCellHouse$Reader" := rfl
def dn_151_0_0 : List (Nat × Instr × Nat) := [(0, .aload_n 0, 1), (1, .invokevirtual 54, 3), (4, .aload_n 0, 1), (5, .invokevirtual 245, 3), (8, .aload_n 0, 1), (9, .bipush 18, 2), (11, .invokevirtual 180, 3), (14, .aload_n 0, 1), (15, .invokevirtual 245, 3), (18, .aload_n 0, 1), (19, .bipush 19, 2), (21, .invokevirtual 180, 3), (24, .aload_n 0, 1), (25, .getfield 21, 3), (28, .bipush 30, 2), (30, .iconst 0, 1), (31, .invokevirtual 198, 3), (34, .pop, 1), (35, .return_, 1)]
set_option maxRecDepth 20000 in
theorem dn_151_0_0_ok : dn_151_0_0.all (fun q => decide (decode (xm_b n_151) q.1 = .ok (q.2.1, q.2.2))) = true := xa_g_ok (by decide +kernel)
def te_151_0 : Nat → eE := (e_T 15 (e_T 5 (e_T 1 (e_T 0 (e_L 0 (0, ei_load 0 2 1, 0, 0)) (e_L 1 (2, e_nof, 123, 1))) (e_T 4 (e_L 4 (0, ei_load 0 2 5, 0, 0)) (e_L 5 (2, e_nof, 158, 1)))) (e_T 9 (e_T 8 (e_L 8 (0, ei_load 0 2 9, 0, 0)) (e_L 9 (0, ei_push (0, 18) 11, 0, 0))) (e_T 11 (e_L 11 (2, e_nof, 129, 2)) (e_T 14 (e_L 14 (0, ei_load 0 2 15, 0, 0)) (e_L 15 (2, e_nof, 158, 1)))))) (e_T 25 (e_T 19 (e_T 18 (e_L 18 (0, ei_load 0 2 19, 0, 0)) (e_L 19 (0, ei_push (0, 19) 21, 0, 0))) (e_T 21 (e_L 21 (2, e_nof, 129, 2)) (e_T 24 (e_L 24 (0, ei_load 0 2 25, 0, 0)) (e_L 25 (0, ei_getf eft elay 8 3 28, 0, 0))))) (e_T 30 (e_T 28 (e_L 28 (0, ei_push (0, 30) 30, 0, 0)) (e_L 30 (0, ei_push (0, 0) 31, 0, 0))) (e_T 31 (e_L 31 (2, e_nof, 21, 3)) (e_T 34 (e_L 34 (0, ei_stk ef_pop 35, 0, 0)) (e_L 35 (1, e_nof, 0, 0)))))))
set_option maxRecDepth 20000 in
set_option maxHeartbeats 4000000 in
theorem te_151_0_ok : ∀ pc, e_EOq eft cls elay eI n_151 pc (te_151_0 pc) :=
  (e_Tok2
  (e_Tok2
  (e_Tok2
  (e_Tok2
  (e_Lok (ld_aload_n_0 (x_dk dn_151_0_0_ok 0 rfl)))
  (e_Lok (lk_8_54 ho_151 (x_dk dn_151_0_0_ok 1 rfl))))
  (e_Tok2
  (e_Lok (ld_aload_n_0 (x_dk dn_151_0_0_ok 2 rfl)))
  (e_Lok (lk_8_245 ho_151 (x_dk dn_151_0_0_ok 3 rfl)))))
  (e_Tok2
  (e_Tok2
  (e_Lok (ld_aload_n_0 (x_dk dn_151_0_0_ok 4 rfl)))
  (e_Lok (ps_bipush_18 (x_dk dn_151_0_0_ok 5 rfl))))
  (e_Tok2
  (e_Lok (lk_8_180 ho_151 (x_dk dn_151_0_0_ok 6 rfl)))
  (e_Tok2
  (e_Lok (ld_aload_n_0 (x_dk dn_151_0_0_ok 7 rfl)))
  (e_Lok (lk_8_245 ho_151 (x_dk dn_151_0_0_ok 8 rfl)))))))
  (e_Tok2
  (e_Tok2
  (e_Tok2
  (e_Lok (ld_aload_n_0 (x_dk dn_151_0_0_ok 9 rfl)))
  (e_Lok (ps_bipush_19 (x_dk dn_151_0_0_ok 10 rfl))))
  (e_Tok2
  (e_Lok (lk_8_180 ho_151 (x_dk dn_151_0_0_ok 11 rfl)))
  (e_Tok2
  (e_Lok (ld_aload_n_0 (x_dk dn_151_0_0_ok 12 rfl)))
  (e_Lok (lk_8_21g ho_151 (x_dk dn_151_0_0_ok 13 rfl))))))
  (e_Tok2
  (e_Tok2
  (e_Lok (ps_bipush_30 (x_dk dn_151_0_0_ok 14 rfl)))
  (e_Lok (ps_iconst_0 (x_dk dn_151_0_0_ok 15 rfl))))
  (e_Tok2
  (e_Lok (lk_8_198 ho_151 (x_dk dn_151_0_0_ok 16 rfl)))
  (e_Tok2
  (e_Lok (e_st (I := eI) (er_pop (x_dk dn_151_0_0_ok 17 rfl)) (nx_stk bf_pop)))
  (e_Lok (e_rt (I := eI) (k := 0) ⟨(x_dk dn_151_0_0_ok 18 rfl), rfl⟩)))))))
def te_151 : Nat → eE := te_151_0
theorem te_151_ok : ∀ pc, e_EOq eft cls elay eI n_151 pc (te_151 pc) := te_151_0_ok
theorem ho_152 : (xm_y n_152).cls = "RobotCellHouse$Reader" := rfl
def dn_152_0_0 : List (Nat × Instr × Nat) := [(0, .aload_n 0, 1), (1, .invokevirtual 54, 3), (4, .aload_n 0, 1), (5, .invokevirtual 245, 3), (8, .aload_n 0, 1), (9, .bipush 18, 2), (11, .invokevirtual 180, 3), (14, .aload_n 0, 1), (15, .getfield 78, 3), (18, .istore_n 1, 1), (19, .aload_n 0, 1), (20, .iconst 1, 1), (21, .invokevirtual 180, 3), (24, .aload_n 0, 1), (25, .bipush 19, 2), (27, .invokevirtual 180, 3), (30, .aload_n 0, 1), (31, .getfield 21, 3), (34, .bipush 39, 2), (36, .iload_n 1, 1), (37, .invokevirtual 198, 3), (40, .pop, 1), (41, .return_, 1)]
set_option maxRecDepth 20000 in
theorem dn_152_0_0_ok : dn_152_0_0.all (fun q => decide (decode (xm_b n_152) q.1 = .ok (q.2.1, q.2.2))) = true := xa_g_ok (by decide +kernel)
def te_152_0 : Nat → eE := (e_T 19 (e_T 8 (e_T 1 (e_T 0 (e_L 0 (0, ei_load 0 2 1, 0, 0)) (e_L 1 (2, e_nof, 123, 1))) (e_T 4 (e_L 4 (0, ei_load 0 2 5, 0, 0)) (e_T 5 (e_L 5 (2, e_nof, 158, 1)) (e_L 8 (0, ei_load 0 2 9, 0, 0))))) (e_T 14 (e_T 9 (e_L 9 (0, ei_push (0, 18) 11, 0, 0)) (e_T 11 (e_L 11 (2, e_nof, 129, 2)) (e_L 14 (0, ei_load 0 2 15, 0, 0)))) (e_T 15 (e_L 15 (0, ei_getf eft elay 8 6 18, 0, 0)) (e_T 18 (e_L 18 (0, ei_stor 1 0 19, 0, 0)) (e_L 19 (0, ei_load 0 2 20, 0, 0)))))) (e_T 30 (e_T 24 (e_T 20 (e_L 20 (0, ei_push (0, 1) 21, 0, 0)) (e_T 21 (e_L 21 (2, e_nof, 129, 2)) (e_L 24 (0, ei_load 0 2 25, 0, 0)))) (e_T 25 (e_L 25 (0, ei_push (0, 19) 27, 0, 0)) (e_T 27 (e_L 27 (2, e_nof, 129, 2)) (e_L 30 (0, ei_load 0 2 31, 0, 0))))) (e_T 36 (e_T 31 (e_L 31 (0, ei_getf eft elay 8 3 34, 0, 0)) (e_T 34 (e_L 34 (0, ei_push (0, 39) 36, 0, 0)) (e_L 36 (0, ei_load 1 0 37, 0, 0)))) (e_T 37 (e_L 37 (2, e_nof, 21, 3)) (e_T 40 (e_L 40 (0, ei_stk ef_pop 41, 0, 0)) (e_L 41 (1, e_nof, 0, 0)))))))
set_option maxRecDepth 20000 in
set_option maxHeartbeats 4000000 in
theorem te_152_0_ok : ∀ pc, e_EOq eft cls elay eI n_152 pc (te_152_0 pc) :=
  (e_Tok2
  (e_Tok2
  (e_Tok2
  (e_Tok2
  (e_Lok (ld_aload_n_0 (x_dk dn_152_0_0_ok 0 rfl)))
  (e_Lok (lk_8_54 ho_152 (x_dk dn_152_0_0_ok 1 rfl))))
  (e_Tok2
  (e_Lok (ld_aload_n_0 (x_dk dn_152_0_0_ok 2 rfl)))
  (e_Tok2
  (e_Lok (lk_8_245 ho_152 (x_dk dn_152_0_0_ok 3 rfl)))
  (e_Lok (ld_aload_n_0 (x_dk dn_152_0_0_ok 4 rfl))))))
  (e_Tok2
  (e_Tok2
  (e_Lok (ps_bipush_18 (x_dk dn_152_0_0_ok 5 rfl)))
  (e_Tok2
  (e_Lok (lk_8_180 ho_152 (x_dk dn_152_0_0_ok 6 rfl)))
  (e_Lok (ld_aload_n_0 (x_dk dn_152_0_0_ok 7 rfl)))))
  (e_Tok2
  (e_Lok (lk_8_78g ho_152 (x_dk dn_152_0_0_ok 8 rfl)))
  (e_Tok2
  (e_Lok (e_st (I := eI) (er_istore_n (i := 1) (x_dk dn_152_0_0_ok 9 rfl) (by decide +kernel)) nx_stor))
  (e_Lok (ld_aload_n_0 (x_dk dn_152_0_0_ok 10 rfl)))))))
  (e_Tok2
  (e_Tok2
  (e_Tok2
  (e_Lok (ps_iconst_1 (x_dk dn_152_0_0_ok 11 rfl)))
  (e_Tok2
  (e_Lok (lk_8_180 ho_152 (x_dk dn_152_0_0_ok 12 rfl)))
  (e_Lok (ld_aload_n_0 (x_dk dn_152_0_0_ok 13 rfl)))))
  (e_Tok2
  (e_Lok (ps_bipush_19 (x_dk dn_152_0_0_ok 14 rfl)))
  (e_Tok2
  (e_Lok (lk_8_180 ho_152 (x_dk dn_152_0_0_ok 15 rfl)))
  (e_Lok (ld_aload_n_0 (x_dk dn_152_0_0_ok 16 rfl))))))
  (e_Tok2
  (e_Tok2
  (e_Lok (lk_8_21g ho_152 (x_dk dn_152_0_0_ok 17 rfl)))
  (e_Tok2
  (e_Lok (ps_bipush_39 (x_dk dn_152_0_0_ok 18 rfl)))
  (e_Lok (ld_iload_n_1 (x_dk dn_152_0_0_ok 19 rfl)))))
  (e_Tok2
  (e_Lok (lk_8_198 ho_152 (x_dk dn_152_0_0_ok 20 rfl)))
  (e_Tok2
  (e_Lok (e_st (I := eI) (er_pop (x_dk dn_152_0_0_ok 21 rfl)) (nx_stk bf_pop)))
  (e_Lok (e_rt (I := eI) (k := 0) ⟨(x_dk dn_152_0_0_ok 22 rfl), rfl⟩)))))))
def te_152 : Nat → eE := te_152_0
theorem te_152_ok : ∀ pc, e_EOq eft cls elay eI n_152 pc (te_152 pc) := te_152_0_ok
theorem ho_153 : (xm_y n_153).cls = "RobotCellHouse$Reader" := rfl
def dn_153_0_0 : List (Nat × Instr × Nat) := [(0, .aload_n 0, 1), (1, .getfield 192, 3), (4, .ifCond .ge 13, 3), (7, .aload_n 0, 1), (8, .bipush 6, 2), (10, .aload_n 0, 1), (11, .getfield 78, 3), (14, .invokevirtual 153, 3), (17, .aload_n 0, 1), (18, .invokevirtual 54, 3), (21, .aload_n 0, 1), (22, .bipush 19, 2), (24, .invokevirtual 180, 3), (27, .aload_n 0, 1), (28, .getfield 21, 3), (31, .bipush 44, 2), (33, .aload_n 0, 1), (34, .getfield 192, 3), (37, .iconst 0, 1), (38, .invokestatic 157, 3), (41, .invokevirtual 198, 3), (44, .pop, 1), (45, .return_, 1)]
set_option maxRecDepth 20000 in
theorem dn_153_0_0_ok : dn_153_0_0.all (fun q => decide (decode (xm_b n_153) q.1 = .ok (q.2.1, q.2.2))) = true := xa_g_ok (by decide +kernel)
def te_153_0 : Nat → eE := (e_T 21 (e_T 8 (e_T 1 (e_T 0 (e_L 0 (0, ei_load 0 2 1, 0, 0)) (e_L 1 (0, ei_getf eft elay 8 13 4, 0, 0))) (e_T 4 (e_L 4 (0, ei_if1 3 17 7, 0, 0)) (e_T 7 (e_L 7 (0, ei_load 0 2 8, 0, 0)) (e_L 8 (0, ei_push (0, 6) 10, 0, 0))))) (e_T 14 (e_T 10 (e_L 10 (0, ei_load 0 2 11, 0, 0)) (e_T 11 (e_L 11 (0, ei_getf eft elay 8 6 14, 0, 0)) (e_L 14 (2, e_nof, 133, 3)))) (e_T 17 (e_L 17 (0, ei_load 0 2 18, 0, 0)) (e_T 18 (e_L 18 (2, e_nof, 123, 1)) (e_L 21 (0, ei_load 0 2 22, 0, 0)))))) (e_T 33 (e_T 27 (e_T 22 (e_L 22 (0, ei_push (0, 19) 24, 0, 0)) (e_T 24 (e_L 24 (2, e_nof, 129, 2)) (e_L 27 (0, ei_load 0 2 28, 0, 0)))) (e_T 28 (e_L 28 (0, ei_getf eft elay 8 3 31, 0, 0)) (e_T 31 (e_L 31 (0, ei_push (0, 44) 33, 0, 0)) (e_L 33 (0, ei_load 0 2 34, 0, 0))))) (e_T 38 (e_T 34 (e_L 34 (0, ei_getf eft elay 8 13 37, 0, 0)) (e_T 37 (e_L 37 (0, ei_push (0, 0) 38, 0, 0)) (e_L 38 (0, ei_m2 eM_max 41, 0, 0)))) (e_T 41 (e_L 41 (2, e_nof, 21, 3)) (e_T 44 (e_L 44 (0, ei_stk ef_pop 45, 0, 0)) (e_L 45 (1, e_nof, 0, 0)))))))
set_option maxRecDepth 20000 in
set_option maxHeartbeats 4000000 in
theorem te_153_0_ok : ∀ pc, e_EOq eft cls elay eI n_153 pc (te_153_0 pc) :=
  (e_Tok2
  (e_Tok2
  (e_Tok2
  (e_Tok2
  (e_Lok (ld_aload_n_0 (x_dk dn_153_0_0_ok 0 rfl)))
  (e_Lok (lk_8_192g ho_153 (x_dk dn_153_0_0_ok 1 rfl))))
  (e_Tok2
  (e_Lok (e_st (I := eI) (er_ifge (off := 13) (tg := 17) (x_dk dn_153_0_0_ok 2 rfl) (by decide)) nx_if1))
  (e_Tok2
  (e_Lok (ld_aload_n_0 (x_dk dn_153_0_0_ok 3 rfl)))
  (e_Lok (ps_bipush_6 (x_dk dn_153_0_0_ok 4 rfl))))))
  (e_Tok2
  (e_Tok2
  (e_Lok (ld_aload_n_0 (x_dk dn_153_0_0_ok 5 rfl)))
  (e_Tok2
  (e_Lok (lk_8_78g ho_153 (x_dk dn_153_0_0_ok 6 rfl)))
  (e_Lok (lk_8_153 ho_153 (x_dk dn_153_0_0_ok 7 rfl)))))
  (e_Tok2
  (e_Lok (ld_aload_n_0 (x_dk dn_153_0_0_ok 8 rfl)))
  (e_Tok2
  (e_Lok (lk_8_54 ho_153 (x_dk dn_153_0_0_ok 9 rfl)))
  (e_Lok (ld_aload_n_0 (x_dk dn_153_0_0_ok 10 rfl)))))))
  (e_Tok2
  (e_Tok2
  (e_Tok2
  (e_Lok (ps_bipush_19 (x_dk dn_153_0_0_ok 11 rfl)))
  (e_Tok2
  (e_Lok (lk_8_180 ho_153 (x_dk dn_153_0_0_ok 12 rfl)))
  (e_Lok (ld_aload_n_0 (x_dk dn_153_0_0_ok 13 rfl)))))
  (e_Tok2
  (e_Lok (lk_8_21g ho_153 (x_dk dn_153_0_0_ok 14 rfl)))
  (e_Tok2
  (e_Lok (ps_bipush_44 (x_dk dn_153_0_0_ok 15 rfl)))
  (e_Lok (ld_aload_n_0 (x_dk dn_153_0_0_ok 16 rfl))))))
  (e_Tok2
  (e_Tok2
  (e_Lok (lk_8_192g ho_153 (x_dk dn_153_0_0_ok 17 rfl)))
  (e_Tok2
  (e_Lok (ps_iconst_0 (x_dk dn_153_0_0_ok 18 rfl)))
  (e_Lok (e_st (I := eI) (er_max (ix := 157) (in_t6 (List.mem_of_getElem? (i := 56) rfl) rfl) (in_t5 (List.mem_of_getElem? (i := 184) rfl) rfl) (in_t1 (List.mem_of_getElem? (i := 15) rfl) rfl) (in_t5 (List.mem_of_getElem? (i := 185) rfl) rfl) (x_dk dn_153_0_0_ok 19 rfl)) nx_m2))))
  (e_Tok2
  (e_Lok (lk_8_198 ho_153 (x_dk dn_153_0_0_ok 20 rfl)))
  (e_Tok2
  (e_Lok (e_st (I := eI) (er_pop (x_dk dn_153_0_0_ok 21 rfl)) (nx_stk bf_pop)))
  (e_Lok (e_rt (I := eI) (k := 0) ⟨(x_dk dn_153_0_0_ok 22 rfl), rfl⟩)))))))
def te_153 : Nat → eE := te_153_0
theorem te_153_ok : ∀ pc, e_EOq eft cls elay eI n_153 pc (te_153 pc) := te_153_0_ok
theorem ho_154 : (xm_y n_154).cls = "RobotCellHouse$Reader" := rfl
def dn_154_0_0 : List (Nat × Instr × Nat) := [(0, .aload_n 0, 1), (1, .invokevirtual 251, 3), (4, .ifCond .ne 4, 3), (7, .return_, 1), (8, .aload_n 0, 1), (9, .invokevirtual 54, 3), (12, .aload_n 0, 1), (13, .invokevirtual 245, 3), (16, .aload_n 0, 1), (17, .bipush 20, 2), (19, .invokevirtual 180, 3), (22, .aload_n 0, 1), (23, .getfield 21, 3), (26, .bipush 41, 2), (28, .iconst 0, 1), (29, .invokevirtual 198, 3), (32, .istore_n 1, 1), (33, .aload_n 0, 1), (34, .invokevirtual 195, 3), (37, .aload_n 0, 1), (38, .getfield 57, 3), (41, .bipush 40, 2), (43, .if_icmp .ne 45, 3), (46, .aload_n 0, 1), (47, .invokevirtual 54, 3)]
set_option maxRecDepth 20000 in
theorem dn_154_0_0_ok : dn_154_0_0.all (fun q => decide (decode (xm_b n_154) q.1 = .ok (q.2.1, q.2.2))) = true := xa_g_ok (by decide +kernel)
def dn_154_0_1 : List (Nat × Instr × Nat) := [(50, .aload_n 0, 1), (51, .bipush 20, 2), (53, .invokevirtual 180, 3), (56, .aload_n 0, 1), (57, .getfield 21, 3), (60, .bipush 40, 2), (62, .iconst 0, 1), (63, .invokevirtual 198, 3), (66, .istore_n 2, 1), (67, .aload_n 0, 1), (68, .getfield 21, 3), (71, .iload_n 1, 1), (72, .aload_n 0, 1), (73, .getfield 21, 3), (76, .getfield 164, 3), (79, .invokevirtual 174, 3), (82, .iload_n 2, 1), (83, .istore_n 1, 1), (84, .aload_n 0, 1), (85, .invokevirtual 195, 3), (88, .aload_n 0, 1), (89, .getfield 21, 3), (92, .iload_n 1, 1), (93, .aload_n 0, 1), (94, .getfield 21, 3)]
set_option maxRecDepth 20000 in
theorem dn_154_0_1_ok : dn_154_0_1.all (fun q => decide (decode (xm_b n_154) q.1 = .ok (q.2.1, q.2.2))) = true := xa_g_ok (by decide +kernel)
def dn_154_0_2 : List (Nat × Instr × Nat) := [(97, .getfield 164, 3), (100, .invokevirtual 174, 3), (103, .aload_n 0, 1), (104, .bipush 23, 2), (106, .invokevirtual 180, 3), (109, .aload_n 0, 1), (110, .dup, 1), (111, .getfield 42, 3), (114, .iconst 1, 1), (115, .isub, 1), (116, .putfield 42, 3), (119, .return_, 1)]
set_option maxRecDepth 20000 in
theorem dn_154_0_2_ok : dn_154_0_2.all (fun q => decide (decode (xm_b n_154) q.1 = .ok (q.2.1, q.2.2))) = true := xa_g_ok (by decide +kernel)
def te_154_0 : Nat → eE := (e_T 28 (e_T 12 (e_T 4 (e_T 0 (e_L 0 (0, ei_load 0 2 1, 0, 0)) (e_T 1 (e_L 1 (2, e_nof, 132, 1)) (e_L 4 (0, ei_if1 1 8 7, 0, 0)))) (e_T 8 (e_T 7 (e_L 7 (1, e_nof, 0, 0)) (e_L 8 (0, ei_load 0 2 9, 0, 0))) (e_T 9 (e_L 9 (2, e_nof, 123, 1)) (e_L 12 (0, ei_load 0 2 13, 0, 0))))) (e_T 19 (e_T 16 (e_T 13 (e_L 13 (2, e_nof, 158, 1)) (e_L 16 (0, ei_load 0 2 17, 0, 0))) (e_T 17 (e_L 17 (0, ei_push (0, 20) 19, 0, 0)) (e_L 19 (2, e_nof, 129, 2)))) (e_T 23 (e_T 22 (e_L 22 (0, ei_load 0 2 23, 0, 0)) (e_L 23 (0, ei_getf eft elay 8 3 26, 0, 0))) (e_T 26 (e_L 26 (0, ei_push (0, 41) 28, 0, 0)) (e_L 28 (0, ei_push (0, 0) 29, 0, 0)))))) (e_T 43 (e_T 34 (e_T 32 (e_T 29 (e_L 29 (2, e_nof, 21, 3)) (e_L 32 (0, ei_stor 1 0 33, 0, 0))) (e_T 33 (e_L 33 (0, ei_load 0 2 34, 0, 0)) (e_L 34 (2, e_nof, 144, 1)))) (e_T 38 (e_T 37 (e_L 37 (0, ei_load 0 2 38, 0, 0)) (e_L 38 (0, ei_getf eft elay 8 5 41, 0, 0))) (e_T 41 (e_L 41 (0, ei_push (0, 40) 43, 0, 0)) (e_L 43 (0, ei_if2 1 88 46, 0, 0))))) (e_T 51 (e_T 47 (e_T 46 (e_L 46 (0, ei_load 0 2 47, 0, 0)) (e_L 47 (2, e_nof, 123, 1))) (e_T 50 (e_L 50 (0, ei_load 0 2 51, 0, 0)) (e_L 51 (0, ei_push (0, 20) 53, 0, 0)))) (e_T 56 (e_T 53 (e_L 53 (2, e_nof, 129, 2)) (e_L 56 (0, ei_load 0 2 57, 0, 0))) (e_T 57 (e_L 57 (0, ei_getf eft elay 8 3 60, 0, 0)) (e_L 60 (0, ei_push (0, 40) 62, 0, 0)))))))
set_option maxRecDepth 20000 in
set_option maxHeartbeats 4000000 in
theorem te_154_0_ok : ∀ pc, e_EOq eft cls elay eI n_154 pc (te_154_0 pc) :=
  (e_Tok2
  (e_Tok2
  (e_Tok2
  (e_Tok2
  (e_Lok (ld_aload_n_0 (x_dk dn_154_0_0_ok 0 rfl)))
  (e_Tok2
  (e_Lok (lk_8_251 ho_154 (x_dk dn_154_0_0_ok 1 rfl)))
  (e_Lok (e_st (I := eI) (er_ifne (off := 4) (tg := 8) (x_dk dn_154_0_0_ok 2 rfl) (by decide)) nx_if1))))
  (e_Tok2
  (e_Tok2
  (e_Lok (e_rt (I := eI) (k := 0) ⟨(x_dk dn_154_0_0_ok 3 rfl), rfl⟩))
  (e_Lok (ld_aload_n_0 (x_dk dn_154_0_0_ok 4 rfl))))
  (e_Tok2
  (e_Lok (lk_8_54 ho_154 (x_dk dn_154_0_0_ok 5 rfl)))
  (e_Lok (ld_aload_n_0 (x_dk dn_154_0_0_ok 6 rfl))))))
  (e_Tok2
  (e_Tok2
  (e_Tok2
  (e_Lok (lk_8_245 ho_154 (x_dk dn_154_0_0_ok 7 rfl)))
  (e_Lok (ld_aload_n_0 (x_dk dn_154_0_0_ok 8 rfl))))
  (e_Tok2
  (e_Lok (ps_bipush_20 (x_dk dn_154_0_0_ok 9 rfl)))
  (e_Lok (lk_8_180 ho_154 (x_dk dn_154_0_0_ok 10 rfl)))))
  (e_Tok2
  (e_Tok2
  (e_Lok (ld_aload_n_0 (x_dk dn_154_0_0_ok 11 rfl)))
  (e_Lok (lk_8_21g ho_154 (x_dk dn_154_0_0_ok 12 rfl))))
  (e_Tok2
  (e_Lok (ps_bipush_41 (x_dk dn_154_0_0_ok 13 rfl)))
  (e_Lok (ps_iconst_0 (x_dk dn_154_0_0_ok 14 rfl)))))))
  (e_Tok2
  (e_Tok2
  (e_Tok2
  (e_Tok2
  (e_Lok (lk_8_198 ho_154 (x_dk dn_154_0_0_ok 15 rfl)))
  (e_Lok (e_st (I := eI) (er_istore_n (i := 1) (x_dk dn_154_0_0_ok 16 rfl) (by decide +kernel)) nx_stor)))
  (e_Tok2
  (e_Lok (ld_aload_n_0 (x_dk dn_154_0_0_ok 17 rfl)))
  (e_Lok (lk_8_195 ho_154 (x_dk dn_154_0_0_ok 18 rfl)))))
  (e_Tok2
  (e_Tok2
  (e_Lok (ld_aload_n_0 (x_dk dn_154_0_0_ok 19 rfl)))
  (e_Lok (lk_8_57g ho_154 (x_dk dn_154_0_0_ok 20 rfl))))
  (e_Tok2
  (e_Lok (ps_bipush_40 (x_dk dn_154_0_0_ok 21 rfl)))
  (e_Lok (e_st (I := eI) (er_icmpne (off := 45) (tg := 88) (x_dk dn_154_0_0_ok 22 rfl) (by decide)) nx_if2)))))
  (e_Tok2
  (e_Tok2
  (e_Tok2
  (e_Lok (ld_aload_n_0 (x_dk dn_154_0_0_ok 23 rfl)))
  (e_Lok (lk_8_54 ho_154 (x_dk dn_154_0_0_ok 24 rfl))))
  (e_Tok2
  (e_Lok (ld_aload_n_0 (x_dk dn_154_0_1_ok 0 rfl)))
  (e_Lok (ps_bipush_20 (x_dk dn_154_0_1_ok 1 rfl)))))
  (e_Tok2
  (e_Tok2
  (e_Lok (lk_8_180 ho_154 (x_dk dn_154_0_1_ok 2 rfl)))
  (e_Lok (ld_aload_n_0 (x_dk dn_154_0_1_ok 3 rfl))))
  (e_Tok2
  (e_Lok (lk_8_21g ho_154 (x_dk dn_154_0_1_ok 4 rfl)))
  (e_Lok (ps_bipush_40 (x_dk dn_154_0_1_ok 5 rfl))))))))
def te_154_31 : Nat → eE := (e_T 88 (e_T 72 (e_T 66 (e_T 62 (e_L 62 (0, ei_push (0, 0) 63, 0, 0)) (e_T 63 (e_L 63 (2, e_nof, 21, 3)) (e_L 66 (0, ei_stor 2 0 67, 0, 0)))) (e_T 68 (e_T 67 (e_L 67 (0, ei_load 0 2 68, 0, 0)) (e_L 68 (0, ei_getf eft elay 8 3 71, 0, 0))) (e_T 71 (e_L 71 (0, ei_load 1 0 72, 0, 0)) (e_L 72 (0, ei_load 0 2 73, 0, 0))))) (e_T 82 (e_T 76 (e_T 73 (e_L 73 (0, ei_getf eft elay 8 3 76, 0, 0)) (e_L 76 (0, ei_getf eft elay 1 0 79, 0, 0))) (e_T 79 (e_L 79 (2, e_nof, 22, 3)) (e_L 82 (0, ei_load 2 0 83, 0, 0)))) (e_T 84 (e_T 83 (e_L 83 (0, ei_stor 1 0 84, 0, 0)) (e_L 84 (0, ei_load 0 2 85, 0, 0))) (e_T 85 (e_L 85 (2, e_nof, 144, 1)) (e_L 88 (0, ei_load 0 2 89, 0, 0)))))) (e_T 104 (e_T 94 (e_T 92 (e_T 89 (e_L 89 (0, ei_getf eft elay 8 3 92, 0, 0)) (e_L 92 (0, ei_load 1 0 93, 0, 0))) (e_T 93 (e_L 93 (0, ei_load 0 2 94, 0, 0)) (e_L 94 (0, ei_getf eft elay 8 3 97, 0, 0)))) (e_T 100 (e_T 97 (e_L 97 (0, ei_getf eft elay 1 0 100, 0, 0)) (e_L 100 (2, e_nof, 22, 3))) (e_T 103 (e_L 103 (0, ei_load 0 2 104, 0, 0)) (e_L 104 (0, ei_push (0, 23) 106, 0, 0))))) (e_T 111 (e_T 109 (e_T 106 (e_L 106 (2, e_nof, 129, 2)) (e_L 109 (0, ei_load 0 2 110, 0, 0))) (e_T 110 (e_L 110 (0, ei_stk ef_dup 111, 0, 0)) (e_L 111 (0, ei_getf eft elay 8 11 114, 0, 0)))) (e_T 115 (e_T 114 (e_L 114 (0, ei_push (0, 1) 115, 0, 0)) (e_L 115 (0, ei_bin eF_sub 116, 0, 0))) (e_T 116 (e_L 116 (0, ei_putf eft elay 8 11 0 119, 0, 0)) (e_L 119 (1, e_nof, 0, 0)))))))
set_option maxRecDepth 20000 in
set_option maxHeartbeats 4000000 in
theorem te_154_31_ok : ∀ pc, e_EOq eft cls elay eI n_154 pc (te_154_31 pc) :=
  (e_Tok2
  (e_Tok2
  (e_Tok2
  (e_Tok2
  (e_Lok (ps_iconst_0 (x_dk dn_154_0_1_ok 6 rfl)))
  (e_Tok2
  (e_Lok (lk_8_198 ho_154 (x_dk dn_154_0_1_ok 7 rfl)))
  (e_Lok (e_st (I := eI) (er_istore_n (i := 2) (x_dk dn_154_0_1_ok 8 rfl) (by decide +kernel)) nx_stor))))
  (e_Tok2
  (e_Tok2
  (e_Lok (ld_aload_n_0 (x_dk dn_154_0_1_ok 9 rfl)))
  (e_Lok (lk_8_21g ho_154 (x_dk dn_154_0_1_ok 10 rfl))))
  (e_Tok2
  (e_Lok (ld_iload_n_1 (x_dk dn_154_0_1_ok 11 rfl)))
  (e_Lok (ld_aload_n_0 (x_dk dn_154_0_1_ok 12 rfl))))))
  (e_Tok2
  (e_Tok2
  (e_Tok2
  (e_Lok (lk_8_21g ho_154 (x_dk dn_154_0_1_ok 13 rfl)))
  (e_Lok (lk_8_164g ho_154 (x_dk dn_154_0_1_ok 14 rfl))))
  (e_Tok2
  (e_Lok (lk_8_174 ho_154 (x_dk dn_154_0_1_ok 15 rfl)))
  (e_Lok (ld_iload_n_2 (x_dk dn_154_0_1_ok 16 rfl)))))
  (e_Tok2
  (e_Tok2
  (e_Lok (e_st (I := eI) (er_istore_n (i := 1) (x_dk dn_154_0_1_ok 17 rfl) (by decide +kernel)) nx_stor))
  (e_Lok (ld_aload_n_0 (x_dk dn_154_0_1_ok 18 rfl))))
  (e_Tok2
  (e_Lok (lk_8_195 ho_154 (x_dk dn_154_0_1_ok 19 rfl)))
  (e_Lok (ld_aload_n_0 (x_dk dn_154_0_1_ok 20 rfl)))))))
  (e_Tok2
  (e_Tok2
  (e_Tok2
  (e_Tok2
  (e_Lok (lk_8_21g ho_154 (x_dk dn_154_0_1_ok 21 rfl)))
  (e_Lok (ld_iload_n_1 (x_dk dn_154_0_1_ok 22 rfl))))
  (e_Tok2
  (e_Lok (ld_aload_n_0 (x_dk dn_154_0_1_ok 23 rfl)))
  (e_Lok (lk_8_21g ho_154 (x_dk dn_154_0_1_ok 24 rfl)))))
  (e_Tok2
  (e_Tok2
  (e_Lok (lk_8_164g ho_154 (x_dk dn_154_0_2_ok 0 rfl)))
  (e_Lok (lk_8_174 ho_154 (x_dk dn_154_0_2_ok 1 rfl))))
  (e_Tok2
  (e_Lok (ld_aload_n_0 (x_dk dn_154_0_2_ok 2 rfl)))
  (e_Lok (ps_bipush_23 (x_dk dn_154_0_2_ok 3 rfl))))))
  (e_Tok2
  (e_Tok2
  (e_Tok2
  (e_Lok (lk_8_180 ho_154 (x_dk dn_154_0_2_ok 4 rfl)))
  (e_Lok (ld_aload_n_0 (x_dk dn_154_0_2_ok 5 rfl))))
  (e_Tok2
  (e_Lok (e_st (I := eI) (er_dup (x_dk dn_154_0_2_ok 6 rfl)) (nx_stk bf_dup)))
  (e_Lok (lk_8_42g ho_154 (x_dk dn_154_0_2_ok 7 rfl)))))
  (e_Tok2
  (e_Tok2
  (e_Lok (ps_iconst_1 (x_dk dn_154_0_2_ok 8 rfl)))
  (e_Lok (sm_isub (x_dk dn_154_0_2_ok 9 rfl))))
  (e_Tok2
  (e_Lok (lk_8_42p ho_154 (x_dk dn_154_0_2_ok 10 rfl)))
  (e_Lok (e_rt (I := eI) (k := 0) ⟨(x_dk dn_154_0_2_ok 11 rfl), rfl⟩)))))))
def te_154 : Nat → eE := (e_T 60 te_154_0 te_154_31)
theorem te_154_ok : ∀ pc, e_EOq eft cls elay eI n_154 pc (te_154 pc) := (e_Tok2 (te_154_0_ok) (te_154_31_ok))
theorem ho_155 : (xm_y n_155).cls = "RobotCellHouse$Reader" := rfl
def dn_155_0_0 : List (Nat × Instr × Nat) := [(0, .aload_n 0, 1), (1, .invokevirtual 251, 3), (4, .ifCond .ne 4, 3), (7, .return_, 1), (8, .aload_n 0, 1), (9, .getfield 192, 3), (12, .istore_n 1, 1), (13, .aload_n 0, 1), (14, .aload_n 0, 1), (15, .getfield 21, 3), (18, .bipush 45, 2), (20, .aload_n 0, 1), (21, .getfield 189, 3), (24, .invokevirtual 198, 3), (27, .putfield 192, 3), (30, .aload_n 0, 1), (31, .getfield 192, 3), (34, .istore_n 2, 1), (35, .aload_n 0, 1), (36, .getfield 21, 3), (39, .bipush 49, 2), (41, .iconst 0, 1), (42, .invokevirtual 198, 3), (45, .pop, 1), (46, .aload_n 0, 1)]
set_option maxRecDepth 20000 in
theorem dn_155_0_0_ok : dn_155_0_0.all (fun q => decide (decode (xm_b n_155) q.1 = .ok (q.2.1, q.2.2))) = true := xa_g_ok (by decide +kernel)
def dn_155_0_1 : List (Nat × Instr × Nat) := [(47, .getfield 21, 3), (50, .bipush 50, 2), (52, .iconst 0, 1), (53, .invokevirtual 198, 3), (56, .istore_n 3, 1), (57, .aload_n 0, 1), (58, .invokevirtual 54, 3), (61, .aload_n 0, 1), (62, .invokevirtual 245, 3), (65, .aload_n 0, 1), (66, .bipush 20, 2), (68, .invokevirtual 180, 3), (71, .aload_n 0, 1), (72, .getfield 21, 3), (75, .bipush 41, 2), (77, .iconst 0, 1), (78, .invokevirtual 198, 3), (81, .istore 4, 2), (83, .aload_n 0, 1), (84, .invokevirtual 195, 3), (87, .aload_n 0, 1), (88, .bipush 23, 2), (90, .invokevirtual 180, 3), (93, .aload_n 0, 1), (94, .getfield 21, 3)]
set_option maxRecDepth 20000 in
theorem dn_155_0_1_ok : dn_155_0_1.all (fun q => decide (decode (xm_b n_155) q.1 = .ok (q.2.1, q.2.2))) = true := xa_g_ok (by decide +kernel)
def dn_155_0_2 : List (Nat × Instr × Nat) := [(97, .bipush 40, 2), (99, .iload_n 3, 1), (100, .invokevirtual 198, 3), (103, .pop, 1), (104, .aload_n 0, 1), (105, .getfield 21, 3), (108, .iload 4, 2), (110, .aload_n 0, 1), (111, .getfield 21, 3), (114, .getfield 164, 3), (117, .invokevirtual 174, 3), (120, .aload_n 0, 1), (121, .getfield 21, 3), (124, .iload_n 2, 1), (125, .iconst 1, 1), (126, .iadd, 1), (127, .aload_n 0, 1), (128, .getfield 21, 3), (131, .getfield 164, 3), (134, .invokevirtual 174, 3), (137, .aload_n 0, 1), (138, .iload_n 1, 1), (139, .putfield 192, 3), (142, .aload_n 0, 1), (143, .dup, 1)]
set_option maxRecDepth 20000 in
theorem dn_155_0_2_ok : dn_155_0_2.all (fun q => decide (decode (xm_b n_155) q.1 = .ok (q.2.1, q.2.2))) = true := xa_g_ok (by decide +kernel)
def dn_155_0_3 : List (Nat × Instr × Nat) := [(144, .getfield 42, 3), (147, .iconst 1, 1), (148, .isub, 1), (149, .putfield 42, 3), (152, .return_, 1)]
set_option maxRecDepth 20000 in
theorem dn_155_0_3_ok : dn_155_0_3.all (fun q => decide (decode (xm_b n_155) q.1 = .ok (q.2.1, q.2.2))) = true := xa_g_ok (by decide +kernel)
def te_155_0 : Nat → eE := (e_T 36 (e_T 15 (e_T 8 (e_T 1 (e_T 0 (e_L 0 (0, ei_load 0 2 1, 0, 0)) (e_L 1 (2, e_nof, 132, 1))) (e_T 4 (e_L 4 (0, ei_if1 1 8 7, 0, 0)) (e_T 7 (e_L 7 (1, e_nof, 0, 0)) (e_L 8 (0, ei_load 0 2 9, 0, 0))))) (e_T 12 (e_T 9 (e_L 9 (0, ei_getf eft elay 8 13 12, 0, 0)) (e_L 12 (0, ei_stor 1 0 13, 0, 0))) (e_T 13 (e_L 13 (0, ei_load 0 2 14, 0, 0)) (e_T 14 (e_L 14 (0, ei_load 0 2 15, 0, 0)) (e_L 15 (0, ei_getf eft elay 8 3 18, 0, 0)))))) (e_T 27 (e_T 20 (e_T 18 (e_L 18 (0, ei_push (0, 45) 20, 0, 0)) (e_L 20 (0, ei_load 0 2 21, 0, 0))) (e_T 21 (e_L 21 (0, ei_getf eft elay 8 12 24, 0, 0)) (e_T 24 (e_L 24 (2, e_nof, 21, 3)) (e_L 27 (0, ei_putf eft elay 8 13 0 30, 0, 0))))) (e_T 31 (e_T 30 (e_L 30 (0, ei_load 0 2 31, 0, 0)) (e_L 31 (0, ei_getf eft elay 8 13 34, 0, 0))) (e_T 34 (e_L 34 (0, ei_stor 2 0 35, 0, 0)) (e_T 35 (e_L 35 (0, ei_load 0 2 36, 0, 0)) (e_L 36 (0, ei_getf eft elay 8 3 39, 0, 0))))))) (e_T 56 (e_T 46 (e_T 41 (e_T 39 (e_L 39 (0, ei_push (0, 49) 41, 0, 0)) (e_L 41 (0, ei_push (0, 0) 42, 0, 0))) (e_T 42 (e_L 42 (2, e_nof, 21, 3)) (e_T 45 (e_L 45 (0, ei_stk ef_pop 46, 0, 0)) (e_L 46 (0, ei_load 0 2 47, 0, 0))))) (e_T 50 (e_T 47 (e_L 47 (0, ei_getf eft elay 8 3 50, 0, 0)) (e_L 50 (0, ei_push (0, 50) 52, 0, 0))) (e_T 52 (e_L 52 (0, ei_push (0, 0) 53, 0, 0)) (e_T 53 (e_L 53 (2, e_nof, 21, 3)) (e_L 56 (0, ei_stor 3 0 57, 0, 0)))))) (e_T 65 (e_T 58 (e_T 57 (e_L 57 (0, ei_load 0 2 58, 0, 0)) (e_L 58 (2, e_nof, 123, 1))) (e_T 61 (e_L 61 (0, ei_load 0 2 62, 0, 0)) (e_T 62 (e_L 62 (2, e_nof, 158, 1)) (e_L 65 (0, ei_load 0 2 66, 0, 0))))) (e_T 68 (e_T 66 (e_L 66 (0, ei_push (0, 20) 68, 0, 0)) (e_L 68 (2, e_nof, 129, 2))) (e_T 71 (e_L 71 (0, ei_load 0 2 72, 0, 0)) (e_T 72 (e_L 72 (0, ei_getf eft elay 8 3 75, 0, 0)) (e_L 75 (0, ei_push (0, 41) 77, 0, 0))))))))
set_option maxRecDepth 20000 in
set_option maxHeartbeats 4000000 in
theorem te_155_0_ok : ∀ pc, e_EOq eft cls elay eI n_155 pc (te_155_0 pc) :=
  (e_Tok2
  (e_Tok2
  (e_Tok2
  (e_Tok2
  (e_Tok2
  (e_Lok (ld_aload_n_0 (x_dk dn_155_0_0_ok 0 rfl)))
  (e_Lok (lk_8_251 ho_155 (x_dk dn_155_0_0_ok 1 rfl))))
  (e_Tok2
  (e_Lok (e_st (I := eI) (er_ifne (off := 4) (tg := 8) (x_dk dn_155_0_0_ok 2 rfl) (by decide)) nx_if1))
  (e_Tok2
  (e_Lok (e_rt (I := eI) (k := 0) ⟨(x_dk dn_155_0_0_ok 3 rfl), rfl⟩))
  (e_Lok (ld_aload_n_0 (x_dk dn_155_0_0_ok 4 rfl))))))
  (e_Tok2
  (e_Tok2
  (e_Lok (lk_8_192g ho_155 (x_dk dn_155_0_0_ok 5 rfl)))
  (e_Lok (e_st (I := eI) (er_istore_n (i := 1) (x_dk dn_155_0_0_ok 6 rfl) (by decide +kernel)) nx_stor)))
  (e_Tok2
  (e_Lok (ld_aload_n_0 (x_dk dn_155_0_0_ok 7 rfl)))
  (e_Tok2
  (e_Lok (ld_aload_n_0 (x_dk dn_155_0_0_ok 8 rfl)))
  (e_Lok (lk_8_21g ho_155 (x_dk dn_155_0_0_ok 9 rfl)))))))
  (e_Tok2
  (e_Tok2
  (e_Tok2
  (e_Lok (ps_bipush_45 (x_dk dn_155_0_0_ok 10 rfl)))
  (e_Lok (ld_aload_n_0 (x_dk dn_155_0_0_ok 11 rfl))))
  (e_Tok2
  (e_Lok (lk_8_189g ho_155 (x_dk dn_155_0_0_ok 12 rfl)))
  (e_Tok2
  (e_Lok (lk_8_198 ho_155 (x_dk dn_155_0_0_ok 13 rfl)))
  (e_Lok (lk_8_192p ho_155 (x_dk dn_155_0_0_ok 14 rfl))))))
  (e_Tok2
  (e_Tok2
  (e_Lok (ld_aload_n_0 (x_dk dn_155_0_0_ok 15 rfl)))
  (e_Lok (lk_8_192g ho_155 (x_dk dn_155_0_0_ok 16 rfl))))
  (e_Tok2
  (e_Lok (e_st (I := eI) (er_istore_n (i := 2) (x_dk dn_155_0_0_ok 17 rfl) (by decide +kernel)) nx_stor))
  (e_Tok2
  (e_Lok (ld_aload_n_0 (x_dk dn_155_0_0_ok 18 rfl)))
  (e_Lok (lk_8_21g ho_155 (x_dk dn_155_0_0_ok 19 rfl))))))))
  (e_Tok2
  (e_Tok2
  (e_Tok2
  (e_Tok2
  (e_Lok (ps_bipush_49 (x_dk dn_155_0_0_ok 20 rfl)))
  (e_Lok (ps_iconst_0 (x_dk dn_155_0_0_ok 21 rfl))))
  (e_Tok2
  (e_Lok (lk_8_198 ho_155 (x_dk dn_155_0_0_ok 22 rfl)))
  (e_Tok2
  (e_Lok (e_st (I := eI) (er_pop (x_dk dn_155_0_0_ok 23 rfl)) (nx_stk bf_pop)))
  (e_Lok (ld_aload_n_0 (x_dk dn_155_0_0_ok 24 rfl))))))
  (e_Tok2
  (e_Tok2
  (e_Lok (lk_8_21g ho_155 (x_dk dn_155_0_1_ok 0 rfl)))
  (e_Lok (ps_bipush_50 (x_dk dn_155_0_1_ok 1 rfl))))
  (e_Tok2
  (e_Lok (ps_iconst_0 (x_dk dn_155_0_1_ok 2 rfl)))
  (e_Tok2
  (e_Lok (lk_8_198 ho_155 (x_dk dn_155_0_1_ok 3 rfl)))
  (e_Lok (e_st (I := eI) (er_istore_n (i := 3) (x_dk dn_155_0_1_ok 4 rfl) (by decide +kernel)) nx_stor))))))
  (e_Tok2
  (e_Tok2
  (e_Tok2
  (e_Lok (ld_aload_n_0 (x_dk dn_155_0_1_ok 5 rfl)))
  (e_Lok (lk_8_54 ho_155 (x_dk dn_155_0_1_ok 6 rfl))))
  (e_Tok2
  (e_Lok (ld_aload_n_0 (x_dk dn_155_0_1_ok 7 rfl)))
  (e_Tok2
  (e_Lok (lk_8_245 ho_155 (x_dk dn_155_0_1_ok 8 rfl)))
  (e_Lok (ld_aload_n_0 (x_dk dn_155_0_1_ok 9 rfl))))))
  (e_Tok2
  (e_Tok2
  (e_Lok (ps_bipush_20 (x_dk dn_155_0_1_ok 10 rfl)))
  (e_Lok (lk_8_180 ho_155 (x_dk dn_155_0_1_ok 11 rfl))))
  (e_Tok2
  (e_Lok (ld_aload_n_0 (x_dk dn_155_0_1_ok 12 rfl)))
  (e_Tok2
  (e_Lok (lk_8_21g ho_155 (x_dk dn_155_0_1_ok 13 rfl)))
  (e_Lok (ps_bipush_41 (x_dk dn_155_0_1_ok 14 rfl)))))))))
def te_155_40 : Nat → eE := (e_T 114 (e_T 94 (e_T 84 (e_T 78 (e_T 77 (e_L 77 (0, ei_push (0, 0) 78, 0, 0)) (e_L 78 (2, e_nof, 21, 3))) (e_T 81 (e_L 81 (0, ei_stor 4 0 83, 0, 0)) (e_T 83 (e_L 83 (0, ei_load 0 2 84, 0, 0)) (e_L 84 (2, e_nof, 144, 1))))) (e_T 88 (e_T 87 (e_L 87 (0, ei_load 0 2 88, 0, 0)) (e_L 88 (0, ei_push (0, 23) 90, 0, 0))) (e_T 90 (e_L 90 (2, e_nof, 129, 2)) (e_T 93 (e_L 93 (0, ei_load 0 2 94, 0, 0)) (e_L 94 (0, ei_getf eft elay 8 3 97, 0, 0)))))) (e_T 104 (e_T 99 (e_T 97 (e_L 97 (0, ei_push (0, 40) 99, 0, 0)) (e_L 99 (0, ei_load 3 0 100, 0, 0))) (e_T 100 (e_L 100 (2, e_nof, 21, 3)) (e_T 103 (e_L 103 (0, ei_stk ef_pop 104, 0, 0)) (e_L 104 (0, ei_load 0 2 105, 0, 0))))) (e_T 108 (e_T 105 (e_L 105 (0, ei_getf eft elay 8 3 108, 0, 0)) (e_L 108 (0, ei_load 4 0 110, 0, 0))) (e_T 110 (e_L 110 (0, ei_load 0 2 111, 0, 0)) (e_T 111 (e_L 111 (0, ei_getf eft elay 8 3 114, 0, 0)) (e_L 114 (0, ei_getf eft elay 1 0 117, 0, 0))))))) (e_T 134 (e_T 125 (e_T 120 (e_T 117 (e_L 117 (2, e_nof, 22, 3)) (e_L 120 (0, ei_load 0 2 121, 0, 0))) (e_T 121 (e_L 121 (0, ei_getf eft elay 8 3 124, 0, 0)) (e_T 124 (e_L 124 (0, ei_load 2 0 125, 0, 0)) (e_L 125 (0, ei_push (0, 1) 126, 0, 0))))) (e_T 127 (e_T 126 (e_L 126 (0, ei_bin eF_add 127, 0, 0)) (e_L 127 (0, ei_load 0 2 128, 0, 0))) (e_T 128 (e_L 128 (0, ei_getf eft elay 8 3 131, 0, 0)) (e_T 131 (e_L 131 (0, ei_getf eft elay 1 0 134, 0, 0)) (e_L 134 (2, e_nof, 22, 3)))))) (e_T 143 (e_T 138 (e_T 137 (e_L 137 (0, ei_load 0 2 138, 0, 0)) (e_L 138 (0, ei_load 1 0 139, 0, 0))) (e_T 139 (e_L 139 (0, ei_putf eft elay 8 13 0 142, 0, 0)) (e_T 142 (e_L 142 (0, ei_load 0 2 143, 0, 0)) (e_L 143 (0, ei_stk ef_dup 144, 0, 0))))) (e_T 147 (e_T 144 (e_L 144 (0, ei_getf eft elay 8 11 147, 0, 0)) (e_L 147 (0, ei_push (0, 1) 148, 0, 0))) (e_T 148 (e_L 148 (0, ei_bin eF_sub 149, 0, 0)) (e_T 149 (e_L 149 (0, ei_putf eft elay 8 11 0 152, 0, 0)) (e_L 152 (1, e_nof, 0, 0))))))))
set_option maxRecDepth 20000 in
set_option maxHeartbeats 4000000 in
theorem te_155_40_ok : ∀ pc, e_EOq eft cls elay eI n_155 pc (te_155_40 pc) :=
  (e_Tok2
  (e_Tok2
  (e_Tok2
  (e_Tok2
  (e_Tok2
  (e_Lok (ps_iconst_0 (x_dk dn_155_0_1_ok 15 rfl)))
  (e_Lok (lk_8_198 ho_155 (x_dk dn_155_0_1_ok 16 rfl))))
  (e_Tok2
  (e_Lok (e_st (I := eI) (er_istore (i := 4) (x_dk dn_155_0_1_ok 17 rfl) (by decide +kernel)) nx_stor))
  (e_Tok2
  (e_Lok (ld_aload_n_0 (x_dk dn_155_0_1_ok 18 rfl)))
  (e_Lok (lk_8_195 ho_155 (x_dk dn_155_0_1_ok 19 rfl))))))
  (e_Tok2
  (e_Tok2
  (e_Lok (ld_aload_n_0 (x_dk dn_155_0_1_ok 20 rfl)))
  (e_Lok (ps_bipush_23 (x_dk dn_155_0_1_ok 21 rfl))))
  (e_Tok2
  (e_Lok (lk_8_180 ho_155 (x_dk dn_155_0_1_ok 22 rfl)))
  (e_Tok2
  (e_Lok (ld_aload_n_0 (x_dk dn_155_0_1_ok 23 rfl)))
  (e_Lok (lk_8_21g ho_155 (x_dk dn_155_0_1_ok 24 rfl)))))))
  (e_Tok2
  (e_Tok2
  (e_Tok2
  (e_Lok (ps_bipush_40 (x_dk dn_155_0_2_ok 0 rfl)))
  (e_Lok (ld_iload_n_3 (x_dk dn_155_0_2_ok 1 rfl))))
  (e_Tok2
  (e_Lok (lk_8_198 ho_155 (x_dk dn_155_0_2_ok 2 rfl)))
  (e_Tok2
  (e_Lok (e_st (I := eI) (er_pop (x_dk dn_155_0_2_ok 3 rfl)) (nx_stk bf_pop)))
  (e_Lok (ld_aload_n_0 (x_dk dn_155_0_2_ok 4 rfl))))))
  (e_Tok2
  (e_Tok2
  (e_Lok (lk_8_21g ho_155 (x_dk dn_155_0_2_ok 5 rfl)))
  (e_Lok (ld_iload_4 (x_dk dn_155_0_2_ok 6 rfl))))
  (e_Tok2
  (e_Lok (ld_aload_n_0 (x_dk dn_155_0_2_ok 7 rfl)))
  (e_Tok2
  (e_Lok (lk_8_21g ho_155 (x_dk dn_155_0_2_ok 8 rfl)))
  (e_Lok (lk_8_164g ho_155 (x_dk dn_155_0_2_ok 9 rfl))))))))
  (e_Tok2
  (e_Tok2
  (e_Tok2
  (e_Tok2
  (e_Lok (lk_8_174 ho_155 (x_dk dn_155_0_2_ok 10 rfl)))
  (e_Lok (ld_aload_n_0 (x_dk dn_155_0_2_ok 11 rfl))))
  (e_Tok2
  (e_Lok (lk_8_21g ho_155 (x_dk dn_155_0_2_ok 12 rfl)))
  (e_Tok2
  (e_Lok (ld_iload_n_2 (x_dk dn_155_0_2_ok 13 rfl)))
  (e_Lok (ps_iconst_1 (x_dk dn_155_0_2_ok 14 rfl))))))
  (e_Tok2
  (e_Tok2
  (e_Lok (sm_iadd (x_dk dn_155_0_2_ok 15 rfl)))
  (e_Lok (ld_aload_n_0 (x_dk dn_155_0_2_ok 16 rfl))))
  (e_Tok2
  (e_Lok (lk_8_21g ho_155 (x_dk dn_155_0_2_ok 17 rfl)))
  (e_Tok2
  (e_Lok (lk_8_164g ho_155 (x_dk dn_155_0_2_ok 18 rfl)))
  (e_Lok (lk_8_174 ho_155 (x_dk dn_155_0_2_ok 19 rfl)))))))
  (e_Tok2
  (e_Tok2
  (e_Tok2
  (e_Lok (ld_aload_n_0 (x_dk dn_155_0_2_ok 20 rfl)))
  (e_Lok (ld_iload_n_1 (x_dk dn_155_0_2_ok 21 rfl))))
  (e_Tok2
  (e_Lok (lk_8_192p ho_155 (x_dk dn_155_0_2_ok 22 rfl)))
  (e_Tok2
  (e_Lok (ld_aload_n_0 (x_dk dn_155_0_2_ok 23 rfl)))
  (e_Lok (e_st (I := eI) (er_dup (x_dk dn_155_0_2_ok 24 rfl)) (nx_stk bf_dup))))))
  (e_Tok2
  (e_Tok2
  (e_Lok (lk_8_42g ho_155 (x_dk dn_155_0_3_ok 0 rfl)))
  (e_Lok (ps_iconst_1 (x_dk dn_155_0_3_ok 1 rfl))))
  (e_Tok2
  (e_Lok (sm_isub (x_dk dn_155_0_3_ok 2 rfl)))
  (e_Tok2
  (e_Lok (lk_8_42p ho_155 (x_dk dn_155_0_3_ok 3 rfl)))
  (e_Lok (e_rt (I := eI) (k := 0) ⟨(x_dk dn_155_0_3_ok 4 rfl), rfl⟩))))))))
def te_155 : Nat → eE := (e_T 75 te_155_0 te_155_40)
theorem te_155_ok : ∀ pc, e_EOq eft cls elay eI n_155 pc (te_155 pc) := (e_Tok2 (te_155_0_ok) (te_155_40_ok))
theorem ho_156 : (xm_y n_156).cls = "RobotCellHouse$Reader" := rfl
def dn_156_0_0 : List (Nat × Instr × Nat) := [(0, .aload_n 0, 1), (1, .invokevirtual 251, 3), (4, .ifCond .ne 4, 3), (7, .return_, 1), (8, .aload_n 0, 1), (9, .invokevirtual 54, 3), (12, .aload_n 0, 1), (13, .bipush 20, 2), (15, .invokevirtual 180, 3), (18, .aload_n 0, 1), (19, .getfield 21, 3), (22, .bipush 46, 2), (24, .iconst 0, 1), (25, .invokevirtual 198, 3), (28, .istore_n 1, 1), (29, .aload_n 0, 1), (30, .getfield 21, 3), (33, .bipush 49, 2), (35, .iconst 0, 1), (36, .invokevirtual 198, 3), (39, .pop, 1), (40, .aload_n 0, 1), (41, .getfield 21, 3), (44, .bipush 49, 2), (46, .iconst 0, 1)]
set_option maxRecDepth 20000 in
theorem dn_156_0_0_ok : dn_156_0_0.all (fun q => decide (decode (xm_b n_156) q.1 = .ok (q.2.1, q.2.2))) = true := xa_g_ok (by decide +kernel)
def dn_156_0_1 : List (Nat × Instr × Nat) := [(47, .invokevirtual 198, 3), (50, .pop, 1), (51, .aload_n 0, 1), (52, .getfield 21, 3), (55, .bipush 49, 2), (57, .iconst 0, 1), (58, .invokevirtual 198, 3), (61, .pop, 1), (62, .aload_n 0, 1), (63, .dup, 1), (64, .getfield 189, 3), (67, .iconst 1, 1), (68, .iadd, 1), (69, .putfield 189, 3), (72, .aload_n 0, 1), (73, .invokevirtual 195, 3), (76, .aload_n 0, 1), (77, .getfield 21, 3), (80, .bipush 47, 2), (82, .iconst 0, 1), (83, .invokevirtual 198, 3), (86, .pop, 1), (87, .aload_n 0, 1), (88, .getfield 57, 3), (91, .bipush 43, 2)]
set_option maxRecDepth 20000 in
theorem dn_156_0_1_ok : dn_156_0_1.all (fun q => decide (decode (xm_b n_156) q.1 = .ok (q.2.1, q.2.2))) = true := xa_g_ok (by decide +kernel)
def dn_156_0_2 : List (Nat × Instr × Nat) := [(93, .if_icmp .ne 26, 3), (96, .aload_n 0, 1), (97, .getfield 21, 3), (100, .iload_n 1, 1), (101, .iconst 1, 1), (102, .iadd, 1), (103, .aload_n 0, 1), (104, .getfield 21, 3), (107, .getfield 164, 3), (110, .invokevirtual 174, 3), (113, .aload_n 0, 1), (114, .bipush 47, 2), (116, .invokevirtual 254, 3), (119, .aload_n 0, 1), (120, .getfield 57, 3), (123, .bipush 44, 2), (125, .if_icmp .ne 26, 3), (128, .aload_n 0, 1), (129, .getfield 21, 3), (132, .iload_n 1, 1), (133, .iconst 2, 1), (134, .iadd, 1), (135, .aload_n 0, 1), (136, .getfield 21, 3), (139, .getfield 164, 3)]
set_option maxRecDepth 20000 in
theorem dn_156_0_2_ok : dn_156_0_2.all (fun q => decide (decode (xm_b n_156) q.1 = .ok (q.2.1, q.2.2))) = true := xa_g_ok (by decide +kernel)
def dn_156_0_3 : List (Nat × Instr × Nat) := [(142, .invokevirtual 174, 3), (145, .aload_n 0, 1), (146, .bipush 48, 2), (148, .invokevirtual 254, 3), (151, .aload_n 0, 1), (152, .dup, 1), (153, .getfield 189, 3), (156, .iconst 1, 1), (157, .isub, 1), (158, .putfield 189, 3), (161, .aload_n 0, 1), (162, .getfield 21, 3), (165, .iload_n 1, 1), (166, .iconst 3, 1), (167, .iadd, 1), (168, .aload_n 0, 1), (169, .getfield 21, 3), (172, .getfield 164, 3), (175, .invokevirtual 174, 3), (178, .aload_n 0, 1), (179, .bipush 23, 2), (181, .invokevirtual 180, 3), (184, .aload_n 0, 1), (185, .dup, 1), (186, .getfield 42, 3)]
set_option maxRecDepth 20000 in
theorem dn_156_0_3_ok : dn_156_0_3.all (fun q => decide (decode (xm_b n_156) q.1 = .ok (q.2.1, q.2.2))) = true := xa_g_ok (by decide +kernel)
def dn_156_1_0 : List (Nat × Instr × Nat) := [(189, .iconst 1, 1), (190, .isub, 1), (191, .putfield 42, 3), (194, .return_, 1)]
set_option maxRecDepth 20000 in
theorem dn_156_1_0_ok : dn_156_1_0.all (fun q => decide (decode (xm_b n_156) q.1 = .ok (q.2.1, q.2.2))) = true := xa_g_ok (by decide +kernel)
def te_156_0 : Nat → eE := (e_T 24 (e_T 9 (e_T 4 (e_T 0 (e_L 0 (0, ei_load 0 2 1, 0, 0)) (e_T 1 (e_L 1 (2, e_nof, 132, 1)) (e_L 4 (0, ei_if1 1 8 7, 0, 0)))) (e_T 7 (e_L 7 (1, e_nof, 0, 0)) (e_T 8 (e_L 8 (0, ei_load 0 2 9, 0, 0)) (e_L 9 (2, e_nof, 123, 1))))) (e_T 15 (e_T 12 (e_L 12 (0, ei_load 0 2 13, 0, 0)) (e_T 13 (e_L 13 (0, ei_push (0, 20) 15, 0, 0)) (e_L 15 (2, e_nof, 129, 2)))) (e_T 19 (e_T 18 (e_L 18 (0, ei_load 0 2 19, 0, 0)) (e_L 19 (0, ei_getf eft elay 8 3 22, 0, 0))) (e_T 22 (e_L 22 (0, ei_push (0, 46) 24, 0, 0)) (e_L 24 (0, ei_push (0, 0) 25, 0, 0)))))) (e_T 35 (e_T 29 (e_T 25 (e_L 25 (2, e_nof, 21, 3)) (e_T 28 (e_L 28 (0, ei_stor 1 0 29, 0, 0)) (e_L 29 (0, ei_load 0 2 30, 0, 0)))) (e_T 30 (e_L 30 (0, ei_getf eft elay 8 3 33, 0, 0)) (e_T 33 (e_L 33 (0, ei_push (0, 49) 35, 0, 0)) (e_L 35 (0, ei_push (0, 0) 36, 0, 0))))) (e_T 40 (e_T 36 (e_L 36 (2, e_nof, 21, 3)) (e_T 39 (e_L 39 (0, ei_stk ef_pop 40, 0, 0)) (e_L 40 (0, ei_load 0 2 41, 0, 0)))) (e_T 44 (e_T 41 (e_L 41 (0, ei_getf eft elay 8 3 44, 0, 0)) (e_L 44 (0, ei_push (0, 49) 46, 0, 0))) (e_T 46 (e_L 46 (0, ei_push (0, 0) 47, 0, 0)) (e_L 47 (2, e_nof, 21, 3)))))))
set_option maxRecDepth 20000 in
set_option maxHeartbeats 4000000 in
theorem te_156_0_ok : ∀ pc, e_EOq eft cls elay eI n_156 pc (te_156_0 pc) :=
  (e_Tok2
  (e_Tok2
  (e_Tok2
  (e_Tok2
  (e_Lok (ld_aload_n_0 (x_dk dn_156_0_0_ok 0 rfl)))
  (e_Tok2
  (e_Lok (lk_8_251 ho_156 (x_dk dn_156_0_0_ok 1 rfl)))
  (e_Lok (e_st (I := eI) (er_ifne (off := 4) (tg := 8) (x_dk dn_156_0_0_ok 2 rfl) (by decide)) nx_if1))))
  (e_Tok2
  (e_Lok (e_rt (I := eI) (k := 0) ⟨(x_dk dn_156_0_0_ok 3 rfl), rfl⟩))
  (e_Tok2
  (e_Lok (ld_aload_n_0 (x_dk dn_156_0_0_ok 4 rfl)))
  (e_Lok (lk_8_54 ho_156 (x_dk dn_156_0_0_ok 5 rfl))))))
  (e_Tok2
  (e_Tok2
  (e_Lok (ld_aload_n_0 (x_dk dn_156_0_0_ok 6 rfl)))
  (e_Tok2
  (e_Lok (ps_bipush_20 (x_dk dn_156_0_0_ok 7 rfl)))
  (e_Lok (lk_8_180 ho_156 (x_dk dn_156_0_0_ok 8 rfl)))))
  (e_Tok2
  (e_Tok2
  (e_Lok (ld_aload_n_0 (x_dk dn_156_0_0_ok 9 rfl)))
  (e_Lok (lk_8_21g ho_156 (x_dk dn_156_0_0_ok 10 rfl))))
  (e_Tok2
  (e_Lok (ps_bipush_46 (x_dk dn_156_0_0_ok 11 rfl)))
  (e_Lok (ps_iconst_0 (x_dk dn_156_0_0_ok 12 rfl)))))))
  (e_Tok2
  (e_Tok2
  (e_Tok2
  (e_Lok (lk_8_198 ho_156 (x_dk dn_156_0_0_ok 13 rfl)))
  (e_Tok2
  (e_Lok (e_st (I := eI) (er_istore_n (i := 1) (x_dk dn_156_0_0_ok 14 rfl) (by decide +kernel)) nx_stor))
  (e_Lok (ld_aload_n_0 (x_dk dn_156_0_0_ok 15 rfl)))))
  (e_Tok2
  (e_Lok (lk_8_21g ho_156 (x_dk dn_156_0_0_ok 16 rfl)))
  (e_Tok2
  (e_Lok (ps_bipush_49 (x_dk dn_156_0_0_ok 17 rfl)))
  (e_Lok (ps_iconst_0 (x_dk dn_156_0_0_ok 18 rfl))))))
  (e_Tok2
  (e_Tok2
  (e_Lok (lk_8_198 ho_156 (x_dk dn_156_0_0_ok 19 rfl)))
  (e_Tok2
  (e_Lok (e_st (I := eI) (er_pop (x_dk dn_156_0_0_ok 20 rfl)) (nx_stk bf_pop)))
  (e_Lok (ld_aload_n_0 (x_dk dn_156_0_0_ok 21 rfl)))))
  (e_Tok2
  (e_Tok2
  (e_Lok (lk_8_21g ho_156 (x_dk dn_156_0_0_ok 22 rfl)))
  (e_Lok (ps_bipush_49 (x_dk dn_156_0_0_ok 23 rfl))))
  (e_Tok2
  (e_Lok (ps_iconst_0 (x_dk dn_156_0_0_ok 24 rfl)))
  (e_Lok (lk_8_198 ho_156 (x_dk dn_156_0_1_ok 0 rfl))))))))
def te_156_26 : Nat → eE := (e_T 69 (e_T 58 (e_T 52 (e_T 50 (e_L 50 (0, ei_stk ef_pop 51, 0, 0)) (e_T 51 (e_L 51 (0, ei_load 0 2 52, 0, 0)) (e_L 52 (0, ei_getf eft elay 8 3 55, 0, 0)))) (e_T 55 (e_L 55 (0, ei_push (0, 49) 57, 0, 0)) (e_T 57 (e_L 57 (0, ei_push (0, 0) 58, 0, 0)) (e_L 58 (2, e_nof, 21, 3))))) (e_T 63 (e_T 61 (e_L 61 (0, ei_stk ef_pop 62, 0, 0)) (e_T 62 (e_L 62 (0, ei_load 0 2 63, 0, 0)) (e_L 63 (0, ei_stk ef_dup 64, 0, 0)))) (e_T 67 (e_T 64 (e_L 64 (0, ei_getf eft elay 8 12 67, 0, 0)) (e_L 67 (0, ei_push (0, 1) 68, 0, 0))) (e_T 68 (e_L 68 (0, ei_bin eF_add 69, 0, 0)) (e_L 69 (0, ei_putf eft elay 8 12 0 72, 0, 0)))))) (e_T 82 (e_T 76 (e_T 72 (e_L 72 (0, ei_load 0 2 73, 0, 0)) (e_T 73 (e_L 73 (2, e_nof, 144, 1)) (e_L 76 (0, ei_load 0 2 77, 0, 0)))) (e_T 77 (e_L 77 (0, ei_getf eft elay 8 3 80, 0, 0)) (e_T 80 (e_L 80 (0, ei_push (0, 47) 82, 0, 0)) (e_L 82 (0, ei_push (0, 0) 83, 0, 0))))) (e_T 87 (e_T 83 (e_L 83 (2, e_nof, 21, 3)) (e_T 86 (e_L 86 (0, ei_stk ef_pop 87, 0, 0)) (e_L 87 (0, ei_load 0 2 88, 0, 0)))) (e_T 91 (e_T 88 (e_L 88 (0, ei_getf eft elay 8 5 91, 0, 0)) (e_L 91 (0, ei_push (0, 43) 93, 0, 0))) (e_T 93 (e_L 93 (0, ei_if2 1 119 96, 0, 0)) (e_L 96 (0, ei_load 0 2 97, 0, 0)))))))
set_option maxRecDepth 20000 in
set_option maxHeartbeats 4000000 in
theorem te_156_26_ok : ∀ pc, e_EOq eft cls elay eI n_156 pc (te_156_26 pc) :=
  (e_Tok2
  (e_Tok2
  (e_Tok2
  (e_Tok2
  (e_Lok (e_st (I := eI) (er_pop (x_dk dn_156_0_1_ok 1 rfl)) (nx_stk bf_pop)))
  (e_Tok2
  (e_Lok (ld_aload_n_0 (x_dk dn_156_0_1_ok 2 rfl)))
  (e_Lok (lk_8_21g ho_156 (x_dk dn_156_0_1_ok 3 rfl)))))
  (e_Tok2
  (e_Lok (ps_bipush_49 (x_dk dn_156_0_1_ok 4 rfl)))
  (e_Tok2
  (e_Lok (ps_iconst_0 (x_dk dn_156_0_1_ok 5 rfl)))
  (e_Lok (lk_8_198 ho_156 (x_dk dn_156_0_1_ok 6 rfl))))))
  (e_Tok2
  (e_Tok2
  (e_Lok (e_st (I := eI) (er_pop (x_dk dn_156_0_1_ok 7 rfl)) (nx_stk bf_pop)))
  (e_Tok2
  (e_Lok (ld_aload_n_0 (x_dk dn_156_0_1_ok 8 rfl)))
  (e_Lok (e_st (I := eI) (er_dup (x_dk dn_156_0_1_ok 9 rfl)) (nx_stk bf_dup)))))
  (e_Tok2
  (e_Tok2
  (e_Lok (lk_8_189g ho_156 (x_dk dn_156_0_1_ok 10 rfl)))
  (e_Lok (ps_iconst_1 (x_dk dn_156_0_1_ok 11 rfl))))
  (e_Tok2
  (e_Lok (sm_iadd (x_dk dn_156_0_1_ok 12 rfl)))
  (e_Lok (lk_8_189p ho_156 (x_dk dn_156_0_1_ok 13 rfl)))))))
  (e_Tok2
  (e_Tok2
  (e_Tok2
  (e_Lok (ld_aload_n_0 (x_dk dn_156_0_1_ok 14 rfl)))
  (e_Tok2
  (e_Lok (lk_8_195 ho_156 (x_dk dn_156_0_1_ok 15 rfl)))
  (e_Lok (ld_aload_n_0 (x_dk dn_156_0_1_ok 16 rfl)))))
  (e_Tok2
  (e_Lok (lk_8_21g ho_156 (x_dk dn_156_0_1_ok 17 rfl)))
  (e_Tok2
  (e_Lok (ps_bipush_47 (x_dk dn_156_0_1_ok 18 rfl)))
  (e_Lok (ps_iconst_0 (x_dk dn_156_0_1_ok 19 rfl))))))
  (e_Tok2
  (e_Tok2
  (e_Lok (lk_8_198 ho_156 (x_dk dn_156_0_1_ok 20 rfl)))
  (e_Tok2
  (e_Lok (e_st (I := eI) (er_pop (x_dk dn_156_0_1_ok 21 rfl)) (nx_stk bf_pop)))
  (e_Lok (ld_aload_n_0 (x_dk dn_156_0_1_ok 22 rfl)))))
  (e_Tok2
  (e_Tok2
  (e_Lok (lk_8_57g ho_156 (x_dk dn_156_0_1_ok 23 rfl)))
  (e_Lok (ps_bipush_43 (x_dk dn_156_0_1_ok 24 rfl))))
  (e_Tok2
  (e_Lok (e_st (I := eI) (er_icmpne (off := 26) (tg := 119) (x_dk dn_156_0_2_ok 0 rfl) (by decide)) nx_if2))
  (e_Lok (ld_aload_n_0 (x_dk dn_156_0_2_ok 1 rfl))))))))
def te_156_52 : Nat → eE := (e_T 120 (e_T 104 (e_T 101 (e_T 97 (e_L 97 (0, ei_getf eft elay 8 3 100, 0, 0)) (e_T 100 (e_L 100 (0, ei_load 1 0 101, 0, 0)) (e_L 101 (0, ei_push (0, 1) 102, 0, 0)))) (e_T 102 (e_L 102 (0, ei_bin eF_add 103, 0, 0)) (e_T 103 (e_L 103 (0, ei_load 0 2 104, 0, 0)) (e_L 104 (0, ei_getf eft elay 8 3 107, 0, 0))))) (e_T 113 (e_T 107 (e_L 107 (0, ei_getf eft elay 1 0 110, 0, 0)) (e_T 110 (e_L 110 (2, e_nof, 22, 3)) (e_L 113 (0, ei_load 0 2 114, 0, 0)))) (e_T 116 (e_T 114 (e_L 114 (0, ei_push (0, 47) 116, 0, 0)) (e_L 116 (2, e_nof, 157, 2))) (e_T 119 (e_L 119 (0, ei_load 0 2 120, 0, 0)) (e_L 120 (0, ei_getf eft elay 8 5 123, 0, 0)))))) (e_T 133 (e_T 128 (e_T 123 (e_L 123 (0, ei_push (0, 44) 125, 0, 0)) (e_T 125 (e_L 125 (0, ei_if2 1 151 128, 0, 0)) (e_L 128 (0, ei_load 0 2 129, 0, 0)))) (e_T 129 (e_L 129 (0, ei_getf eft elay 8 3 132, 0, 0)) (e_T 132 (e_L 132 (0, ei_load 1 0 133, 0, 0)) (e_L 133 (0, ei_push (0, 2) 134, 0, 0))))) (e_T 136 (e_T 134 (e_L 134 (0, ei_bin eF_add 135, 0, 0)) (e_T 135 (e_L 135 (0, ei_load 0 2 136, 0, 0)) (e_L 136 (0, ei_getf eft elay 8 3 139, 0, 0)))) (e_T 142 (e_T 139 (e_L 139 (0, ei_getf eft elay 1 0 142, 0, 0)) (e_L 142 (2, e_nof, 22, 3))) (e_T 145 (e_L 145 (0, ei_load 0 2 146, 0, 0)) (e_L 146 (0, ei_push (0, 48) 148, 0, 0)))))))
set_option maxRecDepth 20000 in
set_option maxHeartbeats 4000000 in
theorem te_156_52_ok : ∀ pc, e_EOq eft cls elay eI n_156 pc (te_156_52 pc) :=
  (e_Tok2
  (e_Tok2
  (e_Tok2
  (e_Tok2
  (e_Lok (lk_8_21g ho_156 (x_dk dn_156_0_2_ok 2 rfl)))
  (e_Tok2
  (e_Lok (ld_iload_n_1 (x_dk dn_156_0_2_ok 3 rfl)))
  (e_Lok (ps_iconst_1 (x_dk dn_156_0_2_ok 4 rfl)))))
  (e_Tok2
  (e_Lok (sm_iadd (x_dk dn_156_0_2_ok 5 rfl)))
  (e_Tok2
  (e_Lok (ld_aload_n_0 (x_dk dn_156_0_2_ok 6 rfl)))
  (e_Lok (lk_8_21g ho_156 (x_dk dn_156_0_2_ok 7 rfl))))))
  (e_Tok2
  (e_Tok2
  (e_Lok (lk_8_164g ho_156 (x_dk dn_156_0_2_ok 8 rfl)))
  (e_Tok2
  (e_Lok (lk_8_174 ho_156 (x_dk dn_156_0_2_ok 9 rfl)))
  (e_Lok (ld_aload_n_0 (x_dk dn_156_0_2_ok 10 rfl)))))
  (e_Tok2
  (e_Tok2
  (e_Lok (ps_bipush_47 (x_dk dn_156_0_2_ok 11 rfl)))
  (e_Lok (lk_8_254 ho_156 (x_dk dn_156_0_2_ok 12 rfl))))
  (e_Tok2
  (e_Lok (ld_aload_n_0 (x_dk dn_156_0_2_ok 13 rfl)))
  (e_Lok (lk_8_57g ho_156 (x_dk dn_156_0_2_ok 14 rfl)))))))
  (e_Tok2
  (e_Tok2
  (e_Tok2
  (e_Lok (ps_bipush_44 (x_dk dn_156_0_2_ok 15 rfl)))
  (e_Tok2
  (e_Lok (e_st (I := eI) (er_icmpne (off := 26) (tg := 151) (x_dk dn_156_0_2_ok 16 rfl) (by decide)) nx_if2))
  (e_Lok (ld_aload_n_0 (x_dk dn_156_0_2_ok 17 rfl)))))
  (e_Tok2
  (e_Lok (lk_8_21g ho_156 (x_dk dn_156_0_2_ok 18 rfl)))
  (e_Tok2
  (e_Lok (ld_iload_n_1 (x_dk dn_156_0_2_ok 19 rfl)))
  (e_Lok (ps_iconst_2 (x_dk dn_156_0_2_ok 20 rfl))))))
  (e_Tok2
  (e_Tok2
  (e_Lok (sm_iadd (x_dk dn_156_0_2_ok 21 rfl)))
  (e_Tok2
  (e_Lok (ld_aload_n_0 (x_dk dn_156_0_2_ok 22 rfl)))
  (e_Lok (lk_8_21g ho_156 (x_dk dn_156_0_2_ok 23 rfl)))))
  (e_Tok2
  (e_Tok2
  (e_Lok (lk_8_164g ho_156 (x_dk dn_156_0_2_ok 24 rfl)))
  (e_Lok (lk_8_174 ho_156 (x_dk dn_156_0_3_ok 0 rfl))))
  (e_Tok2
  (e_Lok (ld_aload_n_0 (x_dk dn_156_0_3_ok 1 rfl)))
  (e_Lok (ps_bipush_48 (x_dk dn_156_0_3_ok 2 rfl))))))))
def te_156_78 : Nat → eE := (e_T 168 (e_T 157 (e_T 152 (e_T 148 (e_L 148 (2, e_nof, 157, 2)) (e_T 151 (e_L 151 (0, ei_load 0 2 152, 0, 0)) (e_L 152 (0, ei_stk ef_dup 153, 0, 0)))) (e_T 153 (e_L 153 (0, ei_getf eft elay 8 12 156, 0, 0)) (e_T 156 (e_L 156 (0, ei_push (0, 1) 157, 0, 0)) (e_L 157 (0, ei_bin eF_sub 158, 0, 0))))) (e_T 162 (e_T 158 (e_L 158 (0, ei_putf eft elay 8 12 0 161, 0, 0)) (e_T 161 (e_L 161 (0, ei_load 0 2 162, 0, 0)) (e_L 162 (0, ei_getf eft elay 8 3 165, 0, 0)))) (e_T 166 (e_T 165 (e_L 165 (0, ei_load 1 0 166, 0, 0)) (e_L 166 (0, ei_push (0, 3) 167, 0, 0))) (e_T 167 (e_L 167 (0, ei_bin eF_add 168, 0, 0)) (e_L 168 (0, ei_load 0 2 169, 0, 0)))))) (e_T 181 (e_T 175 (e_T 169 (e_L 169 (0, ei_getf eft elay 8 3 172, 0, 0)) (e_T 172 (e_L 172 (0, ei_getf eft elay 1 0 175, 0, 0)) (e_L 175 (2, e_nof, 22, 3)))) (e_T 178 (e_L 178 (0, ei_load 0 2 179, 0, 0)) (e_T 179 (e_L 179 (0, ei_push (0, 23) 181, 0, 0)) (e_L 181 (2, e_nof, 129, 2))))) (e_T 186 (e_T 184 (e_L 184 (0, ei_load 0 2 185, 0, 0)) (e_T 185 (e_L 185 (0, ei_stk ef_dup 186, 0, 0)) (e_L 186 (0, ei_getf eft elay 8 11 189, 0, 0)))) (e_T 190 (e_T 189 (e_L 189 (0, ei_push (0, 1) 190, 0, 0)) (e_L 190 (0, ei_bin eF_sub 191, 0, 0))) (e_T 191 (e_L 191 (0, ei_putf eft elay 8 11 0 194, 0, 0)) (e_L 194 (1, e_nof, 0, 0)))))))
set_option maxRecDepth 20000 in
set_option maxHeartbeats 4000000 in
theorem te_156_78_ok : ∀ pc, e_EOq eft cls elay eI n_156 pc (te_156_78 pc) :=
  (e_Tok2
  (e_Tok2
  (e_Tok2
  (e_Tok2
  (e_Lok (lk_8_254 ho_156 (x_dk dn_156_0_3_ok 3 rfl)))
  (e_Tok2
  (e_Lok (ld_aload_n_0 (x_dk dn_156_0_3_ok 4 rfl)))
  (e_Lok (e_st (I := eI) (er_dup (x_dk dn_156_0_3_ok 5 rfl)) (nx_stk bf_dup)))))
  (e_Tok2
  (e_Lok (lk_8_189g ho_156 (x_dk dn_156_0_3_ok 6 rfl)))
  (e_Tok2
  (e_Lok (ps_iconst_1 (x_dk dn_156_0_3_ok 7 rfl)))
  (e_Lok (sm_isub (x_dk dn_156_0_3_ok 8 rfl))))))
  (e_Tok2
  (e_Tok2
  (e_Lok (lk_8_189p ho_156 (x_dk dn_156_0_3_ok 9 rfl)))
  (e_Tok2
  (e_Lok (ld_aload_n_0 (x_dk dn_156_0_3_ok 10 rfl)))
  (e_Lok (lk_8_21g ho_156 (x_dk dn_156_0_3_ok 11 rfl)))))
  (e_Tok2
  (e_Tok2
  (e_Lok (ld_iload_n_1 (x_dk dn_156_0_3_ok 12 rfl)))
  (e_Lok (ps_iconst_3 (x_dk dn_156_0_3_ok 13 rfl))))
  (e_Tok2
  (e_Lok (sm_iadd (x_dk dn_156_0_3_ok 14 rfl)))
  (e_Lok (ld_aload_n_0 (x_dk dn_156_0_3_ok 15 rfl)))))))
  (e_Tok2
  (e_Tok2
  (e_Tok2
  (e_Lok (lk_8_21g ho_156 (x_dk dn_156_0_3_ok 16 rfl)))
  (e_Tok2
  (e_Lok (lk_8_164g ho_156 (x_dk dn_156_0_3_ok 17 rfl)))
  (e_Lok (lk_8_174 ho_156 (x_dk dn_156_0_3_ok 18 rfl)))))
  (e_Tok2
  (e_Lok (ld_aload_n_0 (x_dk dn_156_0_3_ok 19 rfl)))
  (e_Tok2
  (e_Lok (ps_bipush_23 (x_dk dn_156_0_3_ok 20 rfl)))
  (e_Lok (lk_8_180 ho_156 (x_dk dn_156_0_3_ok 21 rfl))))))
  (e_Tok2
  (e_Tok2
  (e_Lok (ld_aload_n_0 (x_dk dn_156_0_3_ok 22 rfl)))
  (e_Tok2
  (e_Lok (e_st (I := eI) (er_dup (x_dk dn_156_0_3_ok 23 rfl)) (nx_stk bf_dup)))
  (e_Lok (lk_8_42g ho_156 (x_dk dn_156_0_3_ok 24 rfl)))))
  (e_Tok2
  (e_Tok2
  (e_Lok (ps_iconst_1 (x_dk dn_156_1_0_ok 0 rfl)))
  (e_Lok (sm_isub (x_dk dn_156_1_0_ok 1 rfl))))
  (e_Tok2
  (e_Lok (lk_8_42p ho_156 (x_dk dn_156_1_0_ok 2 rfl)))
  (e_Lok (e_rt (I := eI) (k := 0) ⟨(x_dk dn_156_1_0_ok 3 rfl), rfl⟩)))))))
def te_156 : Nat → eE := (e_T 96 (e_T 47 te_156_0 te_156_26) (e_T 146 te_156_52 te_156_78))
theorem te_156_ok : ∀ pc, e_EOq eft cls elay eI n_156 pc (te_156 pc) := (e_Tok2 ((e_Tok2 (te_156_0_ok) (te_156_26_ok))) ((e_Tok2 (te_156_52_ok) (te_156_78_ok))))
end
