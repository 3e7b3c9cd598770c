-- part 41aa
section
noncomputable section
theorem ho_1 : (xm_y n_1).cls = "RobotCellHouse$Arm" := rfl
def dn_1_0_0 : List (Nat × Instr × Nat) := [(0, .aload_n 0, 1), (1, .iconst 0, 1), (2, .putfield 44, 3), (5, .aload_n 0, 1), (6, .getfield 17, 3), (9, .iconst 0, 1), (10, .iload_n 1, 1), (11, .iastore, 1), (12, .aload_n 0, 1), (13, .getfield 21, 3), (16, .iconst 0, 1), (17, .iload_n 2, 1), (18, .iastore, 1), (19, .aload_n 0, 1), (20, .iload_n 3, 1), (21, .putfield 48, 3), (24, .aload_n 0, 1), (25, .iload 4, 2), (27, .putfield 51, 3), (30, .aload_n 0, 1), (31, .getfield 30, 3), (34, .iconst 0, 1), (35, .invokestatic 54, 3), (38, .aload_n 0, 1), (39, .getfield 39, 3)]
set_option maxRecDepth 20000 in
theorem dn_1_0_0_ok : dn_1_0_0.all (fun q => decide (decode (xm_b n_1) q.1 = .ok (q.2.1, q.2.2))) = true := xa_g_ok (by decide +kernel)
def dn_1_0_1 : List (Nat × Instr × Nat) := [(42, .invokevirtual 60, 3), (45, .aload_n 0, 1), (46, .invokevirtual 63, 3), (49, .return_, 1)]
set_option maxRecDepth 20000 in
theorem dn_1_0_1_ok : dn_1_0_1.all (fun q => decide (decode (xm_b n_1) q.1 = .ok (q.2.1, q.2.2))) = true := xa_g_ok (by decide +kernel)
def te_1_0 : Nat → eE := (e_T 19 (e_T 10 (e_T 2 (e_T 0 (e_L 0 (0, ei_load 0 2 1, 0, 0)) (e_T 1 (e_L 1 (0, ei_push (0, 0) 2, 0, 0)) (e_L 2 (0, ei_putf eft elay 0 8 0 5, 0, 0)))) (e_T 6 (e_T 5 (e_L 5 (0, ei_load 0 2 6, 0, 0)) (e_L 6 (0, ei_getf eft elay 0 1 9, 0, 0))) (e_T 9 (e_L 9 (0, ei_push (0, 0) 10, 0, 0)) (e_L 10 (0, ei_load 1 0 11, 0, 0))))) (e_T 13 (e_T 11 (e_L 11 (0, ei_ast elay false 12, 0, 0)) (e_T 12 (e_L 12 (0, ei_load 0 2 13, 0, 0)) (e_L 13 (0, ei_getf eft elay 0 2 16, 0, 0)))) (e_T 17 (e_T 16 (e_L 16 (0, ei_push (0, 0) 17, 0, 0)) (e_L 17 (0, ei_load 2 0 18, 0, 0))) (e_T 18 (e_L 18 (0, ei_ast elay false 19, 0, 0)) (e_L 19 (0, ei_load 0 2 20, 0, 0)))))) (e_T 31 (e_T 24 (e_T 20 (e_L 20 (0, ei_load 3 0 21, 0, 0)) (e_T 21 (e_L 21 (0, ei_putf eft elay 0 9 0 24, 0, 0)) (e_L 24 (0, ei_load 0 2 25, 0, 0)))) (e_T 27 (e_T 25 (e_L 25 (0, ei_load 4 0 27, 0, 0)) (e_L 27 (0, ei_putf eft elay 0 10 0 30, 0, 0))) (e_T 30 (e_L 30 (0, ei_load 0 2 31, 0, 0)) (e_L 31 (0, ei_getf eft elay 0 5 34, 0, 0))))) (e_T 39 (e_T 35 (e_T 34 (e_L 34 (0, ei_push (0, 0) 35, 0, 0)) (e_L 35 (2, e_nof, 452, 2))) (e_T 38 (e_L 38 (0, ei_load 0 2 39, 0, 0)) (e_L 39 (0, ei_getf eft elay 0 7 42, 0, 0)))) (e_T 45 (e_T 42 (e_L 42 (2, e_nof, 20, 1)) (e_L 45 (0, ei_load 0 2 46, 0, 0))) (e_T 46 (e_L 46 (2, e_nof, 3, 1)) (e_L 49 (1, e_nof, 0, 0)))))))
set_option maxRecDepth 20000 in
set_option maxHeartbeats 4000000 in
theorem te_1_0_ok : ∀ pc, e_EOq eft cls elay eI n_1 pc (te_1_0 pc) :=
  (e_Tok2
  (e_Tok2
  (e_Tok2
  (e_Tok2
  (e_Lok (ld_aload_n_0 (x_dk dn_1_0_0_ok 0 rfl)))
  (e_Tok2
  (e_Lok (ps_iconst_0 (x_dk dn_1_0_0_ok 1 rfl)))
  (e_Lok (lk_0_44p ho_1 (x_dk dn_1_0_0_ok 2 rfl)))))
  (e_Tok2
  (e_Tok2
  (e_Lok (ld_aload_n_0 (x_dk dn_1_0_0_ok 3 rfl)))
  (e_Lok (lk_0_17g ho_1 (x_dk dn_1_0_0_ok 4 rfl))))
  (e_Tok2
  (e_Lok (ps_iconst_0 (x_dk dn_1_0_0_ok 5 rfl)))
  (e_Lok (ld_iload_n_1 (x_dk dn_1_0_0_ok 6 rfl))))))
  (e_Tok2
  (e_Tok2
  (e_Lok (sm_iastore (x_dk dn_1_0_0_ok 7 rfl)))
  (e_Tok2
  (e_Lok (ld_aload_n_0 (x_dk dn_1_0_0_ok 8 rfl)))
  (e_Lok (lk_0_21g ho_1 (x_dk dn_1_0_0_ok 9 rfl)))))
  (e_Tok2
  (e_Tok2
  (e_Lok (ps_iconst_0 (x_dk dn_1_0_0_ok 10 rfl)))
  (e_Lok (ld_iload_n_2 (x_dk dn_1_0_0_ok 11 rfl))))
  (e_Tok2
  (e_Lok (sm_iastore (x_dk dn_1_0_0_ok 12 rfl)))
  (e_Lok (ld_aload_n_0 (x_dk dn_1_0_0_ok 13 rfl)))))))
  (e_Tok2
  (e_Tok2
  (e_Tok2
  (e_Lok (ld_iload_n_3 (x_dk dn_1_0_0_ok 14 rfl)))
  (e_Tok2
  (e_Lok (lk_0_48p ho_1 (x_dk dn_1_0_0_ok 15 rfl)))
  (e_Lok (ld_aload_n_0 (x_dk dn_1_0_0_ok 16 rfl)))))
  (e_Tok2
  (e_Tok2
  (e_Lok (ld_iload_4 (x_dk dn_1_0_0_ok 17 rfl)))
  (e_Lok (lk_0_51p ho_1 (x_dk dn_1_0_0_ok 18 rfl))))
  (e_Tok2
  (e_Lok (ld_aload_n_0 (x_dk dn_1_0_0_ok 19 rfl)))
  (e_Lok (lk_0_30g ho_1 (x_dk dn_1_0_0_ok 20 rfl))))))
  (e_Tok2
  (e_Tok2
  (e_Tok2
  (e_Lok (ps_iconst_0 (x_dk dn_1_0_0_ok 21 rfl)))
  (e_Lok (lk_0_54 ho_1 (x_dk dn_1_0_0_ok 22 rfl))))
  (e_Tok2
  (e_Lok (ld_aload_n_0 (x_dk dn_1_0_0_ok 23 rfl)))
  (e_Lok (lk_0_39g ho_1 (x_dk dn_1_0_0_ok 24 rfl)))))
  (e_Tok2
  (e_Tok2
  (e_Lok (lk_0_60 ho_1 (x_dk dn_1_0_1_ok 0 rfl)))
  (e_Lok (ld_aload_n_0 (x_dk dn_1_0_1_ok 1 rfl))))
  (e_Tok2
  (e_Lok (lk_0_63 ho_1 (x_dk dn_1_0_1_ok 2 rfl)))
  (e_Lok (e_rt (I := eI) (k := 0) ⟨(x_dk dn_1_0_1_ok 3 rfl), rfl⟩)))))))
def te_1 : Nat → eE := te_1_0
theorem te_1_ok : ∀ pc, e_EOq eft cls elay eI n_1 pc (te_1 pc) := te_1_0_ok
theorem ho_2 : (xm_y n_2).cls = "RobotCellHouse$Arm" := rfl
def dn_2_0_0 : List (Nat × Instr × Nat) := [(0, .aload_n 0, 1), (1, .getfield 11, 3), (4, .aload_n 0, 1), (5, .getfield 44, 3), (8, .aaload, 1), (9, .astore 5, 2), (11, .aload 5, 2), (13, .iload_n 1, 1), (14, .putfield 66, 3), (17, .aload 5, 2), (19, .iload_n 2, 1), (20, .putfield 69, 3), (23, .aload 5, 2), (25, .iload_n 3, 1), (26, .putfield 72, 3), (29, .aload 5, 2), (31, .iload 4, 2), (33, .putfield 75, 3), (36, .aload 5, 2), (38, .iconst 0, 1), (39, .putfield 78, 3), (42, .aload 5, 2), (44, .bipush 100, 2), (46, .putfield 81, 3), (49, .aload 5, 2)]
set_option maxRecDepth 20000 in
theorem dn_2_0_0_ok : dn_2_0_0.all (fun q => decide (decode (xm_b n_2) q.1 = .ok (q.2.1, q.2.2))) = true := xa_g_ok (by decide +kernel)
def dn_2_0_1 : List (Nat × Instr × Nat) := [(51, .bipush 10, 2), (53, .putfield 84, 3), (56, .aload_n 0, 1), (57, .dup, 1), (58, .getfield 44, 3), (61, .iconst 1, 1), (62, .iadd, 1), (63, .putfield 44, 3), (66, .aload_n 0, 1), (67, .invokevirtual 87, 3), (70, .aload_n 0, 1), (71, .getfield 44, 3), (74, .iconst 1, 1), (75, .isub, 1), (76, .ireturn, 1)]
set_option maxRecDepth 20000 in
theorem dn_2_0_1_ok : dn_2_0_1.all (fun q => decide (decode (xm_b n_2) q.1 = .ok (q.2.1, q.2.2))) = true := xa_g_ok (by decide +kernel)
def te_2_0 : Nat → eE := (e_T 38 (e_T 17 (e_T 8 (e_T 1 (e_T 0 (e_L 0 (0, ei_load 0 2 1, 0, 0)) (e_L 1 (0, ei_getf eft elay 0 0 4, 0, 0))) (e_T 4 (e_L 4 (0, ei_load 0 2 5, 0, 0)) (e_T 5 (e_L 5 (0, ei_getf eft elay 0 8 8, 0, 0)) (e_L 8 (0, ei_aald elay 9, 0, 0))))) (e_T 11 (e_T 9 (e_L 9 (0, ei_stor 5 2 11, 0, 0)) (e_L 11 (0, ei_load 5 2 13, 0, 0))) (e_T 13 (e_L 13 (0, ei_load 1 0 14, 0, 0)) (e_T 14 (e_L 14 (0, ei_putf eft elay 5 0 0 17, 0, 0)) (e_L 17 (0, ei_load 5 2 19, 0, 0)))))) (e_T 26 (e_T 20 (e_T 19 (e_L 19 (0, ei_load 2 0 20, 0, 0)) (e_L 20 (0, ei_putf eft elay 5 1 0 23, 0, 0))) (e_T 23 (e_L 23 (0, ei_load 5 2 25, 0, 0)) (e_T 25 (e_L 25 (0, ei_load 3 0 26, 0, 0)) (e_L 26 (0, ei_putf eft elay 5 2 0 29, 0, 0))))) (e_T 31 (e_T 29 (e_L 29 (0, ei_load 5 2 31, 0, 0)) (e_L 31 (0, ei_load 4 0 33, 0, 0))) (e_T 33 (e_L 33 (0, ei_putf eft elay 5 3 0 36, 0, 0)) (e_T 36 (e_L 36 (0, ei_load 5 2 38, 0, 0)) (e_L 38 (0, ei_push (0, 0) 39, 0, 0))))))) (e_T 58 (e_T 49 (e_T 42 (e_T 39 (e_L 39 (0, ei_putf eft elay 5 4 0 42, 0, 0)) (e_L 42 (0, ei_load 5 2 44, 0, 0))) (e_T 44 (e_L 44 (0, ei_push (0, 100) 46, 0, 0)) (e_T 46 (e_L 46 (0, ei_putf eft elay 5 5 0 49, 0, 0)) (e_L 49 (0, ei_load 5 2 51, 0, 0))))) (e_T 53 (e_T 51 (e_L 51 (0, ei_push (0, 10) 53, 0, 0)) (e_L 53 (0, ei_putf eft elay 5 6 0 56, 0, 0))) (e_T 56 (e_L 56 (0, ei_load 0 2 57, 0, 0)) (e_T 57 (e_L 57 (0, ei_stk ef_dup 58, 0, 0)) (e_L 58 (0, ei_getf eft elay 0 8 61, 0, 0)))))) (e_T 67 (e_T 62 (e_T 61 (e_L 61 (0, ei_push (0, 1) 62, 0, 0)) (e_L 62 (0, ei_bin eF_add 63, 0, 0))) (e_T 63 (e_L 63 (0, ei_putf eft elay 0 8 0 66, 0, 0)) (e_T 66 (e_L 66 (0, ei_load 0 2 67, 0, 0)) (e_L 67 (2, e_nof, 10, 1))))) (e_T 71 (e_T 70 (e_L 70 (0, ei_load 0 2 71, 0, 0)) (e_L 71 (0, ei_getf eft elay 0 8 74, 0, 0))) (e_T 74 (e_L 74 (0, ei_push (0, 1) 75, 0, 0)) (e_T 75 (e_L 75 (0, ei_bin eF_sub 76, 0, 0)) (e_L 76 (1, e_nof, 1, 0))))))))
set_option maxRecDepth 20000 in
set_option maxHeartbeats 4000000 in
theorem te_2_0_ok : ∀ pc, e_EOq eft cls elay eI n_2 pc (te_2_0 pc) :=
  (e_Tok2
  (e_Tok2
  (e_Tok2
  (e_Tok2
  (e_Tok2
  (e_Lok (ld_aload_n_0 (x_dk dn_2_0_0_ok 0 rfl)))
  (e_Lok (lk_0_11g ho_2 (x_dk dn_2_0_0_ok 1 rfl))))
  (e_Tok2
  (e_Lok (ld_aload_n_0 (x_dk dn_2_0_0_ok 2 rfl)))
  (e_Tok2
  (e_Lok (lk_0_44g ho_2 (x_dk dn_2_0_0_ok 3 rfl)))
  (e_Lok (e_st (I := eI) (er_aaload (x_dk dn_2_0_0_ok 4 rfl)) nx_aald)))))
  (e_Tok2
  (e_Tok2
  (e_Lok (e_st (I := eI) (er_astore (i := 5) (x_dk dn_2_0_0_ok 5 rfl) (by decide +kernel)) nx_stor))
  (e_Lok (ld_aload_5 (x_dk dn_2_0_0_ok 6 rfl))))
  (e_Tok2
  (e_Lok (ld_iload_n_1 (x_dk dn_2_0_0_ok 7 rfl)))
  (e_Tok2
  (e_Lok (lk_0_66p ho_2 (x_dk dn_2_0_0_ok 8 rfl)))
  (e_Lok (ld_aload_5 (x_dk dn_2_0_0_ok 9 rfl)))))))
  (e_Tok2
  (e_Tok2
  (e_Tok2
  (e_Lok (ld_iload_n_2 (x_dk dn_2_0_0_ok 10 rfl)))
  (e_Lok (lk_0_69p ho_2 (x_dk dn_2_0_0_ok 11 rfl))))
  (e_Tok2
  (e_Lok (ld_aload_5 (x_dk dn_2_0_0_ok 12 rfl)))
  (e_Tok2
  (e_Lok (ld_iload_n_3 (x_dk dn_2_0_0_ok 13 rfl)))
  (e_Lok (lk_0_72p ho_2 (x_dk dn_2_0_0_ok 14 rfl))))))
  (e_Tok2
  (e_Tok2
  (e_Lok (ld_aload_5 (x_dk dn_2_0_0_ok 15 rfl)))
  (e_Lok (ld_iload_4 (x_dk dn_2_0_0_ok 16 rfl))))
  (e_Tok2
  (e_Lok (lk_0_75p ho_2 (x_dk dn_2_0_0_ok 17 rfl)))
  (e_Tok2
  (e_Lok (ld_aload_5 (x_dk dn_2_0_0_ok 18 rfl)))
  (e_Lok (ps_iconst_0 (x_dk dn_2_0_0_ok 19 rfl))))))))
  (e_Tok2
  (e_Tok2
  (e_Tok2
  (e_Tok2
  (e_Lok (lk_0_78p ho_2 (x_dk dn_2_0_0_ok 20 rfl)))
  (e_Lok (ld_aload_5 (x_dk dn_2_0_0_ok 21 rfl))))
  (e_Tok2
  (e_Lok (ps_bipush_100 (x_dk dn_2_0_0_ok 22 rfl)))
  (e_Tok2
  (e_Lok (lk_0_81p ho_2 (x_dk dn_2_0_0_ok 23 rfl)))
  (e_Lok (ld_aload_5 (x_dk dn_2_0_0_ok 24 rfl))))))
  (e_Tok2
  (e_Tok2
  (e_Lok (ps_bipush_10 (x_dk dn_2_0_1_ok 0 rfl)))
  (e_Lok (lk_0_84p ho_2 (x_dk dn_2_0_1_ok 1 rfl))))
  (e_Tok2
  (e_Lok (ld_aload_n_0 (x_dk dn_2_0_1_ok 2 rfl)))
  (e_Tok2
  (e_Lok (e_st (I := eI) (er_dup (x_dk dn_2_0_1_ok 3 rfl)) (nx_stk bf_dup)))
  (e_Lok (lk_0_44g ho_2 (x_dk dn_2_0_1_ok 4 rfl)))))))
  (e_Tok2
  (e_Tok2
  (e_Tok2
  (e_Lok (ps_iconst_1 (x_dk dn_2_0_1_ok 5 rfl)))
  (e_Lok (sm_iadd (x_dk dn_2_0_1_ok 6 rfl))))
  (e_Tok2
  (e_Lok (lk_0_44p ho_2 (x_dk dn_2_0_1_ok 7 rfl)))
  (e_Tok2
  (e_Lok (ld_aload_n_0 (x_dk dn_2_0_1_ok 8 rfl)))
  (e_Lok (lk_0_87 ho_2 (x_dk dn_2_0_1_ok 9 rfl))))))
  (e_Tok2
  (e_Tok2
  (e_Lok (ld_aload_n_0 (x_dk dn_2_0_1_ok 10 rfl)))
  (e_Lok (lk_0_44g ho_2 (x_dk dn_2_0_1_ok 11 rfl))))
  (e_Tok2
  (e_Lok (ps_iconst_1 (x_dk dn_2_0_1_ok 12 rfl)))
  (e_Tok2
  (e_Lok (sm_isub (x_dk dn_2_0_1_ok 13 rfl)))
  (e_Lok (e_rt (I := eI) (k := 1) ⟨(x_dk dn_2_0_1_ok 14 rfl), rfl⟩))))))))
def te_2 : Nat → eE := te_2_0
theorem te_2_ok : ∀ pc, e_EOq eft cls elay eI n_2 pc (te_2 pc) := te_2_0_ok
theorem ho_3 : (xm_y n_3).cls = "RobotCellHouse$Arm" := rfl
def dn_3_0_0 : List (Nat × Instr × Nat) := [(0, .iconst 0, 1), (1, .istore_n 1, 1), (2, .iload_n 1, 1), (3, .bipush 6, 2), (5, .if_icmp .ge 29, 3), (8, .aload_n 0, 1), (9, .getfield 11, 3), (12, .iload_n 1, 1), (13, .aaload, 1), (14, .iconst 0, 1), (15, .putfield 90, 3), (18, .aload_n 0, 1), (19, .getfield 11, 3), (22, .iload_n 1, 1), (23, .aaload, 1), (24, .iconst 0, 1), (25, .putfield 93, 3), (28, .iinc 1 1, 3), (31, .goto (-29), 3), (34, .aload_n 0, 1), (35, .getfield 33, 3), (38, .iconst 0, 1), (39, .invokestatic 54, 3), (42, .aload_n 0, 1), (43, .invokevirtual 96, 3)]
set_option maxRecDepth 20000 in
theorem dn_3_0_0_ok : dn_3_0_0.all (fun q => decide (decode (xm_b n_3) q.1 = .ok (q.2.1, q.2.2))) = true := xa_g_ok (by decide +kernel)
def dn_3_0_1 : List (Nat × Instr × Nat) := [(46, .aload_n 0, 1), (47, .iconst (-1), 1), (48, .putfield 99, 3), (51, .aload_n 0, 1), (52, .iconst 0, 1), (53, .putfield 102, 3), (56, .aload_n 0, 1), (57, .iconst (-1), 1), (58, .putfield 105, 3), (61, .aload_n 0, 1), (62, .iconst (-1), 1), (63, .putfield 108, 3), (66, .aload_n 0, 1), (67, .iconst 0, 1), (68, .putfield 111, 3), (71, .aload_n 0, 1), (72, .invokevirtual 87, 3), (75, .aload_n 0, 1), (76, .invokevirtual 114, 3), (79, .return_, 1)]
set_option maxRecDepth 20000 in
theorem dn_3_0_1_ok : dn_3_0_1.all (fun q => decide (decode (xm_b n_3) q.1 = .ok (q.2.1, q.2.2))) = true := xa_g_ok (by decide +kernel)
def te_3_0 : Nat → eE := (e_T 15 (e_T 5 (e_T 1 (e_T 0 (e_L 0 (0, ei_push (0, 0) 1, 0, 0)) (e_L 1 (0, ei_stor 1 0 2, 0, 0))) (e_T 2 (e_L 2 (0, ei_load 1 0 3, 0, 0)) (e_T 3 (e_L 3 (0, ei_push (0, 6) 5, 0, 0)) (e_L 5 (0, ei_if2 3 34 8, 0, 0))))) (e_T 12 (e_T 8 (e_L 8 (0, ei_load 0 2 9, 0, 0)) (e_T 9 (e_L 9 (0, ei_getf eft elay 0 0 12, 0, 0)) (e_L 12 (0, ei_load 1 0 13, 0, 0)))) (e_T 13 (e_L 13 (0, ei_aald elay 14, 0, 0)) (e_T 14 (e_L 14 (0, ei_push (0, 0) 15, 0, 0)) (e_L 15 (0, ei_putf eft elay 5 7 0 18, 0, 0)))))) (e_T 24 (e_T 19 (e_T 18 (e_L 18 (0, ei_load 0 2 19, 0, 0)) (e_L 19 (0, ei_getf eft elay 0 0 22, 0, 0))) (e_T 22 (e_L 22 (0, ei_load 1 0 23, 0, 0)) (e_T 23 (e_L 23 (0, ei_aald elay 24, 0, 0)) (e_L 24 (0, ei_push (0, 0) 25, 0, 0))))) (e_T 31 (e_T 25 (e_L 25 (0, ei_putf eft elay 5 9 0 28, 0, 0)) (e_T 28 (e_L 28 (0, ei_inc 1 1 31, 0, 0)) (e_L 31 (0, ei_goto 2, 0, 0)))) (e_T 34 (e_L 34 (0, ei_load 0 2 35, 0, 0)) (e_T 35 (e_L 35 (0, ei_getf eft elay 0 6 38, 0, 0)) (e_L 38 (0, ei_push (0, 0) 39, 0, 0)))))))
set_option maxRecDepth 20000 in
set_option maxHeartbeats 4000000 in
theorem te_3_0_ok : ∀ pc, e_EOq eft cls elay eI n_3 pc (te_3_0 pc) :=
  (e_Tok2
  (e_Tok2
  (e_Tok2
  (e_Tok2
  (e_Lok (ps_iconst_0 (x_dk dn_3_0_0_ok 0 rfl)))
  (e_Lok (e_st (I := eI) (er_istore_n (i := 1) (x_dk dn_3_0_0_ok 1 rfl) (by decide +kernel)) nx_stor)))
  (e_Tok2
  (e_Lok (ld_iload_n_1 (x_dk dn_3_0_0_ok 2 rfl)))
  (e_Tok2
  (e_Lok (ps_bipush_6 (x_dk dn_3_0_0_ok 3 rfl)))
  (e_Lok (e_st (I := eI) (er_icmpge (off := 29) (tg := 34) (x_dk dn_3_0_0_ok 4 rfl) (by decide)) nx_if2)))))
  (e_Tok2
  (e_Tok2
  (e_Lok (ld_aload_n_0 (x_dk dn_3_0_0_ok 5 rfl)))
  (e_Tok2
  (e_Lok (lk_0_11g ho_3 (x_dk dn_3_0_0_ok 6 rfl)))
  (e_Lok (ld_iload_n_1 (x_dk dn_3_0_0_ok 7 rfl)))))
  (e_Tok2
  (e_Lok (e_st (I := eI) (er_aaload (x_dk dn_3_0_0_ok 8 rfl)) nx_aald))
  (e_Tok2
  (e_Lok (ps_iconst_0 (x_dk dn_3_0_0_ok 9 rfl)))
  (e_Lok (lk_0_90p ho_3 (x_dk dn_3_0_0_ok 10 rfl)))))))
  (e_Tok2
  (e_Tok2
  (e_Tok2
  (e_Lok (ld_aload_n_0 (x_dk dn_3_0_0_ok 11 rfl)))
  (e_Lok (lk_0_11g ho_3 (x_dk dn_3_0_0_ok 12 rfl))))
  (e_Tok2
  (e_Lok (ld_iload_n_1 (x_dk dn_3_0_0_ok 13 rfl)))
  (e_Tok2
  (e_Lok (e_st (I := eI) (er_aaload (x_dk dn_3_0_0_ok 14 rfl)) nx_aald))
  (e_Lok (ps_iconst_0 (x_dk dn_3_0_0_ok 15 rfl))))))
  (e_Tok2
  (e_Tok2
  (e_Lok (lk_0_93p ho_3 (x_dk dn_3_0_0_ok 16 rfl)))
  (e_Tok2
  (e_Lok (e_st (I := eI) (er_iinc (i := 1) (n := 1) (x_dk dn_3_0_0_ok 17 rfl) (by decide +kernel) (by decide)) nx_inc))
  (e_Lok (e_st (I := eI) (er_goto (off := (-29)) (tg := 2) (x_dk dn_3_0_0_ok 18 rfl) (by decide)) nx_goto))))
  (e_Tok2
  (e_Lok (ld_aload_n_0 (x_dk dn_3_0_0_ok 19 rfl)))
  (e_Tok2
  (e_Lok (lk_0_33g ho_3 (x_dk dn_3_0_0_ok 20 rfl)))
  (e_Lok (ps_iconst_0 (x_dk dn_3_0_0_ok 21 rfl))))))))
def te_3_22 : Nat → eE := (e_T 57 (e_T 47 (e_T 42 (e_T 39 (e_L 39 (2, e_nof, 452, 2)) (e_L 42 (0, ei_load 0 2 43, 0, 0))) (e_T 43 (e_L 43 (2, e_nof, 17, 1)) (e_T 46 (e_L 46 (0, ei_load 0 2 47, 0, 0)) (e_L 47 (0, ei_push (0, (-1)) 48, 0, 0))))) (e_T 52 (e_T 48 (e_L 48 (0, ei_putf eft elay 0 14 0 51, 0, 0)) (e_T 51 (e_L 51 (0, ei_load 0 2 52, 0, 0)) (e_L 52 (0, ei_push (0, 0) 53, 0, 0)))) (e_T 53 (e_L 53 (0, ei_putf eft elay 0 15 0 56, 0, 0)) (e_T 56 (e_L 56 (0, ei_load 0 2 57, 0, 0)) (e_L 57 (0, ei_push (0, (-1)) 58, 0, 0)))))) (e_T 67 (e_T 62 (e_T 58 (e_L 58 (0, ei_putf eft elay 0 16 0 61, 0, 0)) (e_T 61 (e_L 61 (0, ei_load 0 2 62, 0, 0)) (e_L 62 (0, ei_push (0, (-1)) 63, 0, 0)))) (e_T 63 (e_L 63 (0, ei_putf eft elay 0 17 0 66, 0, 0)) (e_T 66 (e_L 66 (0, ei_load 0 2 67, 0, 0)) (e_L 67 (0, ei_push (0, 0) 68, 0, 0))))) (e_T 72 (e_T 68 (e_L 68 (0, ei_putf eft elay 0 19 0 71, 0, 0)) (e_T 71 (e_L 71 (0, ei_load 0 2 72, 0, 0)) (e_L 72 (2, e_nof, 10, 1)))) (e_T 75 (e_L 75 (0, ei_load 0 2 76, 0, 0)) (e_T 76 (e_L 76 (2, e_nof, 11, 1)) (e_L 79 (1, e_nof, 0, 0)))))))
set_option maxRecDepth 20000 in
set_option maxHeartbeats 4000000 in
theorem te_3_22_ok : ∀ pc, e_EOq eft cls elay eI n_3 pc (te_3_22 pc) :=
  (e_Tok2
  (e_Tok2
  (e_Tok2
  (e_Tok2
  (e_Lok (lk_0_54 ho_3 (x_dk dn_3_0_0_ok 22 rfl)))
  (e_Lok (ld_aload_n_0 (x_dk dn_3_0_0_ok 23 rfl))))
  (e_Tok2
  (e_Lok (lk_0_96 ho_3 (x_dk dn_3_0_0_ok 24 rfl)))
  (e_Tok2
  (e_Lok (ld_aload_n_0 (x_dk dn_3_0_1_ok 0 rfl)))
  (e_Lok (ps_iconst_m1 (x_dk dn_3_0_1_ok 1 rfl))))))
  (e_Tok2
  (e_Tok2
  (e_Lok (lk_0_99p ho_3 (x_dk dn_3_0_1_ok 2 rfl)))
  (e_Tok2
  (e_Lok (ld_aload_n_0 (x_dk dn_3_0_1_ok 3 rfl)))
  (e_Lok (ps_iconst_0 (x_dk dn_3_0_1_ok 4 rfl)))))
  (e_Tok2
  (e_Lok (lk_0_102p ho_3 (x_dk dn_3_0_1_ok 5 rfl)))
  (e_Tok2
  (e_Lok (ld_aload_n_0 (x_dk dn_3_0_1_ok 6 rfl)))
  (e_Lok (ps_iconst_m1 (x_dk dn_3_0_1_ok 7 rfl)))))))
  (e_Tok2
  (e_Tok2
  (e_Tok2
  (e_Lok (lk_0_105p ho_3 (x_dk dn_3_0_1_ok 8 rfl)))
  (e_Tok2
  (e_Lok (ld_aload_n_0 (x_dk dn_3_0_1_ok 9 rfl)))
  (e_Lok (ps_iconst_m1 (x_dk dn_3_0_1_ok 10 rfl)))))
  (e_Tok2
  (e_Lok (lk_0_108p ho_3 (x_dk dn_3_0_1_ok 11 rfl)))
  (e_Tok2
  (e_Lok (ld_aload_n_0 (x_dk dn_3_0_1_ok 12 rfl)))
  (e_Lok (ps_iconst_0 (x_dk dn_3_0_1_ok 13 rfl))))))
  (e_Tok2
  (e_Tok2
  (e_Lok (lk_0_111p ho_3 (x_dk dn_3_0_1_ok 14 rfl)))
  (e_Tok2
  (e_Lok (ld_aload_n_0 (x_dk dn_3_0_1_ok 15 rfl)))
  (e_Lok (lk_0_87 ho_3 (x_dk dn_3_0_1_ok 16 rfl)))))
  (e_Tok2
  (e_Lok (ld_aload_n_0 (x_dk dn_3_0_1_ok 17 rfl)))
  (e_Tok2
  (e_Lok (lk_0_114 ho_3 (x_dk dn_3_0_1_ok 18 rfl)))
  (e_Lok (e_rt (I := eI) (k := 0) ⟨(x_dk dn_3_0_1_ok 19 rfl), rfl⟩)))))))
def te_3 : Nat → eE := (e_T 38 te_3_0 te_3_22)
theorem te_3_ok : ∀ pc, e_EOq eft cls elay eI n_3 pc (te_3 pc) := (e_Tok2 (te_3_0_ok) (te_3_22_ok))
theorem ho_4 : (xm_y n_4).cls = "RobotCellHouse$Arm" := rfl
def dn_4_0_0 : List (Nat × Instr × Nat) := [(0, .aload_n 0, 1), (1, .getfield 39, 3), (4, .astore_n 2, 1), (5, .aload_n 0, 1), (6, .aload_n 1, 1), (7, .putfield 39, 3), (10, .aload_n 2, 1), (11, .areturn, 1)]
set_option maxRecDepth 20000 in
theorem dn_4_0_0_ok : dn_4_0_0.all (fun q => decide (decode (xm_b n_4) q.1 = .ok (q.2.1, q.2.2))) = true := xa_g_ok (by decide +kernel)
def te_4_0 : Nat → eE := (e_T 5 (e_T 1 (e_T 0 (e_L 0 (0, ei_load 0 2 1, 0, 0)) (e_L 1 (0, ei_getf eft elay 0 7 4, 0, 0))) (e_T 4 (e_L 4 (0, ei_stor 2 2 5, 0, 0)) (e_L 5 (0, ei_load 0 2 6, 0, 0)))) (e_T 7 (e_T 6 (e_L 6 (0, ei_load 1 2 7, 0, 0)) (e_L 7 (0, ei_putf eft elay 0 7 2 10, 0, 0))) (e_T 10 (e_L 10 (0, ei_load 2 2 11, 0, 0)) (e_L 11 (1, e_nof, 3, 0)))))
set_option maxRecDepth 20000 in
set_option maxHeartbeats 4000000 in
theorem te_4_0_ok : ∀ pc, e_EOq eft cls elay eI n_4 pc (te_4_0 pc) :=
  (e_Tok2
  (e_Tok2
  (e_Tok2
  (e_Lok (ld_aload_n_0 (x_dk dn_4_0_0_ok 0 rfl)))
  (e_Lok (lk_0_39g ho_4 (x_dk dn_4_0_0_ok 1 rfl))))
  (e_Tok2
  (e_Lok (e_st (I := eI) (er_astore_n (i := 2) (x_dk dn_4_0_0_ok 2 rfl) (by decide +kernel)) nx_stor))
  (e_Lok (ld_aload_n_0 (x_dk dn_4_0_0_ok 3 rfl)))))
  (e_Tok2
  (e_Tok2
  (e_Lok (ld_aload_n_1 (x_dk dn_4_0_0_ok 4 rfl)))
  (e_Lok (lk_0_39p ho_4 (x_dk dn_4_0_0_ok 5 rfl))))
  (e_Tok2
  (e_Lok (ld_aload_n_2 (x_dk dn_4_0_0_ok 6 rfl)))
  (e_Lok (e_rt (I := eI) (k := 3) ⟨(x_dk dn_4_0_0_ok 7 rfl), _, rfl, Or.inl ⟨_, rfl⟩⟩)))))
def te_4 : Nat → eE := te_4_0
theorem te_4_ok : ∀ pc, e_EOq eft cls elay eI n_4 pc (te_4 pc) := te_4_0_ok
theorem ho_5 : (xm_y n_5).cls = "RobotCellHouse$Arm" := rfl
def dn_5_0_0 : List (Nat × Instr × Nat) := [(0, .iconst 0, 1), (1, .istore_n 1, 1), (2, .iconst 0, 1), (3, .istore_n 2, 1), (4, .iload_n 2, 1), (5, .aload_n 0, 1), (6, .getfield 44, 3), (9, .if_icmp .ge 48, 3), (12, .iload_n 1, 1), (13, .aload_n 0, 1), (14, .getfield 11, 3), (17, .iload_n 2, 1), (18, .aaload, 1), (19, .getfield 75, 3), (22, .aload_n 0, 1), (23, .getfield 11, 3), (26, .iload_n 2, 1), (27, .aaload, 1), (28, .getfield 66, 3), (31, .iconst 1, 1), (32, .if_icmp .ne 15, 3), (35, .aload_n 0, 1), (36, .getfield 11, 3), (39, .iload_n 2, 1), (40, .aaload, 1)]
set_option maxRecDepth 20000 in
theorem dn_5_0_0_ok : dn_5_0_0.all (fun q => decide (decode (xm_b n_5) q.1 = .ok (q.2.1, q.2.2))) = true := xa_g_ok (by decide +kernel)
def dn_5_0_1 : List (Nat × Instr × Nat) := [(41, .getfield 72, 3), (44, .goto 4, 3), (47, .iconst 0, 1), (48, .iadd, 1), (49, .iadd, 1), (50, .istore_n 1, 1), (51, .iinc 2 1, 3), (54, .goto (-50), 3), (57, .iload_n 1, 1), (58, .ireturn, 1)]
set_option maxRecDepth 20000 in
theorem dn_5_0_1_ok : dn_5_0_1.all (fun q => decide (decode (xm_b n_5) q.1 = .ok (q.2.1, q.2.2))) = true := xa_g_ok (by decide +kernel)
def te_5_0 : Nat → eE := (e_T 26 (e_T 9 (e_T 3 (e_T 1 (e_T 0 (e_L 0 (0, ei_push (0, 0) 1, 0, 0)) (e_L 1 (0, ei_stor 1 0 2, 0, 0))) (e_T 2 (e_L 2 (0, ei_push (0, 0) 3, 0, 0)) (e_L 3 (0, ei_stor 2 0 4, 0, 0)))) (e_T 5 (e_T 4 (e_L 4 (0, ei_load 2 0 5, 0, 0)) (e_L 5 (0, ei_load 0 2 6, 0, 0))) (e_T 6 (e_L 6 (0, ei_getf eft elay 0 8 9, 0, 0)) (e_L 9 (0, ei_if2 3 57 12, 0, 0))))) (e_T 17 (e_T 13 (e_T 12 (e_L 12 (0, ei_load 1 0 13, 0, 0)) (e_L 13 (0, ei_load 0 2 14, 0, 0))) (e_T 14 (e_L 14 (0, ei_getf eft elay 0 0 17, 0, 0)) (e_L 17 (0, ei_load 2 0 18, 0, 0)))) (e_T 19 (e_T 18 (e_L 18 (0, ei_aald elay 19, 0, 0)) (e_L 19 (0, ei_getf eft elay 5 3 22, 0, 0))) (e_T 22 (e_L 22 (0, ei_load 0 2 23, 0, 0)) (e_T 23 (e_L 23 (0, ei_getf eft elay 0 0 26, 0, 0)) (e_L 26 (0, ei_load 2 0 27, 0, 0))))))) (e_T 41 (e_T 32 (e_T 28 (e_T 27 (e_L 27 (0, ei_aald elay 28, 0, 0)) (e_L 28 (0, ei_getf eft elay 5 0 31, 0, 0))) (e_T 31 (e_L 31 (0, ei_push (0, 1) 32, 0, 0)) (e_L 32 (0, ei_if2 1 47 35, 0, 0)))) (e_T 36 (e_T 35 (e_L 35 (0, ei_load 0 2 36, 0, 0)) (e_L 36 (0, ei_getf eft elay 0 0 39, 0, 0))) (e_T 39 (e_L 39 (0, ei_load 2 0 40, 0, 0)) (e_T 40 (e_L 40 (0, ei_aald elay 41, 0, 0)) (e_L 41 (0, ei_getf eft elay 5 2 44, 0, 0)))))) (e_T 49 (e_T 47 (e_T 44 (e_L 44 (0, ei_goto 48, 0, 0)) (e_L 47 (0, ei_push (0, 0) 48, 0, 0))) (e_T 48 (e_L 48 (0, ei_bin eF_add 49, 0, 0)) (e_L 49 (0, ei_bin eF_add 50, 0, 0)))) (e_T 51 (e_T 50 (e_L 50 (0, ei_stor 1 0 51, 0, 0)) (e_L 51 (0, ei_inc 2 1 54, 0, 0))) (e_T 54 (e_L 54 (0, ei_goto 4, 0, 0)) (e_T 57 (e_L 57 (0, ei_load 1 0 58, 0, 0)) (e_L 58 (1, e_nof, 1, 0))))))))
set_option maxRecDepth 20000 in
set_option maxHeartbeats 4000000 in
theorem te_5_0_ok : ∀ pc, e_EOq eft cls elay eI n_5 pc (te_5_0 pc) :=
  (e_Tok2
  (e_Tok2
  (e_Tok2
  (e_Tok2
  (e_Tok2
  (e_Lok (ps_iconst_0 (x_dk dn_5_0_0_ok 0 rfl)))
  (e_Lok (e_st (I := eI) (er_istore_n (i := 1) (x_dk dn_5_0_0_ok 1 rfl) (by decide +kernel)) nx_stor)))
  (e_Tok2
  (e_Lok (ps_iconst_0 (x_dk dn_5_0_0_ok 2 rfl)))
  (e_Lok (e_st (I := eI) (er_istore_n (i := 2) (x_dk dn_5_0_0_ok 3 rfl) (by decide +kernel)) nx_stor))))
  (e_Tok2
  (e_Tok2
  (e_Lok (ld_iload_n_2 (x_dk dn_5_0_0_ok 4 rfl)))
  (e_Lok (ld_aload_n_0 (x_dk dn_5_0_0_ok 5 rfl))))
  (e_Tok2
  (e_Lok (lk_0_44g ho_5 (x_dk dn_5_0_0_ok 6 rfl)))
  (e_Lok (e_st (I := eI) (er_icmpge (off := 48) (tg := 57) (x_dk dn_5_0_0_ok 7 rfl) (by decide)) nx_if2)))))
  (e_Tok2
  (e_Tok2
  (e_Tok2
  (e_Lok (ld_iload_n_1 (x_dk dn_5_0_0_ok 8 rfl)))
  (e_Lok (ld_aload_n_0 (x_dk dn_5_0_0_ok 9 rfl))))
  (e_Tok2
  (e_Lok (lk_0_11g ho_5 (x_dk dn_5_0_0_ok 10 rfl)))
  (e_Lok (ld_iload_n_2 (x_dk dn_5_0_0_ok 11 rfl)))))
  (e_Tok2
  (e_Tok2
  (e_Lok (e_st (I := eI) (er_aaload (x_dk dn_5_0_0_ok 12 rfl)) nx_aald))
  (e_Lok (lk_0_75g ho_5 (x_dk dn_5_0_0_ok 13 rfl))))
  (e_Tok2
  (e_Lok (ld_aload_n_0 (x_dk dn_5_0_0_ok 14 rfl)))
  (e_Tok2
  (e_Lok (lk_0_11g ho_5 (x_dk dn_5_0_0_ok 15 rfl)))
  (e_Lok (ld_iload_n_2 (x_dk dn_5_0_0_ok 16 rfl))))))))
  (e_Tok2
  (e_Tok2
  (e_Tok2
  (e_Tok2
  (e_Lok (e_st (I := eI) (er_aaload (x_dk dn_5_0_0_ok 17 rfl)) nx_aald))
  (e_Lok (lk_0_66g ho_5 (x_dk dn_5_0_0_ok 18 rfl))))
  (e_Tok2
  (e_Lok (ps_iconst_1 (x_dk dn_5_0_0_ok 19 rfl)))
  (e_Lok (e_st (I := eI) (er_icmpne (off := 15) (tg := 47) (x_dk dn_5_0_0_ok 20 rfl) (by decide)) nx_if2))))
  (e_Tok2
  (e_Tok2
  (e_Lok (ld_aload_n_0 (x_dk dn_5_0_0_ok 21 rfl)))
  (e_Lok (lk_0_11g ho_5 (x_dk dn_5_0_0_ok 22 rfl))))
  (e_Tok2
  (e_Lok (ld_iload_n_2 (x_dk dn_5_0_0_ok 23 rfl)))
  (e_Tok2
  (e_Lok (e_st (I := eI) (er_aaload (x_dk dn_5_0_0_ok 24 rfl)) nx_aald))
  (e_Lok (lk_0_72g ho_5 (x_dk dn_5_0_1_ok 0 rfl)))))))
  (e_Tok2
  (e_Tok2
  (e_Tok2
  (e_Lok (e_st (I := eI) (er_goto (off := 4) (tg := 48) (x_dk dn_5_0_1_ok 1 rfl) (by decide)) nx_goto))
  (e_Lok (ps_iconst_0 (x_dk dn_5_0_1_ok 2 rfl))))
  (e_Tok2
  (e_Lok (sm_iadd (x_dk dn_5_0_1_ok 3 rfl)))
  (e_Lok (sm_iadd (x_dk dn_5_0_1_ok 4 rfl)))))
  (e_Tok2
  (e_Tok2
  (e_Lok (e_st (I := eI) (er_istore_n (i := 1) (x_dk dn_5_0_1_ok 5 rfl) (by decide +kernel)) nx_stor))
  (e_Lok (e_st (I := eI) (er_iinc (i := 2) (n := 1) (x_dk dn_5_0_1_ok 6 rfl) (by decide +kernel) (by decide)) nx_inc)))
  (e_Tok2
  (e_Lok (e_st (I := eI) (er_goto (off := (-50)) (tg := 4) (x_dk dn_5_0_1_ok 7 rfl) (by decide)) nx_goto))
  (e_Tok2
  (e_Lok (ld_iload_n_1 (x_dk dn_5_0_1_ok 8 rfl)))
  (e_Lok (e_rt (I := eI) (k := 1) ⟨(x_dk dn_5_0_1_ok 9 rfl), rfl⟩))))))))
def te_5 : Nat → eE := te_5_0
theorem te_5_ok : ∀ pc, e_EOq eft cls elay eI n_5 pc (te_5 pc) := te_5_0_ok
theorem ho_6 : (xm_y n_6).cls = "RobotCellHouse$Arm" := rfl
def dn_6_0_0 : List (Nat × Instr × Nat) := [(0, .aload_n 0, 1), (1, .getfield 30, 3), (4, .iload_n 1, 1), (5, .iaload, 1), (6, .iload_n 2, 1), (7, .ishr, 1), (8, .iconst 1, 1), (9, .iand, 1), (10, .ifCond .eq 7, 3), (13, .iconst 1, 1), (14, .goto 4, 3), (17, .iconst 0, 1), (18, .ireturn, 1)]
set_option maxRecDepth 20000 in
theorem dn_6_0_0_ok : dn_6_0_0.all (fun q => decide (decode (xm_b n_6) q.1 = .ok (q.2.1, q.2.2))) = true := xa_g_ok (by decide +kernel)
def te_6_0 : Nat → eE := (e_T 7 (e_T 4 (e_T 0 (e_L 0 (0, ei_load 0 2 1, 0, 0)) (e_T 1 (e_L 1 (0, ei_getf eft elay 0 5 4, 0, 0)) (e_L 4 (0, ei_load 1 0 5, 0, 0)))) (e_T 5 (e_L 5 (0, ei_ald elay false 6, 0, 0)) (e_T 6 (e_L 6 (0, ei_load 2 0 7, 0, 0)) (e_L 7 (0, ei_bin (eB (fun x y => x >>> (y &&& 31))) 8, 0, 0))))) (e_T 10 (e_T 8 (e_L 8 (0, ei_push (0, 1) 9, 0, 0)) (e_T 9 (e_L 9 (0, ei_bin (eB (fun x y => x &&& y)) 10, 0, 0)) (e_L 10 (0, ei_if1 0 17 13, 0, 0)))) (e_T 14 (e_T 13 (e_L 13 (0, ei_push (0, 1) 14, 0, 0)) (e_L 14 (0, ei_goto 18, 0, 0))) (e_T 17 (e_L 17 (0, ei_push (0, 0) 18, 0, 0)) (e_L 18 (1, e_nof, 4, 0))))))
set_option maxRecDepth 20000 in
set_option maxHeartbeats 4000000 in
theorem te_6_0_ok : ∀ pc, e_EOq eft cls elay eI n_6 pc (te_6_0 pc) :=
  (e_Tok2
  (e_Tok2
  (e_Tok2
  (e_Lok (ld_aload_n_0 (x_dk dn_6_0_0_ok 0 rfl)))
  (e_Tok2
  (e_Lok (lk_0_30g ho_6 (x_dk dn_6_0_0_ok 1 rfl)))
  (e_Lok (ld_iload_n_1 (x_dk dn_6_0_0_ok 2 rfl)))))
  (e_Tok2
  (e_Lok (sm_iaload (x_dk dn_6_0_0_ok 3 rfl)))
  (e_Tok2
  (e_Lok (ld_iload_n_2 (x_dk dn_6_0_0_ok 4 rfl)))
  (e_Lok (e_st (I := eI) (er_ishr (x_dk dn_6_0_0_ok 5 rfl)) nx_bin)))))
  (e_Tok2
  (e_Tok2
  (e_Lok (ps_iconst_1 (x_dk dn_6_0_0_ok 6 rfl)))
  (e_Tok2
  (e_Lok (e_st (I := eI) (er_iand (x_dk dn_6_0_0_ok 7 rfl)) nx_bin))
  (e_Lok (e_st (I := eI) (er_ifeq (off := 7) (tg := 17) (x_dk dn_6_0_0_ok 8 rfl) (by decide)) nx_if1))))
  (e_Tok2
  (e_Tok2
  (e_Lok (ps_iconst_1 (x_dk dn_6_0_0_ok 9 rfl)))
  (e_Lok (e_st (I := eI) (er_goto (off := 4) (tg := 18) (x_dk dn_6_0_0_ok 10 rfl) (by decide)) nx_goto)))
  (e_Tok2
  (e_Lok (ps_iconst_0 (x_dk dn_6_0_0_ok 11 rfl)))
  (e_Lok (e_rt (I := eI) (k := 4) ⟨(x_dk dn_6_0_0_ok 12 rfl), rfl⟩))))))
def te_6 : Nat → eE := te_6_0
theorem te_6_ok : ∀ pc, e_EOq eft cls elay eI n_6 pc (te_6 pc) := te_6_0_ok
theorem ho_7 : (xm_y n_7).cls = "RobotCellHouse$Arm" := rfl
def dn_7_0_0 : List (Nat × Instr × Nat) := [(0, .aload_n 0, 1), (1, .getfield 99, 3), (4, .ifCond .ge 10, 3), (7, .aload_n 0, 1), (8, .getfield 44, 3), (11, .goto 9, 3), (14, .aload_n 0, 1), (15, .getfield 44, 3), (18, .iconst 1, 1), (19, .iadd, 1), (20, .ireturn, 1)]
set_option maxRecDepth 20000 in
theorem dn_7_0_0_ok : dn_7_0_0.all (fun q => decide (decode (xm_b n_7) q.1 = .ok (q.2.1, q.2.2))) = true := xa_g_ok (by decide +kernel)
def te_7_0 : Nat → eE := (e_T 8 (e_T 1 (e_T 0 (e_L 0 (0, ei_load 0 2 1, 0, 0)) (e_L 1 (0, ei_getf eft elay 0 14 4, 0, 0))) (e_T 4 (e_L 4 (0, ei_if1 3 14 7, 0, 0)) (e_T 7 (e_L 7 (0, ei_load 0 2 8, 0, 0)) (e_L 8 (0, ei_getf eft elay 0 8 11, 0, 0))))) (e_T 15 (e_T 11 (e_L 11 (0, ei_goto 20, 0, 0)) (e_T 14 (e_L 14 (0, ei_load 0 2 15, 0, 0)) (e_L 15 (0, ei_getf eft elay 0 8 18, 0, 0)))) (e_T 18 (e_L 18 (0, ei_push (0, 1) 19, 0, 0)) (e_T 19 (e_L 19 (0, ei_bin eF_add 20, 0, 0)) (e_L 20 (1, e_nof, 1, 0))))))
set_option maxRecDepth 20000 in
set_option maxHeartbeats 4000000 in
theorem te_7_0_ok : ∀ pc, e_EOq eft cls elay eI n_7 pc (te_7_0 pc) :=
  (e_Tok2
  (e_Tok2
  (e_Tok2
  (e_Lok (ld_aload_n_0 (x_dk dn_7_0_0_ok 0 rfl)))
  (e_Lok (lk_0_99g ho_7 (x_dk dn_7_0_0_ok 1 rfl))))
  (e_Tok2
  (e_Lok (e_st (I := eI) (er_ifge (off := 10) (tg := 14) (x_dk dn_7_0_0_ok 2 rfl) (by decide)) nx_if1))
  (e_Tok2
  (e_Lok (ld_aload_n_0 (x_dk dn_7_0_0_ok 3 rfl)))
  (e_Lok (lk_0_44g ho_7 (x_dk dn_7_0_0_ok 4 rfl))))))
  (e_Tok2
  (e_Tok2
  (e_Lok (e_st (I := eI) (er_goto (off := 9) (tg := 20) (x_dk dn_7_0_0_ok 5 rfl) (by decide)) nx_goto))
  (e_Tok2
  (e_Lok (ld_aload_n_0 (x_dk dn_7_0_0_ok 6 rfl)))
  (e_Lok (lk_0_44g ho_7 (x_dk dn_7_0_0_ok 7 rfl)))))
  (e_Tok2
  (e_Lok (ps_iconst_1 (x_dk dn_7_0_0_ok 8 rfl)))
  (e_Tok2
  (e_Lok (sm_iadd (x_dk dn_7_0_0_ok 9 rfl)))
  (e_Lok (e_rt (I := eI) (k := 1) ⟨(x_dk dn_7_0_0_ok 10 rfl), rfl⟩))))))
def te_7 : Nat → eE := te_7_0
theorem te_7_ok : ∀ pc, e_EOq eft cls elay eI n_7 pc (te_7 pc) := te_7_0_ok
theorem ho_8 : (xm_y n_8).cls = "RobotCellHouse$Arm" := rfl
def dn_8_0_0 : List (Nat × Instr × Nat) := [(0, .iload_n 1, 1), (1, .aload_n 0, 1), (2, .getfield 44, 3), (5, .if_icmp .ge 15, 3), (8, .aload_n 0, 1), (9, .getfield 11, 3), (12, .iload_n 1, 1), (13, .aaload, 1), (14, .getfield 78, 3), (17, .goto 7, 3), (20, .aload_n 0, 1), (21, .getfield 102, 3), (24, .ireturn, 1)]
set_option maxRecDepth 20000 in
theorem dn_8_0_0_ok : dn_8_0_0.all (fun q => decide (decode (xm_b n_8) q.1 = .ok (q.2.1, q.2.2))) = true := xa_g_ok (by decide +kernel)
def te_8_0 : Nat → eE := (e_T 9 (e_T 2 (e_T 0 (e_L 0 (0, ei_load 1 0 1, 0, 0)) (e_T 1 (e_L 1 (0, ei_load 0 2 2, 0, 0)) (e_L 2 (0, ei_getf eft elay 0 8 5, 0, 0)))) (e_T 5 (e_L 5 (0, ei_if2 3 20 8, 0, 0)) (e_T 8 (e_L 8 (0, ei_load 0 2 9, 0, 0)) (e_L 9 (0, ei_getf eft elay 0 0 12, 0, 0))))) (e_T 14 (e_T 12 (e_L 12 (0, ei_load 1 0 13, 0, 0)) (e_T 13 (e_L 13 (0, ei_aald elay 14, 0, 0)) (e_L 14 (0, ei_getf eft elay 5 4 17, 0, 0)))) (e_T 20 (e_T 17 (e_L 17 (0, ei_goto 24, 0, 0)) (e_L 20 (0, ei_load 0 2 21, 0, 0))) (e_T 21 (e_L 21 (0, ei_getf eft elay 0 15 24, 0, 0)) (e_L 24 (1, e_nof, 1, 0))))))
set_option maxRecDepth 20000 in
set_option maxHeartbeats 4000000 in
theorem te_8_0_ok : ∀ pc, e_EOq eft cls elay eI n_8 pc (te_8_0 pc) :=
  (e_Tok2
  (e_Tok2
  (e_Tok2
  (e_Lok (ld_iload_n_1 (x_dk dn_8_0_0_ok 0 rfl)))
  (e_Tok2
  (e_Lok (ld_aload_n_0 (x_dk dn_8_0_0_ok 1 rfl)))
  (e_Lok (lk_0_44g ho_8 (x_dk dn_8_0_0_ok 2 rfl)))))
  (e_Tok2
  (e_Lok (e_st (I := eI) (er_icmpge (off := 15) (tg := 20) (x_dk dn_8_0_0_ok 3 rfl) (by decide)) nx_if2))
  (e_Tok2
  (e_Lok (ld_aload_n_0 (x_dk dn_8_0_0_ok 4 rfl)))
  (e_Lok (lk_0_11g ho_8 (x_dk dn_8_0_0_ok 5 rfl))))))
  (e_Tok2
  (e_Tok2
  (e_Lok (ld_iload_n_1 (x_dk dn_8_0_0_ok 6 rfl)))
  (e_Tok2
  (e_Lok (e_st (I := eI) (er_aaload (x_dk dn_8_0_0_ok 7 rfl)) nx_aald))
  (e_Lok (lk_0_78g ho_8 (x_dk dn_8_0_0_ok 8 rfl)))))
  (e_Tok2
  (e_Tok2
  (e_Lok (e_st (I := eI) (er_goto (off := 7) (tg := 24) (x_dk dn_8_0_0_ok 9 rfl) (by decide)) nx_goto))
  (e_Lok (ld_aload_n_0 (x_dk dn_8_0_0_ok 10 rfl))))
  (e_Tok2
  (e_Lok (lk_0_102g ho_8 (x_dk dn_8_0_0_ok 11 rfl)))
  (e_Lok (e_rt (I := eI) (k := 1) ⟨(x_dk dn_8_0_0_ok 12 rfl), rfl⟩))))))
def te_8 : Nat → eE := te_8_0
theorem te_8_ok : ∀ pc, e_EOq eft cls elay eI n_8 pc (te_8 pc) := te_8_0_ok
theorem ho_9 : (xm_y n_9).cls = "RobotCellHouse$Arm" := rfl
def dn_9_0_0 : List (Nat × Instr × Nat) := [(0, .aload_n 0, 1), (1, .getfield 108, 3), (4, .ifCond .lt 14, 3), (7, .aload_n 0, 1), (8, .getfield 111, 3), (11, .ifCond .ne 7, 3), (14, .iconst 1, 1), (15, .goto 4, 3), (18, .iconst 0, 1), (19, .ireturn, 1)]
set_option maxRecDepth 20000 in
theorem dn_9_0_0_ok : dn_9_0_0.all (fun q => decide (decode (xm_b n_9) q.1 = .ok (q.2.1, q.2.2))) = true := xa_g_ok (by decide +kernel)
def te_9_0 : Nat → eE := (e_T 8 (e_T 1 (e_T 0 (e_L 0 (0, ei_load 0 2 1, 0, 0)) (e_L 1 (0, ei_getf eft elay 0 17 4, 0, 0))) (e_T 4 (e_L 4 (0, ei_if1 2 18 7, 0, 0)) (e_T 7 (e_L 7 (0, ei_load 0 2 8, 0, 0)) (e_L 8 (0, ei_getf eft elay 0 19 11, 0, 0))))) (e_T 14 (e_T 11 (e_L 11 (0, ei_if1 1 18 14, 0, 0)) (e_L 14 (0, ei_push (0, 1) 15, 0, 0))) (e_T 15 (e_L 15 (0, ei_goto 19, 0, 0)) (e_T 18 (e_L 18 (0, ei_push (0, 0) 19, 0, 0)) (e_L 19 (1, e_nof, 4, 0))))))
set_option maxRecDepth 20000 in
set_option maxHeartbeats 4000000 in
theorem te_9_0_ok : ∀ pc, e_EOq eft cls elay eI n_9 pc (te_9_0 pc) :=
  (e_Tok2
  (e_Tok2
  (e_Tok2
  (e_Lok (ld_aload_n_0 (x_dk dn_9_0_0_ok 0 rfl)))
  (e_Lok (lk_0_108g ho_9 (x_dk dn_9_0_0_ok 1 rfl))))
  (e_Tok2
  (e_Lok (e_st (I := eI) (er_iflt (off := 14) (tg := 18) (x_dk dn_9_0_0_ok 2 rfl) (by decide)) nx_if1))
  (e_Tok2
  (e_Lok (ld_aload_n_0 (x_dk dn_9_0_0_ok 3 rfl)))
  (e_Lok (lk_0_111g ho_9 (x_dk dn_9_0_0_ok 4 rfl))))))
  (e_Tok2
  (e_Tok2
  (e_Lok (e_st (I := eI) (er_ifne (off := 7) (tg := 18) (x_dk dn_9_0_0_ok 5 rfl) (by decide)) nx_if1))
  (e_Lok (ps_iconst_1 (x_dk dn_9_0_0_ok 6 rfl))))
  (e_Tok2
  (e_Lok (e_st (I := eI) (er_goto (off := 4) (tg := 19) (x_dk dn_9_0_0_ok 7 rfl) (by decide)) nx_goto))
  (e_Tok2
  (e_Lok (ps_iconst_0 (x_dk dn_9_0_0_ok 8 rfl)))
  (e_Lok (e_rt (I := eI) (k := 4) ⟨(x_dk dn_9_0_0_ok 9 rfl), rfl⟩))))))
def te_9 : Nat → eE := te_9_0
theorem te_9_ok : ∀ pc, e_EOq eft cls elay eI n_9 pc (te_9 pc) := te_9_0_ok
theorem ho_10 : (xm_y n_10).cls = "RobotCellHouse$Arm" := rfl
def dn_10_0_0 : List (Nat × Instr × Nat) := [(0, .aload_n 0, 1), (1, .getfield 17, 3), (4, .iconst 0, 1), (5, .iaload, 1), (6, .i2l, 1), (7, .bipush 20, 2), (9, .lshl, 1), (10, .lstore_n 1, 1), (11, .aload_n 0, 1), (12, .getfield 21, 3), (15, .iconst 0, 1), (16, .iaload, 1), (17, .i2l, 1), (18, .bipush 20, 2), (20, .lshl, 1), (21, .lstore_n 3, 1), (22, .aload_n 0, 1), (23, .getfield 48, 3), (26, .istore 5, 2), (28, .iconst 0, 1), (29, .istore 6, 2), (31, .iload 6, 2), (33, .aload_n 0, 1), (34, .getfield 44, 3), (37, .if_icmp .ge 129, 3)]
set_option maxRecDepth 20000 in
theorem dn_10_0_0_ok : dn_10_0_0.all (fun q => decide (decode (xm_b n_10) q.1 = .ok (q.2.1, q.2.2))) = true := xa_g_ok (by decide +kernel)
def dn_10_0_1 : List (Nat × Instr × Nat) := [(40, .aload_n 0, 1), (41, .getfield 11, 3), (44, .iload 6, 2), (46, .aaload, 1), (47, .getfield 75, 3), (50, .istore 7, 2), (52, .aload_n 0, 1), (53, .getfield 11, 3), (56, .iload 6, 2), (58, .aaload, 1), (59, .getfield 66, 3), (62, .ifCond .ne 21, 3), (65, .iload 5, 2), (67, .aload_n 0, 1), (68, .getfield 11, 3), (71, .iload 6, 2), (73, .aaload, 1), (74, .getfield 90, 3), (77, .iadd, 1), (78, .istore 5, 2), (80, .goto 18, 3), (83, .iload 7, 2), (85, .aload_n 0, 1), (86, .getfield 11, 3), (89, .iload 6, 2)]
set_option maxRecDepth 20000 in
theorem dn_10_0_1_ok : dn_10_0_1.all (fun q => decide (decode (xm_b n_10) q.1 = .ok (q.2.1, q.2.2))) = true := xa_g_ok (by decide +kernel)
def dn_10_0_2 : List (Nat × Instr × Nat) := [(91, .aaload, 1), (92, .getfield 90, 3), (95, .iadd, 1), (96, .istore 7, 2), (98, .lload_n 1, 1), (99, .iload 7, 2), (101, .i2l, 1), (102, .iload 5, 2), (104, .invokestatic 117, 3), (107, .i2l, 1), (108, .lmul, 1), (109, .ladd, 1), (110, .lstore_n 1, 1), (111, .lload_n 3, 1), (112, .iload 7, 2), (114, .i2l, 1), (115, .iload 5, 2), (117, .invokestatic 121, 3), (120, .i2l, 1), (121, .lmul, 1), (122, .ladd, 1), (123, .lstore_n 3, 1), (124, .aload_n 0, 1), (125, .getfield 17, 3), (128, .iload 6, 2)]
set_option maxRecDepth 20000 in
theorem dn_10_0_2_ok : dn_10_0_2.all (fun q => decide (decode (xm_b n_10) q.1 = .ok (q.2.1, q.2.2))) = true := xa_g_ok (by decide +kernel)
def dn_10_0_3 : List (Nat × Instr × Nat) := [(130, .iconst 1, 1), (131, .iadd, 1), (132, .lload_n 1, 1), (133, .ldc2_w 124, 3), (136, .ladd, 1), (137, .bipush 20, 2), (139, .lshr, 1), (140, .l2i, 1), (141, .iastore, 1), (142, .aload_n 0, 1), (143, .getfield 21, 3), (146, .iload 6, 2), (148, .iconst 1, 1), (149, .iadd, 1), (150, .lload_n 3, 1), (151, .ldc2_w 124, 3), (154, .ladd, 1), (155, .bipush 20, 2), (157, .lshr, 1), (158, .l2i, 1), (159, .iastore, 1), (160, .iinc 6 1, 3), (163, .goto (-132), 3), (166, .aload_n 0, 1), (167, .getfield 17, 3)]
set_option maxRecDepth 20000 in
theorem dn_10_0_3_ok : dn_10_0_3.all (fun q => decide (decode (xm_b n_10) q.1 = .ok (q.2.1, q.2.2))) = true := xa_g_ok (by decide +kernel)
def dn_10_1_0 : List (Nat × Instr × Nat) := [(170, .aload_n 0, 1), (171, .getfield 44, 3), (174, .iconst 1, 1), (175, .iadd, 1), (176, .aload_n 0, 1), (177, .getfield 17, 3), (180, .aload_n 0, 1), (181, .getfield 44, 3), (184, .iaload, 1), (185, .iastore, 1), (186, .aload_n 0, 1), (187, .getfield 21, 3), (190, .aload_n 0, 1), (191, .getfield 44, 3), (194, .iconst 1, 1), (195, .iadd, 1), (196, .aload_n 0, 1), (197, .getfield 21, 3), (200, .aload_n 0, 1), (201, .getfield 44, 3), (204, .iaload, 1), (205, .iastore, 1), (206, .return_, 1)]
set_option maxRecDepth 20000 in
theorem dn_10_1_0_ok : dn_10_1_0.all (fun q => decide (decode (xm_b n_10) q.1 = .ok (q.2.1, q.2.2))) = true := xa_g_ok (by decide +kernel)
def te_10_0 : Nat → eE := (e_T 20 (e_T 9 (e_T 4 (e_T 0 (e_L 0 (0, ei_load 0 2 1, 0, 0)) (e_T 1 (e_L 1 (0, ei_getf eft elay 0 1 4, 0, 0)) (e_L 4 (0, ei_push (0, 0) 5, 0, 0)))) (e_T 6 (e_T 5 (e_L 5 (0, ei_ald elay false 6, 0, 0)) (e_L 6 (0, ei_un (fun x => (4, x)) 7, 0, 0))) (e_T 7 (e_L 7 (0, ei_push (0, 20) 9, 0, 0)) (e_L 9 (0, ei_shL (eSh (fun x y => x <<< (y.toInt64 &&& 63))) 10, 0, 0))))) (e_T 15 (e_T 11 (e_T 10 (e_L 10 (0, ei_stor 1 1 11, 0, 0)) (e_L 11 (0, ei_load 0 2 12, 0, 0))) (e_T 12 (e_L 12 (0, ei_getf eft elay 0 2 15, 0, 0)) (e_L 15 (0, ei_push (0, 0) 16, 0, 0)))) (e_T 17 (e_T 16 (e_L 16 (0, ei_ald elay false 17, 0, 0)) (e_L 17 (0, ei_un (fun x => (4, x)) 18, 0, 0))) (e_T 18 (e_L 18 (0, ei_push (0, 20) 20, 0, 0)) (e_L 20 (0, ei_shL (eSh (fun x y => x <<< (y.toInt64 &&& 63))) 21, 0, 0)))))) (e_T 31 (e_T 23 (e_T 21 (e_L 21 (0, ei_stor 3 1 22, 0, 0)) (e_T 22 (e_L 22 (0, ei_load 0 2 23, 0, 0)) (e_L 23 (0, ei_getf eft elay 0 9 26, 0, 0)))) (e_T 28 (e_T 26 (e_L 26 (0, ei_stor 5 0 28, 0, 0)) (e_L 28 (0, ei_push (0, 0) 29, 0, 0))) (e_T 29 (e_L 29 (0, ei_stor 6 0 31, 0, 0)) (e_L 31 (0, ei_load 6 0 33, 0, 0))))) (e_T 40 (e_T 34 (e_T 33 (e_L 33 (0, ei_load 0 2 34, 0, 0)) (e_L 34 (0, ei_getf eft elay 0 8 37, 0, 0))) (e_T 37 (e_L 37 (0, ei_if2 3 166 40, 0, 0)) (e_L 40 (0, ei_load 0 2 41, 0, 0)))) (e_T 44 (e_T 41 (e_L 41 (0, ei_getf eft elay 0 0 44, 0, 0)) (e_L 44 (0, ei_load 6 0 46, 0, 0))) (e_T 46 (e_L 46 (0, ei_aald elay 47, 0, 0)) (e_L 47 (0, ei_getf eft elay 5 3 50, 0, 0)))))))
set_option maxRecDepth 20000 in
set_option maxHeartbeats 4000000 in
theorem te_10_0_ok : ∀ pc, e_EOq eft cls elay eI n_10 pc (te_10_0 pc) :=
  (e_Tok2
  (e_Tok2
  (e_Tok2
  (e_Tok2
  (e_Lok (ld_aload_n_0 (x_dk dn_10_0_0_ok 0 rfl)))
  (e_Tok2
  (e_Lok (lk_0_17g ho_10 (x_dk dn_10_0_0_ok 1 rfl)))
  (e_Lok (ps_iconst_0 (x_dk dn_10_0_0_ok 2 rfl)))))
  (e_Tok2
  (e_Tok2
  (e_Lok (sm_iaload (x_dk dn_10_0_0_ok 3 rfl)))
  (e_Lok (e_st (I := eI) (er_i2l (x_dk dn_10_0_0_ok 4 rfl)) (nx_un (fun _ => rfl)))))
  (e_Tok2
  (e_Lok (ps_bipush_20 (x_dk dn_10_0_0_ok 5 rfl)))
  (e_Lok (e_st (I := eI) (er_lshl (x_dk dn_10_0_0_ok 6 rfl)) nx_shL)))))
  (e_Tok2
  (e_Tok2
  (e_Tok2
  (e_Lok (e_st (I := eI) (er_lstore_n (i := 1) (x_dk dn_10_0_0_ok 7 rfl) (by decide +kernel)) nx_stor))
  (e_Lok (ld_aload_n_0 (x_dk dn_10_0_0_ok 8 rfl))))
  (e_Tok2
  (e_Lok (lk_0_21g ho_10 (x_dk dn_10_0_0_ok 9 rfl)))
  (e_Lok (ps_iconst_0 (x_dk dn_10_0_0_ok 10 rfl)))))
  (e_Tok2
  (e_Tok2
  (e_Lok (sm_iaload (x_dk dn_10_0_0_ok 11 rfl)))
  (e_Lok (e_st (I := eI) (er_i2l (x_dk dn_10_0_0_ok 12 rfl)) (nx_un (fun _ => rfl)))))
  (e_Tok2
  (e_Lok (ps_bipush_20 (x_dk dn_10_0_0_ok 13 rfl)))
  (e_Lok (e_st (I := eI) (er_lshl (x_dk dn_10_0_0_ok 14 rfl)) nx_shL))))))
  (e_Tok2
  (e_Tok2
  (e_Tok2
  (e_Lok (e_st (I := eI) (er_lstore_n (i := 3) (x_dk dn_10_0_0_ok 15 rfl) (by decide +kernel)) nx_stor))
  (e_Tok2
  (e_Lok (ld_aload_n_0 (x_dk dn_10_0_0_ok 16 rfl)))
  (e_Lok (lk_0_48g ho_10 (x_dk dn_10_0_0_ok 17 rfl)))))
  (e_Tok2
  (e_Tok2
  (e_Lok (e_st (I := eI) (er_istore (i := 5) (x_dk dn_10_0_0_ok 18 rfl) (by decide +kernel)) nx_stor))
  (e_Lok (ps_iconst_0 (x_dk dn_10_0_0_ok 19 rfl))))
  (e_Tok2
  (e_Lok (e_st (I := eI) (er_istore (i := 6) (x_dk dn_10_0_0_ok 20 rfl) (by decide +kernel)) nx_stor))
  (e_Lok (ld_iload_6 (x_dk dn_10_0_0_ok 21 rfl))))))
  (e_Tok2
  (e_Tok2
  (e_Tok2
  (e_Lok (ld_aload_n_0 (x_dk dn_10_0_0_ok 22 rfl)))
  (e_Lok (lk_0_44g ho_10 (x_dk dn_10_0_0_ok 23 rfl))))
  (e_Tok2
  (e_Lok (e_st (I := eI) (er_icmpge (off := 129) (tg := 166) (x_dk dn_10_0_0_ok 24 rfl) (by decide)) nx_if2))
  (e_Lok (ld_aload_n_0 (x_dk dn_10_0_1_ok 0 rfl)))))
  (e_Tok2
  (e_Tok2
  (e_Lok (lk_0_11g ho_10 (x_dk dn_10_0_1_ok 1 rfl)))
  (e_Lok (ld_iload_6 (x_dk dn_10_0_1_ok 2 rfl))))
  (e_Tok2
  (e_Lok (e_st (I := eI) (er_aaload (x_dk dn_10_0_1_ok 3 rfl)) nx_aald))
  (e_Lok (lk_0_75g ho_10 (x_dk dn_10_0_1_ok 4 rfl))))))))
def te_10_30 : Nat → eE := (e_T 78 (e_T 62 (e_T 53 (e_T 50 (e_L 50 (0, ei_stor 7 0 52, 0, 0)) (e_T 52 (e_L 52 (0, ei_load 0 2 53, 0, 0)) (e_L 53 (0, ei_getf eft elay 0 0 56, 0, 0)))) (e_T 58 (e_T 56 (e_L 56 (0, ei_load 6 0 58, 0, 0)) (e_L 58 (0, ei_aald elay 59, 0, 0))) (e_T 59 (e_L 59 (0, ei_getf eft elay 5 0 62, 0, 0)) (e_L 62 (0, ei_if1 1 83 65, 0, 0))))) (e_T 71 (e_T 67 (e_T 65 (e_L 65 (0, ei_load 5 0 67, 0, 0)) (e_L 67 (0, ei_load 0 2 68, 0, 0))) (e_T 68 (e_L 68 (0, ei_getf eft elay 0 0 71, 0, 0)) (e_L 71 (0, ei_load 6 0 73, 0, 0)))) (e_T 74 (e_T 73 (e_L 73 (0, ei_aald elay 74, 0, 0)) (e_L 74 (0, ei_getf eft elay 5 7 77, 0, 0))) (e_T 77 (e_L 77 (0, ei_bin eF_add 78, 0, 0)) (e_L 78 (0, ei_stor 5 0 80, 0, 0)))))) (e_T 95 (e_T 86 (e_T 83 (e_T 80 (e_L 80 (0, ei_goto 98, 0, 0)) (e_L 83 (0, ei_load 7 0 85, 0, 0))) (e_T 85 (e_L 85 (0, ei_load 0 2 86, 0, 0)) (e_L 86 (0, ei_getf eft elay 0 0 89, 0, 0)))) (e_T 91 (e_T 89 (e_L 89 (0, ei_load 6 0 91, 0, 0)) (e_L 91 (0, ei_aald elay 92, 0, 0))) (e_T 92 (e_L 92 (0, ei_getf eft elay 5 7 95, 0, 0)) (e_L 95 (0, ei_bin eF_add 96, 0, 0))))) (e_T 101 (e_T 98 (e_T 96 (e_L 96 (0, ei_stor 7 0 98, 0, 0)) (e_L 98 (0, ei_load 1 1 99, 0, 0))) (e_T 99 (e_L 99 (0, ei_load 7 0 101, 0, 0)) (e_L 101 (0, ei_un (fun x => (4, x)) 102, 0, 0)))) (e_T 104 (e_T 102 (e_L 102 (0, ei_load 5 0 104, 0, 0)) (e_L 104 (2, e_nof, 250, 1))) (e_T 107 (e_L 107 (0, ei_un (fun x => (4, x)) 108, 0, 0)) (e_L 108 (0, ei_binL eG_mul 109, 0, 0)))))))
set_option maxRecDepth 20000 in
set_option maxHeartbeats 4000000 in
theorem te_10_30_ok : ∀ pc, e_EOq eft cls elay eI n_10 pc (te_10_30 pc) :=
  (e_Tok2
  (e_Tok2
  (e_Tok2
  (e_Tok2
  (e_Lok (e_st (I := eI) (er_istore (i := 7) (x_dk dn_10_0_1_ok 5 rfl) (by decide +kernel)) nx_stor))
  (e_Tok2
  (e_Lok (ld_aload_n_0 (x_dk dn_10_0_1_ok 6 rfl)))
  (e_Lok (lk_0_11g ho_10 (x_dk dn_10_0_1_ok 7 rfl)))))
  (e_Tok2
  (e_Tok2
  (e_Lok (ld_iload_6 (x_dk dn_10_0_1_ok 8 rfl)))
  (e_Lok (e_st (I := eI) (er_aaload (x_dk dn_10_0_1_ok 9 rfl)) nx_aald)))
  (e_Tok2
  (e_Lok (lk_0_66g ho_10 (x_dk dn_10_0_1_ok 10 rfl)))
  (e_Lok (e_st (I := eI) (er_ifne (off := 21) (tg := 83) (x_dk dn_10_0_1_ok 11 rfl) (by decide)) nx_if1)))))
  (e_Tok2
  (e_Tok2
  (e_Tok2
  (e_Lok (ld_iload_5 (x_dk dn_10_0_1_ok 12 rfl)))
  (e_Lok (ld_aload_n_0 (x_dk dn_10_0_1_ok 13 rfl))))
  (e_Tok2
  (e_Lok (lk_0_11g ho_10 (x_dk dn_10_0_1_ok 14 rfl)))
  (e_Lok (ld_iload_6 (x_dk dn_10_0_1_ok 15 rfl)))))
  (e_Tok2
  (e_Tok2
  (e_Lok (e_st (I := eI) (er_aaload (x_dk dn_10_0_1_ok 16 rfl)) nx_aald))
  (e_Lok (lk_0_90g ho_10 (x_dk dn_10_0_1_ok 17 rfl))))
  (e_Tok2
  (e_Lok (sm_iadd (x_dk dn_10_0_1_ok 18 rfl)))
  (e_Lok (e_st (I := eI) (er_istore (i := 5) (x_dk dn_10_0_1_ok 19 rfl) (by decide +kernel)) nx_stor))))))
  (e_Tok2
  (e_Tok2
  (e_Tok2
  (e_Tok2
  (e_Lok (e_st (I := eI) (er_goto (off := 18) (tg := 98) (x_dk dn_10_0_1_ok 20 rfl) (by decide)) nx_goto))
  (e_Lok (ld_iload_7 (x_dk dn_10_0_1_ok 21 rfl))))
  (e_Tok2
  (e_Lok (ld_aload_n_0 (x_dk dn_10_0_1_ok 22 rfl)))
  (e_Lok (lk_0_11g ho_10 (x_dk dn_10_0_1_ok 23 rfl)))))
  (e_Tok2
  (e_Tok2
  (e_Lok (ld_iload_6 (x_dk dn_10_0_1_ok 24 rfl)))
  (e_Lok (e_st (I := eI) (er_aaload (x_dk dn_10_0_2_ok 0 rfl)) nx_aald)))
  (e_Tok2
  (e_Lok (lk_0_90g ho_10 (x_dk dn_10_0_2_ok 1 rfl)))
  (e_Lok (sm_iadd (x_dk dn_10_0_2_ok 2 rfl))))))
  (e_Tok2
  (e_Tok2
  (e_Tok2
  (e_Lok (e_st (I := eI) (er_istore (i := 7) (x_dk dn_10_0_2_ok 3 rfl) (by decide +kernel)) nx_stor))
  (e_Lok (ld_lload_n_1 (x_dk dn_10_0_2_ok 4 rfl))))
  (e_Tok2
  (e_Lok (ld_iload_7 (x_dk dn_10_0_2_ok 5 rfl)))
  (e_Lok (e_st (I := eI) (er_i2l (x_dk dn_10_0_2_ok 6 rfl)) (nx_un (fun _ => rfl))))))
  (e_Tok2
  (e_Tok2
  (e_Lok (ld_iload_5 (x_dk dn_10_0_2_ok 7 rfl)))
  (e_Lok (lk_0_117 ho_10 (x_dk dn_10_0_2_ok 8 rfl))))
  (e_Tok2
  (e_Lok (e_st (I := eI) (er_i2l (x_dk dn_10_0_2_ok 9 rfl)) (nx_un (fun _ => rfl))))
  (e_Lok (e_st (I := eI) (er_lmul (x_dk dn_10_0_2_ok 10 rfl)) (nx_binL bG_lmul))))))))
def te_10_61 : Nat → eE := (e_T 130 (e_T 117 (e_T 111 (e_T 109 (e_L 109 (0, ei_binL eG_add 110, 0, 0)) (e_T 110 (e_L 110 (0, ei_stor 1 1 111, 0, 0)) (e_L 111 (0, ei_load 3 1 112, 0, 0)))) (e_T 114 (e_T 112 (e_L 112 (0, ei_load 7 0 114, 0, 0)) (e_L 114 (0, ei_un (fun x => (4, x)) 115, 0, 0))) (e_T 115 (e_L 115 (0, ei_load 5 0 117, 0, 0)) (e_L 117 (2, e_nof, 249, 1))))) (e_T 123 (e_T 121 (e_T 120 (e_L 120 (0, ei_un (fun x => (4, x)) 121, 0, 0)) (e_L 121 (0, ei_binL eG_mul 122, 0, 0))) (e_T 122 (e_L 122 (0, ei_binL eG_add 123, 0, 0)) (e_L 123 (0, ei_stor 3 1 124, 0, 0)))) (e_T 125 (e_T 124 (e_L 124 (0, ei_load 0 2 125, 0, 0)) (e_L 125 (0, ei_getf eft elay 0 1 128, 0, 0))) (e_T 128 (e_L 128 (0, ei_load 6 0 130, 0, 0)) (e_L 130 (0, ei_push (0, 1) 131, 0, 0)))))) (e_T 141 (e_T 136 (e_T 132 (e_T 131 (e_L 131 (0, ei_bin eF_add 132, 0, 0)) (e_L 132 (0, ei_load 1 1 133, 0, 0))) (e_T 133 (e_L 133 (0, ei_push (4, 524288) 136, 0, 0)) (e_L 136 (0, ei_binL eG_add 137, 0, 0)))) (e_T 139 (e_T 137 (e_L 137 (0, ei_push (0, 20) 139, 0, 0)) (e_L 139 (0, ei_shL (eSh (fun x y => x >>> (y.toInt64 &&& 63))) 140, 0, 0))) (e_T 140 (e_L 140 (0, ei_unL (fun x => (0, e32 x)) 141, 0, 0)) (e_L 141 (0, ei_ast elay false 142, 0, 0))))) (e_T 148 (e_T 143 (e_T 142 (e_L 142 (0, ei_load 0 2 143, 0, 0)) (e_L 143 (0, ei_getf eft elay 0 2 146, 0, 0))) (e_T 146 (e_L 146 (0, ei_load 6 0 148, 0, 0)) (e_L 148 (0, ei_push (0, 1) 149, 0, 0)))) (e_T 150 (e_T 149 (e_L 149 (0, ei_bin eF_add 150, 0, 0)) (e_L 150 (0, ei_load 3 1 151, 0, 0))) (e_T 151 (e_L 151 (0, ei_push (4, 524288) 154, 0, 0)) (e_L 154 (0, ei_binL eG_add 155, 0, 0)))))))
set_option maxRecDepth 20000 in
set_option maxHeartbeats 4000000 in
theorem te_10_61_ok : ∀ pc, e_EOq eft cls elay eI n_10 pc (te_10_61 pc) :=
  (e_Tok2
  (e_Tok2
  (e_Tok2
  (e_Tok2
  (e_Lok (e_st (I := eI) (er_ladd (x_dk dn_10_0_2_ok 11 rfl)) (nx_binL bG_ladd)))
  (e_Tok2
  (e_Lok (e_st (I := eI) (er_lstore_n (i := 1) (x_dk dn_10_0_2_ok 12 rfl) (by decide +kernel)) nx_stor))
  (e_Lok (ld_lload_n_3 (x_dk dn_10_0_2_ok 13 rfl)))))
  (e_Tok2
  (e_Tok2
  (e_Lok (ld_iload_7 (x_dk dn_10_0_2_ok 14 rfl)))
  (e_Lok (e_st (I := eI) (er_i2l (x_dk dn_10_0_2_ok 15 rfl)) (nx_un (fun _ => rfl)))))
  (e_Tok2
  (e_Lok (ld_iload_5 (x_dk dn_10_0_2_ok 16 rfl)))
  (e_Lok (lk_0_121 ho_10 (x_dk dn_10_0_2_ok 17 rfl))))))
  (e_Tok2
  (e_Tok2
  (e_Tok2
  (e_Lok (e_st (I := eI) (er_i2l (x_dk dn_10_0_2_ok 18 rfl)) (nx_un (fun _ => rfl))))
  (e_Lok (e_st (I := eI) (er_lmul (x_dk dn_10_0_2_ok 19 rfl)) (nx_binL bG_lmul))))
  (e_Tok2
  (e_Lok (e_st (I := eI) (er_ladd (x_dk dn_10_0_2_ok 20 rfl)) (nx_binL bG_ladd)))
  (e_Lok (e_st (I := eI) (er_lstore_n (i := 3) (x_dk dn_10_0_2_ok 21 rfl) (by decide +kernel)) nx_stor))))
  (e_Tok2
  (e_Tok2
  (e_Lok (ld_aload_n_0 (x_dk dn_10_0_2_ok 22 rfl)))
  (e_Lok (lk_0_17g ho_10 (x_dk dn_10_0_2_ok 23 rfl))))
  (e_Tok2
  (e_Lok (ld_iload_6 (x_dk dn_10_0_2_ok 24 rfl)))
  (e_Lok (ps_iconst_1 (x_dk dn_10_0_3_ok 0 rfl)))))))
  (e_Tok2
  (e_Tok2
  (e_Tok2
  (e_Tok2
  (e_Lok (sm_iadd (x_dk dn_10_0_3_ok 1 rfl)))
  (e_Lok (ld_lload_n_1 (x_dk dn_10_0_3_ok 2 rfl))))
  (e_Tok2
  (e_Lok (e_st (I := eI) (er_ldc2 (ix := 124) (z := 524288) (v := 524288) (x_dk dn_10_0_3_ok 3 rfl) (in_t4 (List.mem_of_getElem? (i := 35) rfl) rfl) (by decide)) (nx_push (Or.inl rfl))))
  (e_Lok (e_st (I := eI) (er_ladd (x_dk dn_10_0_3_ok 4 rfl)) (nx_binL bG_ladd)))))
  (e_Tok2
  (e_Tok2
  (e_Lok (ps_bipush_20 (x_dk dn_10_0_3_ok 5 rfl)))
  (e_Lok (e_st (I := eI) (er_lshr (x_dk dn_10_0_3_ok 6 rfl)) nx_shL)))
  (e_Tok2
  (e_Lok (e_st (I := eI) (er_l2i (x_dk dn_10_0_3_ok 7 rfl)) (nx_unL (fun _ => rfl))))
  (e_Lok (sm_iastore (x_dk dn_10_0_3_ok 8 rfl))))))
  (e_Tok2
  (e_Tok2
  (e_Tok2
  (e_Lok (ld_aload_n_0 (x_dk dn_10_0_3_ok 9 rfl)))
  (e_Lok (lk_0_21g ho_10 (x_dk dn_10_0_3_ok 10 rfl))))
  (e_Tok2
  (e_Lok (ld_iload_6 (x_dk dn_10_0_3_ok 11 rfl)))
  (e_Lok (ps_iconst_1 (x_dk dn_10_0_3_ok 12 rfl)))))
  (e_Tok2
  (e_Tok2
  (e_Lok (sm_iadd (x_dk dn_10_0_3_ok 13 rfl)))
  (e_Lok (ld_lload_n_3 (x_dk dn_10_0_3_ok 14 rfl))))
  (e_Tok2
  (e_Lok (e_st (I := eI) (er_ldc2 (ix := 124) (z := 524288) (v := 524288) (x_dk dn_10_0_3_ok 15 rfl) (in_t4 (List.mem_of_getElem? (i := 35) rfl) rfl) (by decide)) (nx_push (Or.inl rfl))))
  (e_Lok (e_st (I := eI) (er_ladd (x_dk dn_10_0_3_ok 16 rfl)) (nx_binL bG_ladd))))))))
def te_10_92 : Nat → eE := (e_T 180 (e_T 166 (e_T 158 (e_T 155 (e_L 155 (0, ei_push (0, 20) 157, 0, 0)) (e_T 157 (e_L 157 (0, ei_shL (eSh (fun x y => x >>> (y.toInt64 &&& 63))) 158, 0, 0)) (e_L 158 (0, ei_unL (fun x => (0, e32 x)) 159, 0, 0)))) (e_T 160 (e_T 159 (e_L 159 (0, ei_ast elay false 160, 0, 0)) (e_L 160 (0, ei_inc 6 1 163, 0, 0))) (e_T 163 (e_L 163 (0, ei_goto 31, 0, 0)) (e_L 166 (0, ei_load 0 2 167, 0, 0))))) (e_T 174 (e_T 170 (e_T 167 (e_L 167 (0, ei_getf eft elay 0 1 170, 0, 0)) (e_L 170 (0, ei_load 0 2 171, 0, 0))) (e_T 171 (e_L 171 (0, ei_getf eft elay 0 8 174, 0, 0)) (e_L 174 (0, ei_push (0, 1) 175, 0, 0)))) (e_T 176 (e_T 175 (e_L 175 (0, ei_bin eF_add 176, 0, 0)) (e_L 176 (0, ei_load 0 2 177, 0, 0))) (e_T 177 (e_L 177 (0, ei_getf eft elay 0 1 180, 0, 0)) (e_L 180 (0, ei_load 0 2 181, 0, 0)))))) (e_T 194 (e_T 186 (e_T 184 (e_T 181 (e_L 181 (0, ei_getf eft elay 0 8 184, 0, 0)) (e_L 184 (0, ei_ald elay false 185, 0, 0))) (e_T 185 (e_L 185 (0, ei_ast elay false 186, 0, 0)) (e_L 186 (0, ei_load 0 2 187, 0, 0)))) (e_T 190 (e_T 187 (e_L 187 (0, ei_getf eft elay 0 2 190, 0, 0)) (e_L 190 (0, ei_load 0 2 191, 0, 0))) (e_T 191 (e_L 191 (0, ei_getf eft elay 0 8 194, 0, 0)) (e_L 194 (0, ei_push (0, 1) 195, 0, 0))))) (e_T 200 (e_T 196 (e_T 195 (e_L 195 (0, ei_bin eF_add 196, 0, 0)) (e_L 196 (0, ei_load 0 2 197, 0, 0))) (e_T 197 (e_L 197 (0, ei_getf eft elay 0 2 200, 0, 0)) (e_L 200 (0, ei_load 0 2 201, 0, 0)))) (e_T 204 (e_T 201 (e_L 201 (0, ei_getf eft elay 0 8 204, 0, 0)) (e_L 204 (0, ei_ald elay false 205, 0, 0))) (e_T 205 (e_L 205 (0, ei_ast elay false 206, 0, 0)) (e_L 206 (1, e_nof, 0, 0)))))))
set_option maxRecDepth 20000 in
set_option maxHeartbeats 4000000 in
theorem te_10_92_ok : ∀ pc, e_EOq eft cls elay eI n_10 pc (te_10_92 pc) :=
  (e_Tok2
  (e_Tok2
  (e_Tok2
  (e_Tok2
  (e_Lok (ps_bipush_20 (x_dk dn_10_0_3_ok 17 rfl)))
  (e_Tok2
  (e_Lok (e_st (I := eI) (er_lshr (x_dk dn_10_0_3_ok 18 rfl)) nx_shL))
  (e_Lok (e_st (I := eI) (er_l2i (x_dk dn_10_0_3_ok 19 rfl)) (nx_unL (fun _ => rfl))))))
  (e_Tok2
  (e_Tok2
  (e_Lok (sm_iastore (x_dk dn_10_0_3_ok 20 rfl)))
  (e_Lok (e_st (I := eI) (er_iinc (i := 6) (n := 1) (x_dk dn_10_0_3_ok 21 rfl) (by decide +kernel) (by decide)) nx_inc)))
  (e_Tok2
  (e_Lok (e_st (I := eI) (er_goto (off := (-132)) (tg := 31) (x_dk dn_10_0_3_ok 22 rfl) (by decide)) nx_goto))
  (e_Lok (ld_aload_n_0 (x_dk dn_10_0_3_ok 23 rfl))))))
  (e_Tok2
  (e_Tok2
  (e_Tok2
  (e_Lok (lk_0_17g ho_10 (x_dk dn_10_0_3_ok 24 rfl)))
  (e_Lok (ld_aload_n_0 (x_dk dn_10_1_0_ok 0 rfl))))
  (e_Tok2
  (e_Lok (lk_0_44g ho_10 (x_dk dn_10_1_0_ok 1 rfl)))
  (e_Lok (ps_iconst_1 (x_dk dn_10_1_0_ok 2 rfl)))))
  (e_Tok2
  (e_Tok2
  (e_Lok (sm_iadd (x_dk dn_10_1_0_ok 3 rfl)))
  (e_Lok (ld_aload_n_0 (x_dk dn_10_1_0_ok 4 rfl))))
  (e_Tok2
  (e_Lok (lk_0_17g ho_10 (x_dk dn_10_1_0_ok 5 rfl)))
  (e_Lok (ld_aload_n_0 (x_dk dn_10_1_0_ok 6 rfl)))))))
  (e_Tok2
  (e_Tok2
  (e_Tok2
  (e_Tok2
  (e_Lok (lk_0_44g ho_10 (x_dk dn_10_1_0_ok 7 rfl)))
  (e_Lok (sm_iaload (x_dk dn_10_1_0_ok 8 rfl))))
  (e_Tok2
  (e_Lok (sm_iastore (x_dk dn_10_1_0_ok 9 rfl)))
  (e_Lok (ld_aload_n_0 (x_dk dn_10_1_0_ok 10 rfl)))))
  (e_Tok2
  (e_Tok2
  (e_Lok (lk_0_21g ho_10 (x_dk dn_10_1_0_ok 11 rfl)))
  (e_Lok (ld_aload_n_0 (x_dk dn_10_1_0_ok 12 rfl))))
  (e_Tok2
  (e_Lok (lk_0_44g ho_10 (x_dk dn_10_1_0_ok 13 rfl)))
  (e_Lok (ps_iconst_1 (x_dk dn_10_1_0_ok 14 rfl))))))
  (e_Tok2
  (e_Tok2
  (e_Tok2
  (e_Lok (sm_iadd (x_dk dn_10_1_0_ok 15 rfl)))
  (e_Lok (ld_aload_n_0 (x_dk dn_10_1_0_ok 16 rfl))))
  (e_Tok2
  (e_Lok (lk_0_21g ho_10 (x_dk dn_10_1_0_ok 17 rfl)))
  (e_Lok (ld_aload_n_0 (x_dk dn_10_1_0_ok 18 rfl)))))
  (e_Tok2
  (e_Tok2
  (e_Lok (lk_0_44g ho_10 (x_dk dn_10_1_0_ok 19 rfl)))
  (e_Lok (sm_iaload (x_dk dn_10_1_0_ok 20 rfl))))
  (e_Tok2
  (e_Lok (sm_iastore (x_dk dn_10_1_0_ok 21 rfl)))
  (e_Lok (e_rt (I := eI) (k := 0) ⟨(x_dk dn_10_1_0_ok 22 rfl), rfl⟩)))))))
def te_10 : Nat → eE := (e_T 108 (e_T 47 te_10_0 te_10_30) (e_T 154 te_10_61 te_10_92))
theorem te_10_ok : ∀ pc, e_EOq eft cls elay eI n_10 pc (te_10 pc) := (e_Tok2 ((e_Tok2 (te_10_0_ok) (te_10_30_ok))) ((e_Tok2 (te_10_61_ok) (te_10_92_ok))))
theorem ho_11 : (xm_y n_11).cls = "RobotCellHouse$Arm" := rfl
def dn_11_0_0 : List (Nat × Instr × Nat) := [(0, .iconst 0, 1), (1, .istore_n 1, 1), (2, .iload_n 1, 1), (3, .aload_n 0, 1), (4, .getfield 44, 3), (7, .if_icmp .gt 33, 3), (10, .aload_n 0, 1), (11, .getfield 24, 3), (14, .iload_n 1, 1), (15, .aload_n 0, 1), (16, .getfield 17, 3), (19, .iload_n 1, 1), (20, .iaload, 1), (21, .iastore, 1), (22, .aload_n 0, 1), (23, .getfield 27, 3), (26, .iload_n 1, 1), (27, .aload_n 0, 1), (28, .getfield 21, 3), (31, .iload_n 1, 1), (32, .iaload, 1), (33, .iastore, 1), (34, .iinc 1 1, 3), (37, .goto (-35), 3), (40, .return_, 1)]
set_option maxRecDepth 20000 in
theorem dn_11_0_0_ok : dn_11_0_0.all (fun q => decide (decode (xm_b n_11) q.1 = .ok (q.2.1, q.2.2))) = true := xa_g_ok (by decide +kernel)
def te_11_0 : Nat → eE := (e_T 19 (e_T 7 (e_T 2 (e_T 0 (e_L 0 (0, ei_push (0, 0) 1, 0, 0)) (e_T 1 (e_L 1 (0, ei_stor 1 0 2, 0, 0)) (e_L 2 (0, ei_load 1 0 3, 0, 0)))) (e_T 3 (e_L 3 (0, ei_load 0 2 4, 0, 0)) (e_T 4 (e_L 4 (0, ei_getf eft elay 0 8 7, 0, 0)) (e_L 7 (0, ei_if2 4 40 10, 0, 0))))) (e_T 14 (e_T 10 (e_L 10 (0, ei_load 0 2 11, 0, 0)) (e_T 11 (e_L 11 (0, ei_getf eft elay 0 3 14, 0, 0)) (e_L 14 (0, ei_load 1 0 15, 0, 0)))) (e_T 15 (e_L 15 (0, ei_load 0 2 16, 0, 0)) (e_T 16 (e_L 16 (0, ei_getf eft elay 0 1 19, 0, 0)) (e_L 19 (0, ei_load 1 0 20, 0, 0)))))) (e_T 27 (e_T 22 (e_T 20 (e_L 20 (0, ei_ald elay false 21, 0, 0)) (e_T 21 (e_L 21 (0, ei_ast elay false 22, 0, 0)) (e_L 22 (0, ei_load 0 2 23, 0, 0)))) (e_T 23 (e_L 23 (0, ei_getf eft elay 0 4 26, 0, 0)) (e_T 26 (e_L 26 (0, ei_load 1 0 27, 0, 0)) (e_L 27 (0, ei_load 0 2 28, 0, 0))))) (e_T 32 (e_T 28 (e_L 28 (0, ei_getf eft elay 0 2 31, 0, 0)) (e_T 31 (e_L 31 (0, ei_load 1 0 32, 0, 0)) (e_L 32 (0, ei_ald elay false 33, 0, 0)))) (e_T 34 (e_T 33 (e_L 33 (0, ei_ast elay false 34, 0, 0)) (e_L 34 (0, ei_inc 1 1 37, 0, 0))) (e_T 37 (e_L 37 (0, ei_goto 2, 0, 0)) (e_L 40 (1, e_nof, 0, 0)))))))
set_option maxRecDepth 20000 in
set_option maxHeartbeats 4000000 in
theorem te_11_0_ok : ∀ pc, e_EOq eft cls elay eI n_11 pc (te_11_0 pc) :=
  (e_Tok2
  (e_Tok2
  (e_Tok2
  (e_Tok2
  (e_Lok (ps_iconst_0 (x_dk dn_11_0_0_ok 0 rfl)))
  (e_Tok2
  (e_Lok (e_st (I := eI) (er_istore_n (i := 1) (x_dk dn_11_0_0_ok 1 rfl) (by decide +kernel)) nx_stor))
  (e_Lok (ld_iload_n_1 (x_dk dn_11_0_0_ok 2 rfl)))))
  (e_Tok2
  (e_Lok (ld_aload_n_0 (x_dk dn_11_0_0_ok 3 rfl)))
  (e_Tok2
  (e_Lok (lk_0_44g ho_11 (x_dk dn_11_0_0_ok 4 rfl)))
  (e_Lok (e_st (I := eI) (er_icmpgt (off := 33) (tg := 40) (x_dk dn_11_0_0_ok 5 rfl) (by decide)) nx_if2)))))
  (e_Tok2
  (e_Tok2
  (e_Lok (ld_aload_n_0 (x_dk dn_11_0_0_ok 6 rfl)))
  (e_Tok2
  (e_Lok (lk_0_24g ho_11 (x_dk dn_11_0_0_ok 7 rfl)))
  (e_Lok (ld_iload_n_1 (x_dk dn_11_0_0_ok 8 rfl)))))
  (e_Tok2
  (e_Lok (ld_aload_n_0 (x_dk dn_11_0_0_ok 9 rfl)))
  (e_Tok2
  (e_Lok (lk_0_17g ho_11 (x_dk dn_11_0_0_ok 10 rfl)))
  (e_Lok (ld_iload_n_1 (x_dk dn_11_0_0_ok 11 rfl)))))))
  (e_Tok2
  (e_Tok2
  (e_Tok2
  (e_Lok (sm_iaload (x_dk dn_11_0_0_ok 12 rfl)))
  (e_Tok2
  (e_Lok (sm_iastore (x_dk dn_11_0_0_ok 13 rfl)))
  (e_Lok (ld_aload_n_0 (x_dk dn_11_0_0_ok 14 rfl)))))
  (e_Tok2
  (e_Lok (lk_0_27g ho_11 (x_dk dn_11_0_0_ok 15 rfl)))
  (e_Tok2
  (e_Lok (ld_iload_n_1 (x_dk dn_11_0_0_ok 16 rfl)))
  (e_Lok (ld_aload_n_0 (x_dk dn_11_0_0_ok 17 rfl))))))
  (e_Tok2
  (e_Tok2
  (e_Lok (lk_0_21g ho_11 (x_dk dn_11_0_0_ok 18 rfl)))
  (e_Tok2
  (e_Lok (ld_iload_n_1 (x_dk dn_11_0_0_ok 19 rfl)))
  (e_Lok (sm_iaload (x_dk dn_11_0_0_ok 20 rfl)))))
  (e_Tok2
  (e_Tok2
  (e_Lok (sm_iastore (x_dk dn_11_0_0_ok 21 rfl)))
  (e_Lok (e_st (I := eI) (er_iinc (i := 1) (n := 1) (x_dk dn_11_0_0_ok 22 rfl) (by decide +kernel) (by decide)) nx_inc)))
  (e_Tok2
  (e_Lok (e_st (I := eI) (er_goto (off := (-35)) (tg := 2) (x_dk dn_11_0_0_ok 23 rfl) (by decide)) nx_goto))
  (e_Lok (e_rt (I := eI) (k := 0) ⟨(x_dk dn_11_0_0_ok 24 rfl), rfl⟩)))))))
def te_11 : Nat → eE := te_11_0
theorem te_11_ok : ∀ pc, e_EOq eft cls elay eI n_11 pc (te_11 pc) := te_11_0_ok
theorem ho_12 : (xm_y n_12).cls = "RobotCellHouse$Arm" := rfl
def dn_12_0_0 : List (Nat × Instr × Nat) := [(0, .iconst 0, 1), (1, .istore_n 1, 1), (2, .iload_n 1, 1), (3, .aload_n 0, 1), (4, .getfield 44, 3), (7, .if_icmp .ge 27, 3), (10, .aload_n 0, 1), (11, .getfield 11, 3), (14, .iload_n 1, 1), (15, .aaload, 1), (16, .aload_n 0, 1), (17, .getfield 11, 3), (20, .iload_n 1, 1), (21, .aaload, 1), (22, .getfield 126, 3), (25, .putfield 129, 3), (28, .iinc 1 1, 3), (31, .goto (-29), 3), (34, .return_, 1)]
set_option maxRecDepth 20000 in
theorem dn_12_0_0_ok : dn_12_0_0.all (fun q => decide (decode (xm_b n_12) q.1 = .ok (q.2.1, q.2.2))) = true := xa_g_ok (by decide +kernel)
def te_12_0 : Nat → eE := (e_T 14 (e_T 3 (e_T 1 (e_T 0 (e_L 0 (0, ei_push (0, 0) 1, 0, 0)) (e_L 1 (0, ei_stor 1 0 2, 0, 0))) (e_T 2 (e_L 2 (0, ei_load 1 0 3, 0, 0)) (e_L 3 (0, ei_load 0 2 4, 0, 0)))) (e_T 7 (e_T 4 (e_L 4 (0, ei_getf eft elay 0 8 7, 0, 0)) (e_L 7 (0, ei_if2 3 34 10, 0, 0))) (e_T 10 (e_L 10 (0, ei_load 0 2 11, 0, 0)) (e_T 11 (e_L 11 (0, ei_getf eft elay 0 0 14, 0, 0)) (e_L 14 (0, ei_load 1 0 15, 0, 0)))))) (e_T 21 (e_T 16 (e_T 15 (e_L 15 (0, ei_aald elay 16, 0, 0)) (e_L 16 (0, ei_load 0 2 17, 0, 0))) (e_T 17 (e_L 17 (0, ei_getf eft elay 0 0 20, 0, 0)) (e_T 20 (e_L 20 (0, ei_load 1 0 21, 0, 0)) (e_L 21 (0, ei_aald elay 22, 0, 0))))) (e_T 25 (e_T 22 (e_L 22 (0, ei_getf eft elay 5 8 25, 0, 0)) (e_L 25 (0, ei_putf eft elay 5 11 0 28, 0, 0))) (e_T 28 (e_L 28 (0, ei_inc 1 1 31, 0, 0)) (e_T 31 (e_L 31 (0, ei_goto 2, 0, 0)) (e_L 34 (1, e_nof, 0, 0)))))))
set_option maxRecDepth 20000 in
set_option maxHeartbeats 4000000 in
theorem te_12_0_ok : ∀ pc, e_EOq eft cls elay eI n_12 pc (te_12_0 pc) :=
  (e_Tok2
  (e_Tok2
  (e_Tok2
  (e_Tok2
  (e_Lok (ps_iconst_0 (x_dk dn_12_0_0_ok 0 rfl)))
  (e_Lok (e_st (I := eI) (er_istore_n (i := 1) (x_dk dn_12_0_0_ok 1 rfl) (by decide +kernel)) nx_stor)))
  (e_Tok2
  (e_Lok (ld_iload_n_1 (x_dk dn_12_0_0_ok 2 rfl)))
  (e_Lok (ld_aload_n_0 (x_dk dn_12_0_0_ok 3 rfl)))))
  (e_Tok2
  (e_Tok2
  (e_Lok (lk_0_44g ho_12 (x_dk dn_12_0_0_ok 4 rfl)))
  (e_Lok (e_st (I := eI) (er_icmpge (off := 27) (tg := 34) (x_dk dn_12_0_0_ok 5 rfl) (by decide)) nx_if2)))
  (e_Tok2
  (e_Lok (ld_aload_n_0 (x_dk dn_12_0_0_ok 6 rfl)))
  (e_Tok2
  (e_Lok (lk_0_11g ho_12 (x_dk dn_12_0_0_ok 7 rfl)))
  (e_Lok (ld_iload_n_1 (x_dk dn_12_0_0_ok 8 rfl)))))))
  (e_Tok2
  (e_Tok2
  (e_Tok2
  (e_Lok (e_st (I := eI) (er_aaload (x_dk dn_12_0_0_ok 9 rfl)) nx_aald))
  (e_Lok (ld_aload_n_0 (x_dk dn_12_0_0_ok 10 rfl))))
  (e_Tok2
  (e_Lok (lk_0_11g ho_12 (x_dk dn_12_0_0_ok 11 rfl)))
  (e_Tok2
  (e_Lok (ld_iload_n_1 (x_dk dn_12_0_0_ok 12 rfl)))
  (e_Lok (e_st (I := eI) (er_aaload (x_dk dn_12_0_0_ok 13 rfl)) nx_aald)))))
  (e_Tok2
  (e_Tok2
  (e_Lok (lk_0_126g ho_12 (x_dk dn_12_0_0_ok 14 rfl)))
  (e_Lok (lk_0_129p ho_12 (x_dk dn_12_0_0_ok 15 rfl))))
  (e_Tok2
  (e_Lok (e_st (I := eI) (er_iinc (i := 1) (n := 1) (x_dk dn_12_0_0_ok 16 rfl) (by decide +kernel) (by decide)) nx_inc))
  (e_Tok2
  (e_Lok (e_st (I := eI) (er_goto (off := (-29)) (tg := 2) (x_dk dn_12_0_0_ok 17 rfl) (by decide)) nx_goto))
  (e_Lok (e_rt (I := eI) (k := 0) ⟨(x_dk dn_12_0_0_ok 18 rfl), rfl⟩)))))))
def te_12 : Nat → eE := te_12_0
theorem te_12_ok : ∀ pc, e_EOq eft cls elay eI n_12 pc (te_12 pc) := te_12_0_ok
theorem ho_13 : (xm_y n_13).cls = "RobotCellHouse$Arm" := rfl
def dn_13_0_0 : List (Nat × Instr × Nat) := [(0, .aload_n 0, 1), (1, .iconst 1, 1), (2, .putfield 132, 3), (5, .aload_n 0, 1), (6, .iconst 0, 1), (7, .putfield 135, 3), (10, .aload_n 0, 1), (11, .iload_n 1, 1), (12, .putfield 138, 3), (15, .iconst 0, 1), (16, .istore_n 2, 1), (17, .iload_n 2, 1), (18, .aload_n 0, 1), (19, .getfield 44, 3), (22, .if_icmp .ge 27, 3), (25, .aload_n 0, 1), (26, .getfield 11, 3), (29, .iload_n 2, 1), (30, .aaload, 1), (31, .aload_n 0, 1), (32, .getfield 11, 3), (35, .iload_n 2, 1), (36, .aaload, 1), (37, .getfield 90, 3), (40, .putfield 141, 3)]
set_option maxRecDepth 20000 in
theorem dn_13_0_0_ok : dn_13_0_0.all (fun q => decide (decode (xm_b n_13) q.1 = .ok (q.2.1, q.2.2))) = true := xa_g_ok (by decide +kernel)
def dn_13_0_1 : List (Nat × Instr × Nat) := [(43, .iinc 2 1, 3), (46, .goto (-29), 3), (49, .return_, 1)]
set_option maxRecDepth 20000 in
theorem dn_13_0_1_ok : dn_13_0_1.all (fun q => decide (decode (xm_b n_13) q.1 = .ok (q.2.1, q.2.2))) = true := xa_g_ok (by decide +kernel)
def te_13_0 : Nat → eE := (e_T 19 (e_T 10 (e_T 2 (e_T 0 (e_L 0 (0, ei_load 0 2 1, 0, 0)) (e_T 1 (e_L 1 (0, ei_push (0, 1) 2, 0, 0)) (e_L 2 (0, ei_putf eft elay 0 11 0 5, 0, 0)))) (e_T 6 (e_T 5 (e_L 5 (0, ei_load 0 2 6, 0, 0)) (e_L 6 (0, ei_push (0, 0) 7, 0, 0))) (e_T 7 (e_L 7 (0, ei_putf eft elay 0 12 0 10, 0, 0)) (e_L 10 (0, ei_load 0 2 11, 0, 0))))) (e_T 15 (e_T 11 (e_L 11 (0, ei_load 1 0 12, 0, 0)) (e_T 12 (e_L 12 (0, ei_putf eft elay 0 13 0 15, 0, 0)) (e_L 15 (0, ei_push (0, 0) 16, 0, 0)))) (e_T 17 (e_T 16 (e_L 16 (0, ei_stor 2 0 17, 0, 0)) (e_L 17 (0, ei_load 2 0 18, 0, 0))) (e_T 18 (e_L 18 (0, ei_load 0 2 19, 0, 0)) (e_L 19 (0, ei_getf eft elay 0 8 22, 0, 0)))))) (e_T 32 (e_T 26 (e_T 22 (e_L 22 (0, ei_if2 3 49 25, 0, 0)) (e_T 25 (e_L 25 (0, ei_load 0 2 26, 0, 0)) (e_L 26 (0, ei_getf eft elay 0 0 29, 0, 0)))) (e_T 30 (e_T 29 (e_L 29 (0, ei_load 2 0 30, 0, 0)) (e_L 30 (0, ei_aald elay 31, 0, 0))) (e_T 31 (e_L 31 (0, ei_load 0 2 32, 0, 0)) (e_L 32 (0, ei_getf eft elay 0 0 35, 0, 0))))) (e_T 37 (e_T 35 (e_L 35 (0, ei_load 2 0 36, 0, 0)) (e_T 36 (e_L 36 (0, ei_aald elay 37, 0, 0)) (e_L 37 (0, ei_getf eft elay 5 7 40, 0, 0)))) (e_T 43 (e_T 40 (e_L 40 (0, ei_putf eft elay 5 10 0 43, 0, 0)) (e_L 43 (0, ei_inc 2 1 46, 0, 0))) (e_T 46 (e_L 46 (0, ei_goto 17, 0, 0)) (e_L 49 (1, e_nof, 0, 0)))))))
set_option maxRecDepth 20000 in
set_option maxHeartbeats 4000000 in
theorem te_13_0_ok : ∀ pc, e_EOq eft cls elay eI n_13 pc (te_13_0 pc) :=
  (e_Tok2
  (e_Tok2
  (e_Tok2
  (e_Tok2
  (e_Lok (ld_aload_n_0 (x_dk dn_13_0_0_ok 0 rfl)))
  (e_Tok2
  (e_Lok (ps_iconst_1 (x_dk dn_13_0_0_ok 1 rfl)))
  (e_Lok (lk_0_132p ho_13 (x_dk dn_13_0_0_ok 2 rfl)))))
  (e_Tok2
  (e_Tok2
  (e_Lok (ld_aload_n_0 (x_dk dn_13_0_0_ok 3 rfl)))
  (e_Lok (ps_iconst_0 (x_dk dn_13_0_0_ok 4 rfl))))
  (e_Tok2
  (e_Lok (lk_0_135p ho_13 (x_dk dn_13_0_0_ok 5 rfl)))
  (e_Lok (ld_aload_n_0 (x_dk dn_13_0_0_ok 6 rfl))))))
  (e_Tok2
  (e_Tok2
  (e_Lok (ld_iload_n_1 (x_dk dn_13_0_0_ok 7 rfl)))
  (e_Tok2
  (e_Lok (lk_0_138p ho_13 (x_dk dn_13_0_0_ok 8 rfl)))
  (e_Lok (ps_iconst_0 (x_dk dn_13_0_0_ok 9 rfl)))))
  (e_Tok2
  (e_Tok2
  (e_Lok (e_st (I := eI) (er_istore_n (i := 2) (x_dk dn_13_0_0_ok 10 rfl) (by decide +kernel)) nx_stor))
  (e_Lok (ld_iload_n_2 (x_dk dn_13_0_0_ok 11 rfl))))
  (e_Tok2
  (e_Lok (ld_aload_n_0 (x_dk dn_13_0_0_ok 12 rfl)))
  (e_Lok (lk_0_44g ho_13 (x_dk dn_13_0_0_ok 13 rfl)))))))
  (e_Tok2
  (e_Tok2
  (e_Tok2
  (e_Lok (e_st (I := eI) (er_icmpge (off := 27) (tg := 49) (x_dk dn_13_0_0_ok 14 rfl) (by decide)) nx_if2))
  (e_Tok2
  (e_Lok (ld_aload_n_0 (x_dk dn_13_0_0_ok 15 rfl)))
  (e_Lok (lk_0_11g ho_13 (x_dk dn_13_0_0_ok 16 rfl)))))
  (e_Tok2
  (e_Tok2
  (e_Lok (ld_iload_n_2 (x_dk dn_13_0_0_ok 17 rfl)))
  (e_Lok (e_st (I := eI) (er_aaload (x_dk dn_13_0_0_ok 18 rfl)) nx_aald)))
  (e_Tok2
  (e_Lok (ld_aload_n_0 (x_dk dn_13_0_0_ok 19 rfl)))
  (e_Lok (lk_0_11g ho_13 (x_dk dn_13_0_0_ok 20 rfl))))))
  (e_Tok2
  (e_Tok2
  (e_Lok (ld_iload_n_2 (x_dk dn_13_0_0_ok 21 rfl)))
  (e_Tok2
  (e_Lok (e_st (I := eI) (er_aaload (x_dk dn_13_0_0_ok 22 rfl)) nx_aald))
  (e_Lok (lk_0_90g ho_13 (x_dk dn_13_0_0_ok 23 rfl)))))
  (e_Tok2
  (e_Tok2
  (e_Lok (lk_0_141p ho_13 (x_dk dn_13_0_0_ok 24 rfl)))
  (e_Lok (e_st (I := eI) (er_iinc (i := 2) (n := 1) (x_dk dn_13_0_1_ok 0 rfl) (by decide +kernel) (by decide)) nx_inc)))
  (e_Tok2
  (e_Lok (e_st (I := eI) (er_goto (off := (-29)) (tg := 17) (x_dk dn_13_0_1_ok 1 rfl) (by decide)) nx_goto))
  (e_Lok (e_rt (I := eI) (k := 0) ⟨(x_dk dn_13_0_1_ok 2 rfl), rfl⟩)))))))
def te_13 : Nat → eE := te_13_0
theorem te_13_ok : ∀ pc, e_EOq eft cls elay eI n_13 pc (te_13 pc) := te_13_0_ok
theorem ho_14 : (xm_y n_14).cls = "RobotCellHouse$Arm" := rfl
def dn_14_0_0 : List (Nat × Instr × Nat) := [(0, .iconst 0, 1), (1, .istore_n 1, 1), (2, .aload_n 0, 1), (3, .dup, 1), (4, .getfield 135, 3), (7, .iconst 1, 1), (8, .iadd, 1), (9, .putfield 135, 3), (12, .iconst 0, 1), (13, .istore_n 2, 1), (14, .iload_n 2, 1), (15, .aload_n 0, 1), (16, .getfield 44, 3), (19, .if_icmp .ge 69, 3), (22, .aload_n 0, 1), (23, .getfield 11, 3), (26, .iload_n 2, 1), (27, .aaload, 1), (28, .astore_n 3, 1), (29, .aload_n 3, 1), (30, .aload_n 0, 1), (31, .getfield 132, 3), (34, .iconst 2, 1), (35, .if_icmp .ne 10, 3), (38, .aload_n 3, 1)]
set_option maxRecDepth 20000 in
theorem dn_14_0_0_ok : dn_14_0_0.all (fun q => decide (decode (xm_b n_14) q.1 = .ok (q.2.1, q.2.2))) = true := xa_g_ok (by decide +kernel)
def dn_14_0_1 : List (Nat × Instr × Nat) := [(39, .invokevirtual 144, 3), (42, .goto 7, 3), (45, .aload_n 3, 1), (46, .invokevirtual 148, 3), (49, .putfield 126, 3), (52, .aload_n 3, 1), (53, .dup, 1), (54, .getfield 90, 3), (57, .aload_n 3, 1), (58, .getfield 126, 3), (61, .iadd, 1), (62, .putfield 90, 3), (65, .iload_n 1, 1), (66, .ifCond .ne 10, 3), (69, .aload_n 3, 1), (70, .getfield 126, 3), (73, .ifCond .eq 7, 3), (76, .iconst 1, 1), (77, .goto 4, 3), (80, .iconst 0, 1), (81, .istore_n 1, 1), (82, .iinc 2 1, 3), (85, .goto (-71), 3), (88, .iload_n 1, 1), (89, .ifCond .eq 7, 3)]
set_option maxRecDepth 20000 in
theorem dn_14_0_1_ok : dn_14_0_1.all (fun q => decide (decode (xm_b n_14) q.1 = .ok (q.2.1, q.2.2))) = true := xa_g_ok (by decide +kernel)
def dn_14_0_2 : List (Nat × Instr × Nat) := [(92, .aload_n 0, 1), (93, .invokevirtual 87, 3), (96, .iload_n 1, 1), (97, .ireturn, 1)]
set_option maxRecDepth 20000 in
theorem dn_14_0_2_ok : dn_14_0_2.all (fun q => decide (decode (xm_b n_14) q.1 = .ok (q.2.1, q.2.2))) = true := xa_g_ok (by decide +kernel)
def te_14_0 : Nat → eE := (e_T 16 (e_T 7 (e_T 2 (e_T 0 (e_L 0 (0, ei_push (0, 0) 1, 0, 0)) (e_T 1 (e_L 1 (0, ei_stor 1 0 2, 0, 0)) (e_L 2 (0, ei_load 0 2 3, 0, 0)))) (e_T 3 (e_L 3 (0, ei_stk ef_dup 4, 0, 0)) (e_T 4 (e_L 4 (0, ei_getf eft elay 0 12 7, 0, 0)) (e_L 7 (0, ei_push (0, 1) 8, 0, 0))))) (e_T 12 (e_T 8 (e_L 8 (0, ei_bin eF_add 9, 0, 0)) (e_T 9 (e_L 9 (0, ei_putf eft elay 0 12 0 12, 0, 0)) (e_L 12 (0, ei_push (0, 0) 13, 0, 0)))) (e_T 14 (e_T 13 (e_L 13 (0, ei_stor 2 0 14, 0, 0)) (e_L 14 (0, ei_load 2 0 15, 0, 0))) (e_T 15 (e_L 15 (0, ei_load 0 2 16, 0, 0)) (e_L 16 (0, ei_getf eft elay 0 8 19, 0, 0)))))) (e_T 29 (e_T 23 (e_T 19 (e_L 19 (0, ei_if2 3 88 22, 0, 0)) (e_T 22 (e_L 22 (0, ei_load 0 2 23, 0, 0)) (e_L 23 (0, ei_getf eft elay 0 0 26, 0, 0)))) (e_T 27 (e_T 26 (e_L 26 (0, ei_load 2 0 27, 0, 0)) (e_L 27 (0, ei_aald elay 28, 0, 0))) (e_T 28 (e_L 28 (0, ei_stor 3 2 29, 0, 0)) (e_L 29 (0, ei_load 3 2 30, 0, 0))))) (e_T 34 (e_T 30 (e_L 30 (0, ei_load 0 2 31, 0, 0)) (e_T 31 (e_L 31 (0, ei_getf eft elay 0 11 34, 0, 0)) (e_L 34 (0, ei_push (0, 2) 35, 0, 0)))) (e_T 38 (e_T 35 (e_L 35 (0, ei_if2 1 45 38, 0, 0)) (e_L 38 (0, ei_load 3 2 39, 0, 0))) (e_T 39 (e_L 39 (2, e_nof, 91, 1)) (e_L 42 (0, ei_goto 49, 0, 0)))))))
set_option maxRecDepth 20000 in
set_option maxHeartbeats 4000000 in
theorem te_14_0_ok : ∀ pc, e_EOq eft cls elay eI n_14 pc (te_14_0 pc) :=
  (e_Tok2
  (e_Tok2
  (e_Tok2
  (e_Tok2
  (e_Lok (ps_iconst_0 (x_dk dn_14_0_0_ok 0 rfl)))
  (e_Tok2
  (e_Lok (e_st (I := eI) (er_istore_n (i := 1) (x_dk dn_14_0_0_ok 1 rfl) (by decide +kernel)) nx_stor))
  (e_Lok (ld_aload_n_0 (x_dk dn_14_0_0_ok 2 rfl)))))
  (e_Tok2
  (e_Lok (e_st (I := eI) (er_dup (x_dk dn_14_0_0_ok 3 rfl)) (nx_stk bf_dup)))
  (e_Tok2
  (e_Lok (lk_0_135g ho_14 (x_dk dn_14_0_0_ok 4 rfl)))
  (e_Lok (ps_iconst_1 (x_dk dn_14_0_0_ok 5 rfl))))))
  (e_Tok2
  (e_Tok2
  (e_Lok (sm_iadd (x_dk dn_14_0_0_ok 6 rfl)))
  (e_Tok2
  (e_Lok (lk_0_135p ho_14 (x_dk dn_14_0_0_ok 7 rfl)))
  (e_Lok (ps_iconst_0 (x_dk dn_14_0_0_ok 8 rfl)))))
  (e_Tok2
  (e_Tok2
  (e_Lok (e_st (I := eI) (er_istore_n (i := 2) (x_dk dn_14_0_0_ok 9 rfl) (by decide +kernel)) nx_stor))
  (e_Lok (ld_iload_n_2 (x_dk dn_14_0_0_ok 10 rfl))))
  (e_Tok2
  (e_Lok (ld_aload_n_0 (x_dk dn_14_0_0_ok 11 rfl)))
  (e_Lok (lk_0_44g ho_14 (x_dk dn_14_0_0_ok 12 rfl)))))))
  (e_Tok2
  (e_Tok2
  (e_Tok2
  (e_Lok (e_st (I := eI) (er_icmpge (off := 69) (tg := 88) (x_dk dn_14_0_0_ok 13 rfl) (by decide)) nx_if2))
  (e_Tok2
  (e_Lok (ld_aload_n_0 (x_dk dn_14_0_0_ok 14 rfl)))
  (e_Lok (lk_0_11g ho_14 (x_dk dn_14_0_0_ok 15 rfl)))))
  (e_Tok2
  (e_Tok2
  (e_Lok (ld_iload_n_2 (x_dk dn_14_0_0_ok 16 rfl)))
  (e_Lok (e_st (I := eI) (er_aaload (x_dk dn_14_0_0_ok 17 rfl)) nx_aald)))
  (e_Tok2
  (e_Lok (e_st (I := eI) (er_astore_n (i := 3) (x_dk dn_14_0_0_ok 18 rfl) (by decide +kernel)) nx_stor))
  (e_Lok (ld_aload_n_3 (x_dk dn_14_0_0_ok 19 rfl))))))
  (e_Tok2
  (e_Tok2
  (e_Lok (ld_aload_n_0 (x_dk dn_14_0_0_ok 20 rfl)))
  (e_Tok2
  (e_Lok (lk_0_132g ho_14 (x_dk dn_14_0_0_ok 21 rfl)))
  (e_Lok (ps_iconst_2 (x_dk dn_14_0_0_ok 22 rfl)))))
  (e_Tok2
  (e_Tok2
  (e_Lok (e_st (I := eI) (er_icmpne (off := 10) (tg := 45) (x_dk dn_14_0_0_ok 23 rfl) (by decide)) nx_if2))
  (e_Lok (ld_aload_n_3 (x_dk dn_14_0_0_ok 24 rfl))))
  (e_Tok2
  (e_Lok (lk_0_144 ho_14 (x_dk dn_14_0_1_ok 0 rfl)))
  (e_Lok (e_st (I := eI) (er_goto (off := 7) (tg := 49) (x_dk dn_14_0_1_ok 1 rfl) (by decide)) nx_goto)))))))
def te_14_27 : Nat → eE := (e_T 69 (e_T 54 (e_T 49 (e_T 45 (e_L 45 (0, ei_load 3 2 46, 0, 0)) (e_T 46 (e_L 46 (2, e_nof, 90, 1)) (e_L 49 (0, ei_putf eft elay 5 8 0 52, 0, 0)))) (e_T 52 (e_L 52 (0, ei_load 3 2 53, 0, 0)) (e_T 53 (e_L 53 (0, ei_stk ef_dup 54, 0, 0)) (e_L 54 (0, ei_getf eft elay 5 7 57, 0, 0))))) (e_T 61 (e_T 57 (e_L 57 (0, ei_load 3 2 58, 0, 0)) (e_T 58 (e_L 58 (0, ei_getf eft elay 5 8 61, 0, 0)) (e_L 61 (0, ei_bin eF_add 62, 0, 0)))) (e_T 65 (e_T 62 (e_L 62 (0, ei_putf eft elay 5 7 0 65, 0, 0)) (e_L 65 (0, ei_load 1 0 66, 0, 0))) (e_T 66 (e_L 66 (0, ei_if1 1 76 69, 0, 0)) (e_L 69 (0, ei_load 3 2 70, 0, 0)))))) (e_T 82 (e_T 76 (e_T 70 (e_L 70 (0, ei_getf eft elay 5 8 73, 0, 0)) (e_T 73 (e_L 73 (0, ei_if1 0 80 76, 0, 0)) (e_L 76 (0, ei_push (0, 1) 77, 0, 0)))) (e_T 80 (e_T 77 (e_L 77 (0, ei_goto 81, 0, 0)) (e_L 80 (0, ei_push (0, 0) 81, 0, 0))) (e_T 81 (e_L 81 (0, ei_stor 1 0 82, 0, 0)) (e_L 82 (0, ei_inc 2 1 85, 0, 0))))) (e_T 89 (e_T 85 (e_L 85 (0, ei_goto 14, 0, 0)) (e_T 88 (e_L 88 (0, ei_load 1 0 89, 0, 0)) (e_L 89 (0, ei_if1 0 96 92, 0, 0)))) (e_T 93 (e_T 92 (e_L 92 (0, ei_load 0 2 93, 0, 0)) (e_L 93 (2, e_nof, 10, 1))) (e_T 96 (e_L 96 (0, ei_load 1 0 97, 0, 0)) (e_L 97 (1, e_nof, 4, 0)))))))
set_option maxRecDepth 20000 in
set_option maxHeartbeats 4000000 in
theorem te_14_27_ok : ∀ pc, e_EOq eft cls elay eI n_14 pc (te_14_27 pc) :=
  (e_Tok2
  (e_Tok2
  (e_Tok2
  (e_Tok2
  (e_Lok (ld_aload_n_3 (x_dk dn_14_0_1_ok 2 rfl)))
  (e_Tok2
  (e_Lok (lk_0_148 ho_14 (x_dk dn_14_0_1_ok 3 rfl)))
  (e_Lok (lk_0_126p ho_14 (x_dk dn_14_0_1_ok 4 rfl)))))
  (e_Tok2
  (e_Lok (ld_aload_n_3 (x_dk dn_14_0_1_ok 5 rfl)))
  (e_Tok2
  (e_Lok (e_st (I := eI) (er_dup (x_dk dn_14_0_1_ok 6 rfl)) (nx_stk bf_dup)))
  (e_Lok (lk_0_90g ho_14 (x_dk dn_14_0_1_ok 7 rfl))))))
  (e_Tok2
  (e_Tok2
  (e_Lok (ld_aload_n_3 (x_dk dn_14_0_1_ok 8 rfl)))
  (e_Tok2
  (e_Lok (lk_0_126g ho_14 (x_dk dn_14_0_1_ok 9 rfl)))
  (e_Lok (sm_iadd (x_dk dn_14_0_1_ok 10 rfl)))))
  (e_Tok2
  (e_Tok2
  (e_Lok (lk_0_90p ho_14 (x_dk dn_14_0_1_ok 11 rfl)))
  (e_Lok (ld_iload_n_1 (x_dk dn_14_0_1_ok 12 rfl))))
  (e_Tok2
  (e_Lok (e_st (I := eI) (er_ifne (off := 10) (tg := 76) (x_dk dn_14_0_1_ok 13 rfl) (by decide)) nx_if1))
  (e_Lok (ld_aload_n_3 (x_dk dn_14_0_1_ok 14 rfl)))))))
  (e_Tok2
  (e_Tok2
  (e_Tok2
  (e_Lok (lk_0_126g ho_14 (x_dk dn_14_0_1_ok 15 rfl)))
  (e_Tok2
  (e_Lok (e_st (I := eI) (er_ifeq (off := 7) (tg := 80) (x_dk dn_14_0_1_ok 16 rfl) (by decide)) nx_if1))
  (e_Lok (ps_iconst_1 (x_dk dn_14_0_1_ok 17 rfl)))))
  (e_Tok2
  (e_Tok2
  (e_Lok (e_st (I := eI) (er_goto (off := 4) (tg := 81) (x_dk dn_14_0_1_ok 18 rfl) (by decide)) nx_goto))
  (e_Lok (ps_iconst_0 (x_dk dn_14_0_1_ok 19 rfl))))
  (e_Tok2
  (e_Lok (e_st (I := eI) (er_istore_n (i := 1) (x_dk dn_14_0_1_ok 20 rfl) (by decide +kernel)) nx_stor))
  (e_Lok (e_st (I := eI) (er_iinc (i := 2) (n := 1) (x_dk dn_14_0_1_ok 21 rfl) (by decide +kernel) (by decide)) nx_inc)))))
  (e_Tok2
  (e_Tok2
  (e_Lok (e_st (I := eI) (er_goto (off := (-71)) (tg := 14) (x_dk dn_14_0_1_ok 22 rfl) (by decide)) nx_goto))
  (e_Tok2
  (e_Lok (ld_iload_n_1 (x_dk dn_14_0_1_ok 23 rfl)))
  (e_Lok (e_st (I := eI) (er_ifeq (off := 7) (tg := 96) (x_dk dn_14_0_1_ok 24 rfl) (by decide)) nx_if1))))
  (e_Tok2
  (e_Tok2
  (e_Lok (ld_aload_n_0 (x_dk dn_14_0_2_ok 0 rfl)))
  (e_Lok (lk_0_87 ho_14 (x_dk dn_14_0_2_ok 1 rfl))))
  (e_Tok2
  (e_Lok (ld_iload_n_1 (x_dk dn_14_0_2_ok 2 rfl)))
  (e_Lok (e_rt (I := eI) (k := 4) ⟨(x_dk dn_14_0_2_ok 3 rfl), rfl⟩)))))))
def te_14 : Nat → eE := (e_T 42 te_14_0 te_14_27)
theorem te_14_ok : ∀ pc, e_EOq eft cls elay eI n_14 pc (te_14 pc) := (e_Tok2 (te_14_0_ok) (te_14_27_ok))
theorem ho_15 : (xm_y n_15).cls = "RobotCellHouse$Arm" := rfl
def dn_15_0_0 : List (Nat × Instr × Nat) := [(0, .iconst 0, 1), (1, .istore_n 1, 1), (2, .iload_n 1, 1), (3, .aload_n 0, 1), (4, .getfield 44, 3), (7, .if_icmp .ge 23, 3), (10, .aload_n 0, 1), (11, .getfield 11, 3), (14, .iload_n 1, 1), (15, .aaload, 1), (16, .getfield 126, 3), (19, .ifCond .eq 5, 3), (22, .iconst 0, 1), (23, .ireturn, 1), (24, .iinc 1 1, 3), (27, .goto (-25), 3), (30, .iconst 1, 1), (31, .ireturn, 1)]
set_option maxRecDepth 20000 in
theorem dn_15_0_0_ok : dn_15_0_0.all (fun q => decide (decode (xm_b n_15) q.1 = .ok (q.2.1, q.2.2))) = true := xa_g_ok (by decide +kernel)
def te_15_0 : Nat → eE := (e_T 14 (e_T 3 (e_T 1 (e_T 0 (e_L 0 (0, ei_push (0, 0) 1, 0, 0)) (e_L 1 (0, ei_stor 1 0 2, 0, 0))) (e_T 2 (e_L 2 (0, ei_load 1 0 3, 0, 0)) (e_L 3 (0, ei_load 0 2 4, 0, 0)))) (e_T 7 (e_T 4 (e_L 4 (0, ei_getf eft elay 0 8 7, 0, 0)) (e_L 7 (0, ei_if2 3 30 10, 0, 0))) (e_T 10 (e_L 10 (0, ei_load 0 2 11, 0, 0)) (e_T 11 (e_L 11 (0, ei_getf eft elay 0 0 14, 0, 0)) (e_L 14 (0, ei_load 1 0 15, 0, 0)))))) (e_T 22 (e_T 16 (e_T 15 (e_L 15 (0, ei_aald elay 16, 0, 0)) (e_L 16 (0, ei_getf eft elay 5 8 19, 0, 0))) (e_T 19 (e_L 19 (0, ei_if1 0 24 22, 0, 0)) (e_L 22 (0, ei_push (0, 0) 23, 0, 0)))) (e_T 24 (e_T 23 (e_L 23 (1, e_nof, 4, 0)) (e_L 24 (0, ei_inc 1 1 27, 0, 0))) (e_T 27 (e_L 27 (0, ei_goto 2, 0, 0)) (e_T 30 (e_L 30 (0, ei_push (0, 1) 31, 0, 0)) (e_L 31 (1, e_nof, 4, 0)))))))
set_option maxRecDepth 20000 in
set_option maxHeartbeats 4000000 in
theorem te_15_0_ok : ∀ pc, e_EOq eft cls elay eI n_15 pc (te_15_0 pc) :=
  (e_Tok2
  (e_Tok2
  (e_Tok2
  (e_Tok2
  (e_Lok (ps_iconst_0 (x_dk dn_15_0_0_ok 0 rfl)))
  (e_Lok (e_st (I := eI) (er_istore_n (i := 1) (x_dk dn_15_0_0_ok 1 rfl) (by decide +kernel)) nx_stor)))
  (e_Tok2
  (e_Lok (ld_iload_n_1 (x_dk dn_15_0_0_ok 2 rfl)))
  (e_Lok (ld_aload_n_0 (x_dk dn_15_0_0_ok 3 rfl)))))
  (e_Tok2
  (e_Tok2
  (e_Lok (lk_0_44g ho_15 (x_dk dn_15_0_0_ok 4 rfl)))
  (e_Lok (e_st (I := eI) (er_icmpge (off := 23) (tg := 30) (x_dk dn_15_0_0_ok 5 rfl) (by decide)) nx_if2)))
  (e_Tok2
  (e_Lok (ld_aload_n_0 (x_dk dn_15_0_0_ok 6 rfl)))
  (e_Tok2
  (e_Lok (lk_0_11g ho_15 (x_dk dn_15_0_0_ok 7 rfl)))
  (e_Lok (ld_iload_n_1 (x_dk dn_15_0_0_ok 8 rfl)))))))
  (e_Tok2
  (e_Tok2
  (e_Tok2
  (e_Lok (e_st (I := eI) (er_aaload (x_dk dn_15_0_0_ok 9 rfl)) nx_aald))
  (e_Lok (lk_0_126g ho_15 (x_dk dn_15_0_0_ok 10 rfl))))
  (e_Tok2
  (e_Lok (e_st (I := eI) (er_ifeq (off := 5) (tg := 24) (x_dk dn_15_0_0_ok 11 rfl) (by decide)) nx_if1))
  (e_Lok (ps_iconst_0 (x_dk dn_15_0_0_ok 12 rfl)))))
  (e_Tok2
  (e_Tok2
  (e_Lok (e_rt (I := eI) (k := 4) ⟨(x_dk dn_15_0_0_ok 13 rfl), rfl⟩))
  (e_Lok (e_st (I := eI) (er_iinc (i := 1) (n := 1) (x_dk dn_15_0_0_ok 14 rfl) (by decide +kernel) (by decide)) nx_inc)))
  (e_Tok2
  (e_Lok (e_st (I := eI) (er_goto (off := (-25)) (tg := 2) (x_dk dn_15_0_0_ok 15 rfl) (by decide)) nx_goto))
  (e_Tok2
  (e_Lok (ps_iconst_1 (x_dk dn_15_0_0_ok 16 rfl)))
  (e_Lok (e_rt (I := eI) (k := 4) ⟨(x_dk dn_15_0_0_ok 17 rfl), rfl⟩)))))))
def te_15 : Nat → eE := te_15_0
theorem te_15_ok : ∀ pc, e_EOq eft cls elay eI n_15 pc (te_15 pc) := te_15_0_ok
theorem ho_16 : (xm_y n_16).cls = "RobotCellHouse$Arm" := rfl
def dn_16_0_0 : List (Nat × Instr × Nat) := [(0, .iconst 0, 1), (1, .istore_n 1, 1), (2, .iload_n 1, 1), (3, .aload_n 0, 1), (4, .getfield 44, 3), (7, .if_icmp .ge 32, 3), (10, .aload_n 0, 1), (11, .getfield 11, 3), (14, .iload_n 1, 1), (15, .aaload, 1), (16, .getfield 90, 3), (19, .aload_n 0, 1), (20, .getfield 11, 3), (23, .iload_n 1, 1), (24, .aaload, 1), (25, .getfield 93, 3), (28, .if_icmp .eq 5, 3), (31, .iconst 0, 1), (32, .ireturn, 1), (33, .iinc 1 1, 3), (36, .goto (-34), 3), (39, .aload_n 0, 1), (40, .invokevirtual 151, 3), (43, .ireturn, 1)]
set_option maxRecDepth 20000 in
theorem dn_16_0_0_ok : dn_16_0_0.all (fun q => decide (decode (xm_b n_16) q.1 = .ok (q.2.1, q.2.2))) = true := xa_g_ok (by decide +kernel)
def te_16_0 : Nat → eE := (e_T 19 (e_T 7 (e_T 2 (e_T 0 (e_L 0 (0, ei_push (0, 0) 1, 0, 0)) (e_T 1 (e_L 1 (0, ei_stor 1 0 2, 0, 0)) (e_L 2 (0, ei_load 1 0 3, 0, 0)))) (e_T 3 (e_L 3 (0, ei_load 0 2 4, 0, 0)) (e_T 4 (e_L 4 (0, ei_getf eft elay 0 8 7, 0, 0)) (e_L 7 (0, ei_if2 3 39 10, 0, 0))))) (e_T 14 (e_T 10 (e_L 10 (0, ei_load 0 2 11, 0, 0)) (e_T 11 (e_L 11 (0, ei_getf eft elay 0 0 14, 0, 0)) (e_L 14 (0, ei_load 1 0 15, 0, 0)))) (e_T 15 (e_L 15 (0, ei_aald elay 16, 0, 0)) (e_T 16 (e_L 16 (0, ei_getf eft elay 5 7 19, 0, 0)) (e_L 19 (0, ei_load 0 2 20, 0, 0)))))) (e_T 31 (e_T 24 (e_T 20 (e_L 20 (0, ei_getf eft elay 0 0 23, 0, 0)) (e_T 23 (e_L 23 (0, ei_load 1 0 24, 0, 0)) (e_L 24 (0, ei_aald elay 25, 0, 0)))) (e_T 25 (e_L 25 (0, ei_getf eft elay 5 9 28, 0, 0)) (e_T 28 (e_L 28 (0, ei_if2 0 33 31, 0, 0)) (e_L 31 (0, ei_push (0, 0) 32, 0, 0))))) (e_T 36 (e_T 32 (e_L 32 (1, e_nof, 4, 0)) (e_T 33 (e_L 33 (0, ei_inc 1 1 36, 0, 0)) (e_L 36 (0, ei_goto 2, 0, 0)))) (e_T 39 (e_L 39 (0, ei_load 0 2 40, 0, 0)) (e_T 40 (e_L 40 (2, e_nof, 15, 1)) (e_L 43 (1, e_nof, 4, 0)))))))
set_option maxRecDepth 20000 in
set_option maxHeartbeats 4000000 in
theorem te_16_0_ok : ∀ pc, e_EOq eft cls elay eI n_16 pc (te_16_0 pc) :=
  (e_Tok2
  (e_Tok2
  (e_Tok2
  (e_Tok2
  (e_Lok (ps_iconst_0 (x_dk dn_16_0_0_ok 0 rfl)))
  (e_Tok2
  (e_Lok (e_st (I := eI) (er_istore_n (i := 1) (x_dk dn_16_0_0_ok 1 rfl) (by decide +kernel)) nx_stor))
  (e_Lok (ld_iload_n_1 (x_dk dn_16_0_0_ok 2 rfl)))))
  (e_Tok2
  (e_Lok (ld_aload_n_0 (x_dk dn_16_0_0_ok 3 rfl)))
  (e_Tok2
  (e_Lok (lk_0_44g ho_16 (x_dk dn_16_0_0_ok 4 rfl)))
  (e_Lok (e_st (I := eI) (er_icmpge (off := 32) (tg := 39) (x_dk dn_16_0_0_ok 5 rfl) (by decide)) nx_if2)))))
  (e_Tok2
  (e_Tok2
  (e_Lok (ld_aload_n_0 (x_dk dn_16_0_0_ok 6 rfl)))
  (e_Tok2
  (e_Lok (lk_0_11g ho_16 (x_dk dn_16_0_0_ok 7 rfl)))
  (e_Lok (ld_iload_n_1 (x_dk dn_16_0_0_ok 8 rfl)))))
  (e_Tok2
  (e_Lok (e_st (I := eI) (er_aaload (x_dk dn_16_0_0_ok 9 rfl)) nx_aald))
  (e_Tok2
  (e_Lok (lk_0_90g ho_16 (x_dk dn_16_0_0_ok 10 rfl)))
  (e_Lok (ld_aload_n_0 (x_dk dn_16_0_0_ok 11 rfl)))))))
  (e_Tok2
  (e_Tok2
  (e_Tok2
  (e_Lok (lk_0_11g ho_16 (x_dk dn_16_0_0_ok 12 rfl)))
  (e_Tok2
  (e_Lok (ld_iload_n_1 (x_dk dn_16_0_0_ok 13 rfl)))
  (e_Lok (e_st (I := eI) (er_aaload (x_dk dn_16_0_0_ok 14 rfl)) nx_aald))))
  (e_Tok2
  (e_Lok (lk_0_93g ho_16 (x_dk dn_16_0_0_ok 15 rfl)))
  (e_Tok2
  (e_Lok (e_st (I := eI) (er_icmpeq (off := 5) (tg := 33) (x_dk dn_16_0_0_ok 16 rfl) (by decide)) nx_if2))
  (e_Lok (ps_iconst_0 (x_dk dn_16_0_0_ok 17 rfl))))))
  (e_Tok2
  (e_Tok2
  (e_Lok (e_rt (I := eI) (k := 4) ⟨(x_dk dn_16_0_0_ok 18 rfl), rfl⟩))
  (e_Tok2
  (e_Lok (e_st (I := eI) (er_iinc (i := 1) (n := 1) (x_dk dn_16_0_0_ok 19 rfl) (by decide +kernel) (by decide)) nx_inc))
  (e_Lok (e_st (I := eI) (er_goto (off := (-34)) (tg := 2) (x_dk dn_16_0_0_ok 20 rfl) (by decide)) nx_goto))))
  (e_Tok2
  (e_Lok (ld_aload_n_0 (x_dk dn_16_0_0_ok 21 rfl)))
  (e_Tok2
  (e_Lok (lk_0_151 ho_16 (x_dk dn_16_0_0_ok 22 rfl)))
  (e_Lok (e_rt (I := eI) (k := 4) ⟨(x_dk dn_16_0_0_ok 23 rfl), rfl⟩)))))))
def te_16 : Nat → eE := te_16_0
theorem te_16_ok : ∀ pc, e_EOq eft cls elay eI n_16 pc (te_16 pc) := te_16_0_ok
theorem ho_17 : (xm_y n_17).cls = "RobotCellHouse$Arm" := rfl
def dn_17_0_0 : List (Nat × Instr × Nat) := [(0, .aload_n 0, 1), (1, .iconst 0, 1), (2, .putfield 132, 3), (5, .aload_n 0, 1), (6, .iconst (-1), 1), (7, .putfield 138, 3), (10, .aload_n 0, 1), (11, .iconst (-1), 1), (12, .putfield 155, 3), (15, .iconst 0, 1), (16, .istore_n 1, 1), (17, .iload_n 1, 1), (18, .bipush 6, 2), (20, .if_icmp .ge 19, 3), (23, .aload_n 0, 1), (24, .getfield 11, 3), (27, .iload_n 1, 1), (28, .aaload, 1), (29, .iconst 0, 1), (30, .putfield 126, 3), (33, .iinc 1 1, 3), (36, .goto (-19), 3), (39, .return_, 1)]
set_option maxRecDepth 20000 in
theorem dn_17_0_0_ok : dn_17_0_0.all (fun q => decide (decode (xm_b n_17) q.1 = .ok (q.2.1, q.2.2))) = true := xa_g_ok (by decide +kernel)
def te_17_0 : Nat → eE := (e_T 16 (e_T 6 (e_T 1 (e_T 0 (e_L 0 (0, ei_load 0 2 1, 0, 0)) (e_L 1 (0, ei_push (0, 0) 2, 0, 0))) (e_T 2 (e_L 2 (0, ei_putf eft elay 0 11 0 5, 0, 0)) (e_T 5 (e_L 5 (0, ei_load 0 2 6, 0, 0)) (e_L 6 (0, ei_push (0, (-1)) 7, 0, 0))))) (e_T 11 (e_T 7 (e_L 7 (0, ei_putf eft elay 0 13 0 10, 0, 0)) (e_T 10 (e_L 10 (0, ei_load 0 2 11, 0, 0)) (e_L 11 (0, ei_push (0, (-1)) 12, 0, 0)))) (e_T 12 (e_L 12 (0, ei_putf eft elay 0 18 0 15, 0, 0)) (e_T 15 (e_L 15 (0, ei_push (0, 0) 16, 0, 0)) (e_L 16 (0, ei_stor 1 0 17, 0, 0)))))) (e_T 27 (e_T 20 (e_T 17 (e_L 17 (0, ei_load 1 0 18, 0, 0)) (e_T 18 (e_L 18 (0, ei_push (0, 6) 20, 0, 0)) (e_L 20 (0, ei_if2 3 39 23, 0, 0)))) (e_T 23 (e_L 23 (0, ei_load 0 2 24, 0, 0)) (e_T 24 (e_L 24 (0, ei_getf eft elay 0 0 27, 0, 0)) (e_L 27 (0, ei_load 1 0 28, 0, 0))))) (e_T 30 (e_T 28 (e_L 28 (0, ei_aald elay 29, 0, 0)) (e_T 29 (e_L 29 (0, ei_push (0, 0) 30, 0, 0)) (e_L 30 (0, ei_putf eft elay 5 8 0 33, 0, 0)))) (e_T 33 (e_L 33 (0, ei_inc 1 1 36, 0, 0)) (e_T 36 (e_L 36 (0, ei_goto 17, 0, 0)) (e_L 39 (1, e_nof, 0, 0)))))))
set_option maxRecDepth 20000 in
set_option maxHeartbeats 4000000 in
theorem te_17_0_ok : ∀ pc, e_EOq eft cls elay eI n_17 pc (te_17_0 pc) :=
  (e_Tok2
  (e_Tok2
  (e_Tok2
  (e_Tok2
  (e_Lok (ld_aload_n_0 (x_dk dn_17_0_0_ok 0 rfl)))
  (e_Lok (ps_iconst_0 (x_dk dn_17_0_0_ok 1 rfl))))
  (e_Tok2
  (e_Lok (lk_0_132p ho_17 (x_dk dn_17_0_0_ok 2 rfl)))
  (e_Tok2
  (e_Lok (ld_aload_n_0 (x_dk dn_17_0_0_ok 3 rfl)))
  (e_Lok (ps_iconst_m1 (x_dk dn_17_0_0_ok 4 rfl))))))
  (e_Tok2
  (e_Tok2
  (e_Lok (lk_0_138p ho_17 (x_dk dn_17_0_0_ok 5 rfl)))
  (e_Tok2
  (e_Lok (ld_aload_n_0 (x_dk dn_17_0_0_ok 6 rfl)))
  (e_Lok (ps_iconst_m1 (x_dk dn_17_0_0_ok 7 rfl)))))
  (e_Tok2
  (e_Lok (lk_0_155p ho_17 (x_dk dn_17_0_0_ok 8 rfl)))
  (e_Tok2
  (e_Lok (ps_iconst_0 (x_dk dn_17_0_0_ok 9 rfl)))
  (e_Lok (e_st (I := eI) (er_istore_n (i := 1) (x_dk dn_17_0_0_ok 10 rfl) (by decide +kernel)) nx_stor))))))
  (e_Tok2
  (e_Tok2
  (e_Tok2
  (e_Lok (ld_iload_n_1 (x_dk dn_17_0_0_ok 11 rfl)))
  (e_Tok2
  (e_Lok (ps_bipush_6 (x_dk dn_17_0_0_ok 12 rfl)))
  (e_Lok (e_st (I := eI) (er_icmpge (off := 19) (tg := 39) (x_dk dn_17_0_0_ok 13 rfl) (by decide)) nx_if2))))
  (e_Tok2
  (e_Lok (ld_aload_n_0 (x_dk dn_17_0_0_ok 14 rfl)))
  (e_Tok2
  (e_Lok (lk_0_11g ho_17 (x_dk dn_17_0_0_ok 15 rfl)))
  (e_Lok (ld_iload_n_1 (x_dk dn_17_0_0_ok 16 rfl))))))
  (e_Tok2
  (e_Tok2
  (e_Lok (e_st (I := eI) (er_aaload (x_dk dn_17_0_0_ok 17 rfl)) nx_aald))
  (e_Tok2
  (e_Lok (ps_iconst_0 (x_dk dn_17_0_0_ok 18 rfl)))
  (e_Lok (lk_0_126p ho_17 (x_dk dn_17_0_0_ok 19 rfl)))))
  (e_Tok2
  (e_Lok (e_st (I := eI) (er_iinc (i := 1) (n := 1) (x_dk dn_17_0_0_ok 20 rfl) (by decide +kernel) (by decide)) nx_inc))
  (e_Tok2
  (e_Lok (e_st (I := eI) (er_goto (off := (-19)) (tg := 17) (x_dk dn_17_0_0_ok 21 rfl) (by decide)) nx_goto))
  (e_Lok (e_rt (I := eI) (k := 0) ⟨(x_dk dn_17_0_0_ok 22 rfl), rfl⟩)))))))
def te_17 : Nat → eE := te_17_0
theorem te_17_ok : ∀ pc, e_EOq eft cls elay eI n_17 pc (te_17 pc) := te_17_0_ok
end
end
-- part 41ab
section
noncomputable section
theorem ho_18 : (xm_y n_18).cls = "RobotCellHouse$Arm" := rfl
def dn_18_0_0 : List (Nat × Instr × Nat) := [(0, .iconst 0, 1), (1, .istore_n 1, 1), (2, .iconst 0, 1), (3, .istore_n 2, 1), (4, .iload_n 2, 1), (5, .aload_n 0, 1), (6, .getfield 44, 3), (9, .if_icmp .ge 23, 3), (12, .iload_n 1, 1), (13, .aload_n 0, 1), (14, .getfield 11, 3), (17, .iload_n 2, 1), (18, .aaload, 1), (19, .invokevirtual 158, 3), (22, .invokestatic 161, 3), (25, .istore_n 1, 1), (26, .iinc 2 1, 3), (29, .goto (-25), 3), (32, .iload_n 1, 1), (33, .ireturn, 1)]
set_option maxRecDepth 20000 in
theorem dn_18_0_0_ok : dn_18_0_0.all (fun q => decide (decode (xm_b n_18) q.1 = .ok (q.2.1, q.2.2))) = true := xa_g_ok (by decide +kernel)
def te_18_0 : Nat → eE := (e_T 13 (e_T 4 (e_T 1 (e_T 0 (e_L 0 (0, ei_push (0, 0) 1, 0, 0)) (e_L 1 (0, ei_stor 1 0 2, 0, 0))) (e_T 2 (e_L 2 (0, ei_push (0, 0) 3, 0, 0)) (e_T 3 (e_L 3 (0, ei_stor 2 0 4, 0, 0)) (e_L 4 (0, ei_load 2 0 5, 0, 0))))) (e_T 6 (e_T 5 (e_L 5 (0, ei_load 0 2 6, 0, 0)) (e_L 6 (0, ei_getf eft elay 0 8 9, 0, 0))) (e_T 9 (e_L 9 (0, ei_if2 3 32 12, 0, 0)) (e_T 12 (e_L 12 (0, ei_load 1 0 13, 0, 0)) (e_L 13 (0, ei_load 0 2 14, 0, 0)))))) (e_T 22 (e_T 17 (e_T 14 (e_L 14 (0, ei_getf eft elay 0 0 17, 0, 0)) (e_L 17 (0, ei_load 2 0 18, 0, 0))) (e_T 18 (e_L 18 (0, ei_aald elay 19, 0, 0)) (e_T 19 (e_L 19 (2, e_nof, 93, 1)) (e_L 22 (0, ei_m2 eM_max 25, 0, 0))))) (e_T 26 (e_T 25 (e_L 25 (0, ei_stor 1 0 26, 0, 0)) (e_L 26 (0, ei_inc 2 1 29, 0, 0))) (e_T 29 (e_L 29 (0, ei_goto 4, 0, 0)) (e_T 32 (e_L 32 (0, ei_load 1 0 33, 0, 0)) (e_L 33 (1, e_nof, 1, 0)))))))
set_option maxRecDepth 20000 in
set_option maxHeartbeats 4000000 in
theorem te_18_0_ok : ∀ pc, e_EOq eft cls elay eI n_18 pc (te_18_0 pc) :=
  (e_Tok2
  (e_Tok2
  (e_Tok2
  (e_Tok2
  (e_Lok (ps_iconst_0 (x_dk dn_18_0_0_ok 0 rfl)))
  (e_Lok (e_st (I := eI) (er_istore_n (i := 1) (x_dk dn_18_0_0_ok 1 rfl) (by decide +kernel)) nx_stor)))
  (e_Tok2
  (e_Lok (ps_iconst_0 (x_dk dn_18_0_0_ok 2 rfl)))
  (e_Tok2
  (e_Lok (e_st (I := eI) (er_istore_n (i := 2) (x_dk dn_18_0_0_ok 3 rfl) (by decide +kernel)) nx_stor))
  (e_Lok (ld_iload_n_2 (x_dk dn_18_0_0_ok 4 rfl))))))
  (e_Tok2
  (e_Tok2
  (e_Lok (ld_aload_n_0 (x_dk dn_18_0_0_ok 5 rfl)))
  (e_Lok (lk_0_44g ho_18 (x_dk dn_18_0_0_ok 6 rfl))))
  (e_Tok2
  (e_Lok (e_st (I := eI) (er_icmpge (off := 23) (tg := 32) (x_dk dn_18_0_0_ok 7 rfl) (by decide)) nx_if2))
  (e_Tok2
  (e_Lok (ld_iload_n_1 (x_dk dn_18_0_0_ok 8 rfl)))
  (e_Lok (ld_aload_n_0 (x_dk dn_18_0_0_ok 9 rfl)))))))
  (e_Tok2
  (e_Tok2
  (e_Tok2
  (e_Lok (lk_0_11g ho_18 (x_dk dn_18_0_0_ok 10 rfl)))
  (e_Lok (ld_iload_n_2 (x_dk dn_18_0_0_ok 11 rfl))))
  (e_Tok2
  (e_Lok (e_st (I := eI) (er_aaload (x_dk dn_18_0_0_ok 12 rfl)) nx_aald))
  (e_Tok2
  (e_Lok (lk_0_158 ho_18 (x_dk dn_18_0_0_ok 13 rfl)))
  (e_Lok (e_st (I := eI) (er_max (ix := 161) (in_t8 (List.mem_of_getElem? (i := 69) rfl) rfl) (in_t5 (List.mem_of_getElem? (i := 184) rfl) rfl) (in_t1 (List.mem_of_getElem? (i := 15) rfl) rfl) (in_t5 (List.mem_of_getElem? (i := 185) rfl) rfl) (x_dk dn_18_0_0_ok 14 rfl)) nx_m2)))))
  (e_Tok2
  (e_Tok2
  (e_Lok (e_st (I := eI) (er_istore_n (i := 1) (x_dk dn_18_0_0_ok 15 rfl) (by decide +kernel)) nx_stor))
  (e_Lok (e_st (I := eI) (er_iinc (i := 2) (n := 1) (x_dk dn_18_0_0_ok 16 rfl) (by decide +kernel) (by decide)) nx_inc)))
  (e_Tok2
  (e_Lok (e_st (I := eI) (er_goto (off := (-25)) (tg := 4) (x_dk dn_18_0_0_ok 17 rfl) (by decide)) nx_goto))
  (e_Tok2
  (e_Lok (ld_iload_n_1 (x_dk dn_18_0_0_ok 18 rfl)))
  (e_Lok (e_rt (I := eI) (k := 1) ⟨(x_dk dn_18_0_0_ok 19 rfl), rfl⟩)))))))
def te_18 : Nat → eE := te_18_0
theorem te_18_ok : ∀ pc, e_EOq eft cls elay eI n_18 pc (te_18 pc) := te_18_0_ok
theorem ho_19 : (xm_y n_19).cls = "RobotCellHouse$Arm" := rfl
def dn_19_0_0 : List (Nat × Instr × Nat) := [(0, .iconst 0, 1), (1, .istore_n 2, 1), (2, .iconst 0, 1), (3, .istore_n 3, 1), (4, .iload_n 3, 1), (5, .aload_n 0, 1), (6, .getfield 44, 3), (9, .if_icmp .ge 25, 3), (12, .aload_n 0, 1), (13, .getfield 11, 3), (16, .iload_n 3, 1), (17, .aaload, 1), (18, .iload_n 1, 1), (19, .invokevirtual 167, 3), (22, .ifCond .eq 6, 3), (25, .iinc 2 1, 3), (28, .iinc 3 1, 3), (31, .goto (-27), 3), (34, .iload_n 2, 1), (35, .ireturn, 1)]
set_option maxRecDepth 20000 in
theorem dn_19_0_0_ok : dn_19_0_0.all (fun q => decide (decode (xm_b n_19) q.1 = .ok (q.2.1, q.2.2))) = true := xa_g_ok (by decide +kernel)
def te_19_0 : Nat → eE := (e_T 13 (e_T 4 (e_T 1 (e_T 0 (e_L 0 (0, ei_push (0, 0) 1, 0, 0)) (e_L 1 (0, ei_stor 2 0 2, 0, 0))) (e_T 2 (e_L 2 (0, ei_push (0, 0) 3, 0, 0)) (e_T 3 (e_L 3 (0, ei_stor 3 0 4, 0, 0)) (e_L 4 (0, ei_load 3 0 5, 0, 0))))) (e_T 6 (e_T 5 (e_L 5 (0, ei_load 0 2 6, 0, 0)) (e_L 6 (0, ei_getf eft elay 0 8 9, 0, 0))) (e_T 9 (e_L 9 (0, ei_if2 3 34 12, 0, 0)) (e_T 12 (e_L 12 (0, ei_load 0 2 13, 0, 0)) (e_L 13 (0, ei_getf eft elay 0 0 16, 0, 0)))))) (e_T 22 (e_T 17 (e_T 16 (e_L 16 (0, ei_load 3 0 17, 0, 0)) (e_L 17 (0, ei_aald elay 18, 0, 0))) (e_T 18 (e_L 18 (0, ei_load 1 0 19, 0, 0)) (e_T 19 (e_L 19 (2, e_nof, 94, 2)) (e_L 22 (0, ei_if1 0 28 25, 0, 0))))) (e_T 28 (e_T 25 (e_L 25 (0, ei_inc 2 1 28, 0, 0)) (e_L 28 (0, ei_inc 3 1 31, 0, 0))) (e_T 31 (e_L 31 (0, ei_goto 4, 0, 0)) (e_T 34 (e_L 34 (0, ei_load 2 0 35, 0, 0)) (e_L 35 (1, e_nof, 1, 0)))))))
set_option maxRecDepth 20000 in
set_option maxHeartbeats 4000000 in
theorem te_19_0_ok : ∀ pc, e_EOq eft cls elay eI n_19 pc (te_19_0 pc) :=
  (e_Tok2
  (e_Tok2
  (e_Tok2
  (e_Tok2
  (e_Lok (ps_iconst_0 (x_dk dn_19_0_0_ok 0 rfl)))
  (e_Lok (e_st (I := eI) (er_istore_n (i := 2) (x_dk dn_19_0_0_ok 1 rfl) (by decide +kernel)) nx_stor)))
  (e_Tok2
  (e_Lok (ps_iconst_0 (x_dk dn_19_0_0_ok 2 rfl)))
  (e_Tok2
  (e_Lok (e_st (I := eI) (er_istore_n (i := 3) (x_dk dn_19_0_0_ok 3 rfl) (by decide +kernel)) nx_stor))
  (e_Lok (ld_iload_n_3 (x_dk dn_19_0_0_ok 4 rfl))))))
  (e_Tok2
  (e_Tok2
  (e_Lok (ld_aload_n_0 (x_dk dn_19_0_0_ok 5 rfl)))
  (e_Lok (lk_0_44g ho_19 (x_dk dn_19_0_0_ok 6 rfl))))
  (e_Tok2
  (e_Lok (e_st (I := eI) (er_icmpge (off := 25) (tg := 34) (x_dk dn_19_0_0_ok 7 rfl) (by decide)) nx_if2))
  (e_Tok2
  (e_Lok (ld_aload_n_0 (x_dk dn_19_0_0_ok 8 rfl)))
  (e_Lok (lk_0_11g ho_19 (x_dk dn_19_0_0_ok 9 rfl)))))))
  (e_Tok2
  (e_Tok2
  (e_Tok2
  (e_Lok (ld_iload_n_3 (x_dk dn_19_0_0_ok 10 rfl)))
  (e_Lok (e_st (I := eI) (er_aaload (x_dk dn_19_0_0_ok 11 rfl)) nx_aald)))
  (e_Tok2
  (e_Lok (ld_iload_n_1 (x_dk dn_19_0_0_ok 12 rfl)))
  (e_Tok2
  (e_Lok (lk_0_167 ho_19 (x_dk dn_19_0_0_ok 13 rfl)))
  (e_Lok (e_st (I := eI) (er_ifeq (off := 6) (tg := 28) (x_dk dn_19_0_0_ok 14 rfl) (by decide)) nx_if1)))))
  (e_Tok2
  (e_Tok2
  (e_Lok (e_st (I := eI) (er_iinc (i := 2) (n := 1) (x_dk dn_19_0_0_ok 15 rfl) (by decide +kernel) (by decide)) nx_inc))
  (e_Lok (e_st (I := eI) (er_iinc (i := 3) (n := 1) (x_dk dn_19_0_0_ok 16 rfl) (by decide +kernel) (by decide)) nx_inc)))
  (e_Tok2
  (e_Lok (e_st (I := eI) (er_goto (off := (-27)) (tg := 4) (x_dk dn_19_0_0_ok 17 rfl) (by decide)) nx_goto))
  (e_Tok2
  (e_Lok (ld_iload_n_2 (x_dk dn_19_0_0_ok 18 rfl)))
  (e_Lok (e_rt (I := eI) (k := 1) ⟨(x_dk dn_19_0_0_ok 19 rfl), rfl⟩)))))))
def te_19 : Nat → eE := te_19_0
theorem te_19_ok : ∀ pc, e_EOq eft cls elay eI n_19 pc (te_19 pc) := te_19_0_ok
theorem ho_20 : (xm_y n_20).cls = "RobotCellHouse$Code" := rfl
def dn_20_0_0 : List (Nat × Instr × Nat) := [(0, .aload_n 0, 1), (1, .iconst 0, 1), (2, .putfield 18, 3), (5, .aload_n 0, 1), (6, .iconst 0, 1), (7, .putfield 22, 3), (10, .aload_n 0, 1), (11, .iconst 0, 1), (12, .putfield 25, 3), (15, .return_, 1)]
set_option maxRecDepth 20000 in
theorem dn_20_0_0_ok : dn_20_0_0.all (fun q => decide (decode (xm_b n_20) q.1 = .ok (q.2.1, q.2.2))) = true := xa_g_ok (by decide +kernel)
def te_20_0 : Nat → eE := (e_T 6 (e_T 1 (e_T 0 (e_L 0 (0, ei_load 0 2 1, 0, 0)) (e_L 1 (0, ei_push (0, 0) 2, 0, 0))) (e_T 2 (e_L 2 (0, ei_putf eft elay 1 0 0 5, 0, 0)) (e_T 5 (e_L 5 (0, ei_load 0 2 6, 0, 0)) (e_L 6 (0, ei_push (0, 0) 7, 0, 0))))) (e_T 10 (e_T 7 (e_L 7 (0, ei_putf eft elay 1 1 0 10, 0, 0)) (e_L 10 (0, ei_load 0 2 11, 0, 0))) (e_T 11 (e_L 11 (0, ei_push (0, 0) 12, 0, 0)) (e_T 12 (e_L 12 (0, ei_putf eft elay 1 2 0 15, 0, 0)) (e_L 15 (1, e_nof, 0, 0))))))
set_option maxRecDepth 20000 in
set_option maxHeartbeats 4000000 in
theorem te_20_0_ok : ∀ pc, e_EOq eft cls elay eI n_20 pc (te_20_0 pc) :=
  (e_Tok2
  (e_Tok2
  (e_Tok2
  (e_Lok (ld_aload_n_0 (x_dk dn_20_0_0_ok 0 rfl)))
  (e_Lok (ps_iconst_0 (x_dk dn_20_0_0_ok 1 rfl))))
  (e_Tok2
  (e_Lok (lk_1_18p ho_20 (x_dk dn_20_0_0_ok 2 rfl)))
  (e_Tok2
  (e_Lok (ld_aload_n_0 (x_dk dn_20_0_0_ok 3 rfl)))
  (e_Lok (ps_iconst_0 (x_dk dn_20_0_0_ok 4 rfl))))))
  (e_Tok2
  (e_Tok2
  (e_Lok (lk_1_22p ho_20 (x_dk dn_20_0_0_ok 5 rfl)))
  (e_Lok (ld_aload_n_0 (x_dk dn_20_0_0_ok 6 rfl))))
  (e_Tok2
  (e_Lok (ps_iconst_0 (x_dk dn_20_0_0_ok 7 rfl)))
  (e_Tok2
  (e_Lok (lk_1_25p ho_20 (x_dk dn_20_0_0_ok 8 rfl)))
  (e_Lok (e_rt (I := eI) (k := 0) ⟨(x_dk dn_20_0_0_ok 9 rfl), rfl⟩))))))
def te_20 : Nat → eE := te_20_0
theorem te_20_ok : ∀ pc, e_EOq eft cls elay eI n_20 pc (te_20 pc) := te_20_0_ok
theorem ho_21 : (xm_y n_21).cls = "RobotCellHouse$Code" := rfl
def dn_21_0_0 : List (Nat × Instr × Nat) := [(0, .aload_n 0, 1), (1, .getfield 18, 3), (4, .sipush 4000, 3), (7, .if_icmp .lt 10, 3), (10, .aload_n 0, 1), (11, .getfield 18, 3), (14, .iconst 1, 1), (15, .isub, 1), (16, .ireturn, 1), (17, .aload_n 0, 1), (18, .getfield 15, 3), (21, .aload_n 0, 1), (22, .getfield 18, 3), (25, .iload_n 2, 1), (26, .bipush 6, 2), (28, .ishl, 1), (29, .iload_n 1, 1), (30, .ior, 1), (31, .iastore, 1), (32, .aload_n 0, 1), (33, .dup, 1), (34, .getfield 18, 3), (37, .iconst 1, 1), (38, .iadd, 1), (39, .putfield 18, 3)]
set_option maxRecDepth 20000 in
theorem dn_21_0_0_ok : dn_21_0_0.all (fun q => decide (decode (xm_b n_21) q.1 = .ok (q.2.1, q.2.2))) = true := xa_g_ok (by decide +kernel)
def dn_21_0_1 : List (Nat × Instr × Nat) := [(42, .aload_n 0, 1), (43, .getfield 18, 3), (46, .iconst 1, 1), (47, .isub, 1), (48, .ireturn, 1)]
set_option maxRecDepth 20000 in
theorem dn_21_0_1_ok : dn_21_0_1.all (fun q => decide (decode (xm_b n_21) q.1 = .ok (q.2.1, q.2.2))) = true := xa_g_ok (by decide +kernel)
def te_21_0 : Nat → eE := (e_T 26 (e_T 14 (e_T 4 (e_T 0 (e_L 0 (0, ei_load 0 2 1, 0, 0)) (e_T 1 (e_L 1 (0, ei_getf eft elay 1 0 4, 0, 0)) (e_L 4 (0, ei_push (0, 4000) 7, 0, 0)))) (e_T 10 (e_T 7 (e_L 7 (0, ei_if2 2 17 10, 0, 0)) (e_L 10 (0, ei_load 0 2 11, 0, 0))) (e_T 11 (e_L 11 (0, ei_getf eft elay 1 0 14, 0, 0)) (e_L 14 (0, ei_push (0, 1) 15, 0, 0))))) (e_T 18 (e_T 16 (e_T 15 (e_L 15 (0, ei_bin eF_sub 16, 0, 0)) (e_L 16 (1, e_nof, 1, 0))) (e_T 17 (e_L 17 (0, ei_load 0 2 18, 0, 0)) (e_L 18 (0, ei_getf eft elay 1 4 21, 0, 0)))) (e_T 22 (e_T 21 (e_L 21 (0, ei_load 0 2 22, 0, 0)) (e_L 22 (0, ei_getf eft elay 1 0 25, 0, 0))) (e_T 25 (e_L 25 (0, ei_load 2 0 26, 0, 0)) (e_L 26 (0, ei_push (0, 6) 28, 0, 0)))))) (e_T 34 (e_T 30 (e_T 28 (e_L 28 (0, ei_bin (eB (fun x y => x <<< (y &&& 31))) 29, 0, 0)) (e_T 29 (e_L 29 (0, ei_load 1 0 30, 0, 0)) (e_L 30 (0, ei_bin (eB (fun x y => x ||| y)) 31, 0, 0)))) (e_T 32 (e_T 31 (e_L 31 (0, ei_ast elay false 32, 0, 0)) (e_L 32 (0, ei_load 0 2 33, 0, 0))) (e_T 33 (e_L 33 (0, ei_stk ef_dup 34, 0, 0)) (e_L 34 (0, ei_getf eft elay 1 0 37, 0, 0))))) (e_T 42 (e_T 38 (e_T 37 (e_L 37 (0, ei_push (0, 1) 38, 0, 0)) (e_L 38 (0, ei_bin eF_add 39, 0, 0))) (e_T 39 (e_L 39 (0, ei_putf eft elay 1 0 0 42, 0, 0)) (e_L 42 (0, ei_load 0 2 43, 0, 0)))) (e_T 46 (e_T 43 (e_L 43 (0, ei_getf eft elay 1 0 46, 0, 0)) (e_L 46 (0, ei_push (0, 1) 47, 0, 0))) (e_T 47 (e_L 47 (0, ei_bin eF_sub 48, 0, 0)) (e_L 48 (1, e_nof, 1, 0)))))))
set_option maxRecDepth 20000 in
set_option maxHeartbeats 4000000 in
theorem te_21_0_ok : ∀ pc, e_EOq eft cls elay eI n_21 pc (te_21_0 pc) :=
  (e_Tok2
  (e_Tok2
  (e_Tok2
  (e_Tok2
  (e_Lok (ld_aload_n_0 (x_dk dn_21_0_0_ok 0 rfl)))
  (e_Tok2
  (e_Lok (lk_1_18g ho_21 (x_dk dn_21_0_0_ok 1 rfl)))
  (e_Lok (ps_sipush_4000 (x_dk dn_21_0_0_ok 2 rfl)))))
  (e_Tok2
  (e_Tok2
  (e_Lok (e_st (I := eI) (er_icmplt (off := 10) (tg := 17) (x_dk dn_21_0_0_ok 3 rfl) (by decide)) nx_if2))
  (e_Lok (ld_aload_n_0 (x_dk dn_21_0_0_ok 4 rfl))))
  (e_Tok2
  (e_Lok (lk_1_18g ho_21 (x_dk dn_21_0_0_ok 5 rfl)))
  (e_Lok (ps_iconst_1 (x_dk dn_21_0_0_ok 6 rfl))))))
  (e_Tok2
  (e_Tok2
  (e_Tok2
  (e_Lok (sm_isub (x_dk dn_21_0_0_ok 7 rfl)))
  (e_Lok (e_rt (I := eI) (k := 1) ⟨(x_dk dn_21_0_0_ok 8 rfl), rfl⟩)))
  (e_Tok2
  (e_Lok (ld_aload_n_0 (x_dk dn_21_0_0_ok 9 rfl)))
  (e_Lok (lk_1_15g ho_21 (x_dk dn_21_0_0_ok 10 rfl)))))
  (e_Tok2
  (e_Tok2
  (e_Lok (ld_aload_n_0 (x_dk dn_21_0_0_ok 11 rfl)))
  (e_Lok (lk_1_18g ho_21 (x_dk dn_21_0_0_ok 12 rfl))))
  (e_Tok2
  (e_Lok (ld_iload_n_2 (x_dk dn_21_0_0_ok 13 rfl)))
  (e_Lok (ps_bipush_6 (x_dk dn_21_0_0_ok 14 rfl)))))))
  (e_Tok2
  (e_Tok2
  (e_Tok2
  (e_Lok (e_st (I := eI) (er_ishl (x_dk dn_21_0_0_ok 15 rfl)) nx_bin))
  (e_Tok2
  (e_Lok (ld_iload_n_1 (x_dk dn_21_0_0_ok 16 rfl)))
  (e_Lok (e_st (I := eI) (er_ior (x_dk dn_21_0_0_ok 17 rfl)) nx_bin))))
  (e_Tok2
  (e_Tok2
  (e_Lok (sm_iastore (x_dk dn_21_0_0_ok 18 rfl)))
  (e_Lok (ld_aload_n_0 (x_dk dn_21_0_0_ok 19 rfl))))
  (e_Tok2
  (e_Lok (e_st (I := eI) (er_dup (x_dk dn_21_0_0_ok 20 rfl)) (nx_stk bf_dup)))
  (e_Lok (lk_1_18g ho_21 (x_dk dn_21_0_0_ok 21 rfl))))))
  (e_Tok2
  (e_Tok2
  (e_Tok2
  (e_Lok (ps_iconst_1 (x_dk dn_21_0_0_ok 22 rfl)))
  (e_Lok (sm_iadd (x_dk dn_21_0_0_ok 23 rfl))))
  (e_Tok2
  (e_Lok (lk_1_18p ho_21 (x_dk dn_21_0_0_ok 24 rfl)))
  (e_Lok (ld_aload_n_0 (x_dk dn_21_0_1_ok 0 rfl)))))
  (e_Tok2
  (e_Tok2
  (e_Lok (lk_1_18g ho_21 (x_dk dn_21_0_1_ok 1 rfl)))
  (e_Lok (ps_iconst_1 (x_dk dn_21_0_1_ok 2 rfl))))
  (e_Tok2
  (e_Lok (sm_isub (x_dk dn_21_0_1_ok 3 rfl)))
  (e_Lok (e_rt (I := eI) (k := 1) ⟨(x_dk dn_21_0_1_ok 4 rfl), rfl⟩)))))))
def te_21 : Nat → eE := te_21_0
theorem te_21_ok : ∀ pc, e_EOq eft cls elay eI n_21 pc (te_21 pc) := te_21_0_ok
theorem ho_22 : (xm_y n_22).cls = "RobotCellHouse$Code" := rfl
def dn_22_0_0 : List (Nat × Instr × Nat) := [(0, .iload_n 1, 1), (1, .ifCond .lt 31, 3), (4, .iload_n 1, 1), (5, .aload_n 0, 1), (6, .getfield 18, 3), (9, .if_icmp .ge 23, 3), (12, .aload_n 0, 1), (13, .getfield 15, 3), (16, .iload_n 1, 1), (17, .iload_n 2, 1), (18, .bipush 6, 2), (20, .ishl, 1), (21, .aload_n 0, 1), (22, .getfield 15, 3), (25, .iload_n 1, 1), (26, .iaload, 1), (27, .bipush 63, 2), (29, .iand, 1), (30, .ior, 1), (31, .iastore, 1), (32, .return_, 1)]
set_option maxRecDepth 20000 in
theorem dn_22_0_0_ok : dn_22_0_0.all (fun q => decide (decode (xm_b n_22) q.1 = .ok (q.2.1, q.2.2))) = true := xa_g_ok (by decide +kernel)
def te_22_0 : Nat → eE := (e_T 17 (e_T 6 (e_T 1 (e_T 0 (e_L 0 (0, ei_load 1 0 1, 0, 0)) (e_L 1 (0, ei_if1 2 32 4, 0, 0))) (e_T 4 (e_L 4 (0, ei_load 1 0 5, 0, 0)) (e_T 5 (e_L 5 (0, ei_load 0 2 6, 0, 0)) (e_L 6 (0, ei_getf eft elay 1 0 9, 0, 0))))) (e_T 12 (e_T 9 (e_L 9 (0, ei_if2 3 32 12, 0, 0)) (e_L 12 (0, ei_load 0 2 13, 0, 0))) (e_T 13 (e_L 13 (0, ei_getf eft elay 1 4 16, 0, 0)) (e_T 16 (e_L 16 (0, ei_load 1 0 17, 0, 0)) (e_L 17 (0, ei_load 2 0 18, 0, 0)))))) (e_T 25 (e_T 20 (e_T 18 (e_L 18 (0, ei_push (0, 6) 20, 0, 0)) (e_L 20 (0, ei_bin (eB (fun x y => x <<< (y &&& 31))) 21, 0, 0))) (e_T 21 (e_L 21 (0, ei_load 0 2 22, 0, 0)) (e_T 22 (e_L 22 (0, ei_getf eft elay 1 4 25, 0, 0)) (e_L 25 (0, ei_load 1 0 26, 0, 0))))) (e_T 29 (e_T 26 (e_L 26 (0, ei_ald elay false 27, 0, 0)) (e_T 27 (e_L 27 (0, ei_push (0, 63) 29, 0, 0)) (e_L 29 (0, ei_bin (eB (fun x y => x &&& y)) 30, 0, 0)))) (e_T 30 (e_L 30 (0, ei_bin (eB (fun x y => x ||| y)) 31, 0, 0)) (e_T 31 (e_L 31 (0, ei_ast elay false 32, 0, 0)) (e_L 32 (1, e_nof, 0, 0)))))))
set_option maxRecDepth 20000 in
set_option maxHeartbeats 4000000 in
theorem te_22_0_ok : ∀ pc, e_EOq eft cls elay eI n_22 pc (te_22_0 pc) :=
  (e_Tok2
  (e_Tok2
  (e_Tok2
  (e_Tok2
  (e_Lok (ld_iload_n_1 (x_dk dn_22_0_0_ok 0 rfl)))
  (e_Lok (e_st (I := eI) (er_iflt (off := 31) (tg := 32) (x_dk dn_22_0_0_ok 1 rfl) (by decide)) nx_if1)))
  (e_Tok2
  (e_Lok (ld_iload_n_1 (x_dk dn_22_0_0_ok 2 rfl)))
  (e_Tok2
  (e_Lok (ld_aload_n_0 (x_dk dn_22_0_0_ok 3 rfl)))
  (e_Lok (lk_1_18g ho_22 (x_dk dn_22_0_0_ok 4 rfl))))))
  (e_Tok2
  (e_Tok2
  (e_Lok (e_st (I := eI) (er_icmpge (off := 23) (tg := 32) (x_dk dn_22_0_0_ok 5 rfl) (by decide)) nx_if2))
  (e_Lok (ld_aload_n_0 (x_dk dn_22_0_0_ok 6 rfl))))
  (e_Tok2
  (e_Lok (lk_1_15g ho_22 (x_dk dn_22_0_0_ok 7 rfl)))
  (e_Tok2
  (e_Lok (ld_iload_n_1 (x_dk dn_22_0_0_ok 8 rfl)))
  (e_Lok (ld_iload_n_2 (x_dk dn_22_0_0_ok 9 rfl)))))))
  (e_Tok2
  (e_Tok2
  (e_Tok2
  (e_Lok (ps_bipush_6 (x_dk dn_22_0_0_ok 10 rfl)))
  (e_Lok (e_st (I := eI) (er_ishl (x_dk dn_22_0_0_ok 11 rfl)) nx_bin)))
  (e_Tok2
  (e_Lok (ld_aload_n_0 (x_dk dn_22_0_0_ok 12 rfl)))
  (e_Tok2
  (e_Lok (lk_1_15g ho_22 (x_dk dn_22_0_0_ok 13 rfl)))
  (e_Lok (ld_iload_n_1 (x_dk dn_22_0_0_ok 14 rfl))))))
  (e_Tok2
  (e_Tok2
  (e_Lok (sm_iaload (x_dk dn_22_0_0_ok 15 rfl)))
  (e_Tok2
  (e_Lok (ps_bipush_63 (x_dk dn_22_0_0_ok 16 rfl)))
  (e_Lok (e_st (I := eI) (er_iand (x_dk dn_22_0_0_ok 17 rfl)) nx_bin))))
  (e_Tok2
  (e_Lok (e_st (I := eI) (er_ior (x_dk dn_22_0_0_ok 18 rfl)) nx_bin))
  (e_Tok2
  (e_Lok (sm_iastore (x_dk dn_22_0_0_ok 19 rfl)))
  (e_Lok (e_rt (I := eI) (k := 0) ⟨(x_dk dn_22_0_0_ok 20 rfl), rfl⟩)))))))
def te_22 : Nat → eE := te_22_0
theorem te_22_ok : ∀ pc, e_EOq eft cls elay eI n_22 pc (te_22 pc) := te_22_0_ok
theorem ho_23 : (xm_y n_23).cls = "RobotCellHouse$Code" := rfl
def dn_23_0_0 : List (Nat × Instr × Nat) := [(0, .iload_n 1, 1), (1, .ifCond .lt 23, 3), (4, .iload_n 1, 1), (5, .aload_n 0, 1), (6, .getfield 18, 3), (9, .if_icmp .ge 15, 3), (12, .aload_n 0, 1), (13, .getfield 15, 3), (16, .iload_n 1, 1), (17, .iaload, 1), (18, .bipush 63, 2), (20, .iand, 1), (21, .goto 5, 3), (24, .bipush 43, 2), (26, .ireturn, 1)]
set_option maxRecDepth 20000 in
theorem dn_23_0_0_ok : dn_23_0_0.all (fun q => decide (decode (xm_b n_23) q.1 = .ok (q.2.1, q.2.2))) = true := xa_g_ok (by decide +kernel)
def te_23_0 : Nat → eE := (e_T 12 (e_T 4 (e_T 0 (e_L 0 (0, ei_load 1 0 1, 0, 0)) (e_T 1 (e_L 1 (0, ei_if1 2 24 4, 0, 0)) (e_L 4 (0, ei_load 1 0 5, 0, 0)))) (e_T 6 (e_T 5 (e_L 5 (0, ei_load 0 2 6, 0, 0)) (e_L 6 (0, ei_getf eft elay 1 0 9, 0, 0))) (e_T 9 (e_L 9 (0, ei_if2 3 24 12, 0, 0)) (e_L 12 (0, ei_load 0 2 13, 0, 0))))) (e_T 18 (e_T 16 (e_T 13 (e_L 13 (0, ei_getf eft elay 1 4 16, 0, 0)) (e_L 16 (0, ei_load 1 0 17, 0, 0))) (e_T 17 (e_L 17 (0, ei_ald elay false 18, 0, 0)) (e_L 18 (0, ei_push (0, 63) 20, 0, 0)))) (e_T 21 (e_T 20 (e_L 20 (0, ei_bin (eB (fun x y => x &&& y)) 21, 0, 0)) (e_L 21 (0, ei_goto 26, 0, 0))) (e_T 24 (e_L 24 (0, ei_push (0, 43) 26, 0, 0)) (e_L 26 (1, e_nof, 1, 0))))))
set_option maxRecDepth 20000 in
set_option maxHeartbeats 4000000 in
theorem te_23_0_ok : ∀ pc, e_EOq eft cls elay eI n_23 pc (te_23_0 pc) :=
  (e_Tok2
  (e_Tok2
  (e_Tok2
  (e_Lok (ld_iload_n_1 (x_dk dn_23_0_0_ok 0 rfl)))
  (e_Tok2
  (e_Lok (e_st (I := eI) (er_iflt (off := 23) (tg := 24) (x_dk dn_23_0_0_ok 1 rfl) (by decide)) nx_if1))
  (e_Lok (ld_iload_n_1 (x_dk dn_23_0_0_ok 2 rfl)))))
  (e_Tok2
  (e_Tok2
  (e_Lok (ld_aload_n_0 (x_dk dn_23_0_0_ok 3 rfl)))
  (e_Lok (lk_1_18g ho_23 (x_dk dn_23_0_0_ok 4 rfl))))
  (e_Tok2
  (e_Lok (e_st (I := eI) (er_icmpge (off := 15) (tg := 24) (x_dk dn_23_0_0_ok 5 rfl) (by decide)) nx_if2))
  (e_Lok (ld_aload_n_0 (x_dk dn_23_0_0_ok 6 rfl))))))
  (e_Tok2
  (e_Tok2
  (e_Tok2
  (e_Lok (lk_1_15g ho_23 (x_dk dn_23_0_0_ok 7 rfl)))
  (e_Lok (ld_iload_n_1 (x_dk dn_23_0_0_ok 8 rfl))))
  (e_Tok2
  (e_Lok (sm_iaload (x_dk dn_23_0_0_ok 9 rfl)))
  (e_Lok (ps_bipush_63 (x_dk dn_23_0_0_ok 10 rfl)))))
  (e_Tok2
  (e_Tok2
  (e_Lok (e_st (I := eI) (er_iand (x_dk dn_23_0_0_ok 11 rfl)) nx_bin))
  (e_Lok (e_st (I := eI) (er_goto (off := 5) (tg := 26) (x_dk dn_23_0_0_ok 12 rfl) (by decide)) nx_goto)))
  (e_Tok2
  (e_Lok (ps_bipush_43 (x_dk dn_23_0_0_ok 13 rfl)))
  (e_Lok (e_rt (I := eI) (k := 1) ⟨(x_dk dn_23_0_0_ok 14 rfl), rfl⟩))))))
def te_23 : Nat → eE := te_23_0
theorem te_23_ok : ∀ pc, e_EOq eft cls elay eI n_23 pc (te_23 pc) := te_23_0_ok
theorem ho_24 : (xm_y n_24).cls = "RobotCellHouse$Code" := rfl
def dn_24_0_0 : List (Nat × Instr × Nat) := [(0, .iload_n 1, 1), (1, .ifCond .lt 23, 3), (4, .iload_n 1, 1), (5, .aload_n 0, 1), (6, .getfield 18, 3), (9, .if_icmp .ge 15, 3), (12, .aload_n 0, 1), (13, .getfield 15, 3), (16, .iload_n 1, 1), (17, .iaload, 1), (18, .bipush 6, 2), (20, .ishr, 1), (21, .goto 4, 3), (24, .iconst 0, 1), (25, .ireturn, 1)]
set_option maxRecDepth 20000 in
theorem dn_24_0_0_ok : dn_24_0_0.all (fun q => decide (decode (xm_b n_24) q.1 = .ok (q.2.1, q.2.2))) = true := xa_g_ok (by decide +kernel)
def te_24_0 : Nat → eE := (e_T 12 (e_T 4 (e_T 0 (e_L 0 (0, ei_load 1 0 1, 0, 0)) (e_T 1 (e_L 1 (0, ei_if1 2 24 4, 0, 0)) (e_L 4 (0, ei_load 1 0 5, 0, 0)))) (e_T 6 (e_T 5 (e_L 5 (0, ei_load 0 2 6, 0, 0)) (e_L 6 (0, ei_getf eft elay 1 0 9, 0, 0))) (e_T 9 (e_L 9 (0, ei_if2 3 24 12, 0, 0)) (e_L 12 (0, ei_load 0 2 13, 0, 0))))) (e_T 18 (e_T 16 (e_T 13 (e_L 13 (0, ei_getf eft elay 1 4 16, 0, 0)) (e_L 16 (0, ei_load 1 0 17, 0, 0))) (e_T 17 (e_L 17 (0, ei_ald elay false 18, 0, 0)) (e_L 18 (0, ei_push (0, 6) 20, 0, 0)))) (e_T 21 (e_T 20 (e_L 20 (0, ei_bin (eB (fun x y => x >>> (y &&& 31))) 21, 0, 0)) (e_L 21 (0, ei_goto 25, 0, 0))) (e_T 24 (e_L 24 (0, ei_push (0, 0) 25, 0, 0)) (e_L 25 (1, e_nof, 1, 0))))))
set_option maxRecDepth 20000 in
set_option maxHeartbeats 4000000 in
theorem te_24_0_ok : ∀ pc, e_EOq eft cls elay eI n_24 pc (te_24_0 pc) :=
  (e_Tok2
  (e_Tok2
  (e_Tok2
  (e_Lok (ld_iload_n_1 (x_dk dn_24_0_0_ok 0 rfl)))
  (e_Tok2
  (e_Lok (e_st (I := eI) (er_iflt (off := 23) (tg := 24) (x_dk dn_24_0_0_ok 1 rfl) (by decide)) nx_if1))
  (e_Lok (ld_iload_n_1 (x_dk dn_24_0_0_ok 2 rfl)))))
  (e_Tok2
  (e_Tok2
  (e_Lok (ld_aload_n_0 (x_dk dn_24_0_0_ok 3 rfl)))
  (e_Lok (lk_1_18g ho_24 (x_dk dn_24_0_0_ok 4 rfl))))
  (e_Tok2
  (e_Lok (e_st (I := eI) (er_icmpge (off := 15) (tg := 24) (x_dk dn_24_0_0_ok 5 rfl) (by decide)) nx_if2))
  (e_Lok (ld_aload_n_0 (x_dk dn_24_0_0_ok 6 rfl))))))
  (e_Tok2
  (e_Tok2
  (e_Tok2
  (e_Lok (lk_1_15g ho_24 (x_dk dn_24_0_0_ok 7 rfl)))
  (e_Lok (ld_iload_n_1 (x_dk dn_24_0_0_ok 8 rfl))))
  (e_Tok2
  (e_Lok (sm_iaload (x_dk dn_24_0_0_ok 9 rfl)))
  (e_Lok (ps_bipush_6 (x_dk dn_24_0_0_ok 10 rfl)))))
  (e_Tok2
  (e_Tok2
  (e_Lok (e_st (I := eI) (er_ishr (x_dk dn_24_0_0_ok 11 rfl)) nx_bin))
  (e_Lok (e_st (I := eI) (er_goto (off := 4) (tg := 25) (x_dk dn_24_0_0_ok 12 rfl) (by decide)) nx_goto)))
  (e_Tok2
  (e_Lok (ps_iconst_0 (x_dk dn_24_0_0_ok 13 rfl)))
  (e_Lok (e_rt (I := eI) (k := 1) ⟨(x_dk dn_24_0_0_ok 14 rfl), rfl⟩))))))
def te_24 : Nat → eE := te_24_0
theorem te_24_ok : ∀ pc, e_EOq eft cls elay eI n_24 pc (te_24 pc) := te_24_0_ok
theorem ho_25 : (xm_y n_25).cls = "RobotCellHouse$Core" := rfl
def dn_25_0_0 : List (Nat × Instr × Nat) := [(0, .aload_n 0, 1), (1, .iconst 0, 1), (2, .putfield 34, 3), (5, .iconst 0, 1), (6, .istore_n 1, 1), (7, .iload_n 1, 1), (8, .bipush 8, 2), (10, .if_icmp .ge 16, 3), (13, .aload_n 0, 1), (14, .getfield 18, 3), (17, .iload_n 1, 1), (18, .iconst 0, 1), (19, .bastore, 1), (20, .iinc 1 1, 3), (23, .goto (-16), 3), (26, .return_, 1)]
set_option maxRecDepth 20000 in
theorem dn_25_0_0_ok : dn_25_0_0.all (fun q => decide (decode (xm_b n_25) q.1 = .ok (q.2.1, q.2.2))) = true := xa_g_ok (by decide +kernel)
def te_25_0 : Nat → eE := (e_T 10 (e_T 5 (e_T 1 (e_T 0 (e_L 0 (0, ei_load 0 2 1, 0, 0)) (e_L 1 (0, ei_push (0, 0) 2, 0, 0))) (e_T 2 (e_L 2 (0, ei_putf eft elay 2 2 0 5, 0, 0)) (e_L 5 (0, ei_push (0, 0) 6, 0, 0)))) (e_T 7 (e_T 6 (e_L 6 (0, ei_stor 1 0 7, 0, 0)) (e_L 7 (0, ei_load 1 0 8, 0, 0))) (e_T 8 (e_L 8 (0, ei_push (0, 8) 10, 0, 0)) (e_L 10 (0, ei_if2 3 26 13, 0, 0))))) (e_T 18 (e_T 14 (e_T 13 (e_L 13 (0, ei_load 0 2 14, 0, 0)) (e_L 14 (0, ei_getf eft elay 2 10 17, 0, 0))) (e_T 17 (e_L 17 (0, ei_load 1 0 18, 0, 0)) (e_L 18 (0, ei_push (0, 0) 19, 0, 0)))) (e_T 20 (e_T 19 (e_L 19 (0, ei_ast elay true 20, 0, 0)) (e_L 20 (0, ei_inc 1 1 23, 0, 0))) (e_T 23 (e_L 23 (0, ei_goto 7, 0, 0)) (e_L 26 (1, e_nof, 0, 0))))))
set_option maxRecDepth 20000 in
set_option maxHeartbeats 4000000 in
theorem te_25_0_ok : ∀ pc, e_EOq eft cls elay eI n_25 pc (te_25_0 pc) :=
  (e_Tok2
  (e_Tok2
  (e_Tok2
  (e_Tok2
  (e_Lok (ld_aload_n_0 (x_dk dn_25_0_0_ok 0 rfl)))
  (e_Lok (ps_iconst_0 (x_dk dn_25_0_0_ok 1 rfl))))
  (e_Tok2
  (e_Lok (lk_2_34p ho_25 (x_dk dn_25_0_0_ok 2 rfl)))
  (e_Lok (ps_iconst_0 (x_dk dn_25_0_0_ok 3 rfl)))))
  (e_Tok2
  (e_Tok2
  (e_Lok (e_st (I := eI) (er_istore_n (i := 1) (x_dk dn_25_0_0_ok 4 rfl) (by decide +kernel)) nx_stor))
  (e_Lok (ld_iload_n_1 (x_dk dn_25_0_0_ok 5 rfl))))
  (e_Tok2
  (e_Lok (ps_bipush_8 (x_dk dn_25_0_0_ok 6 rfl)))
  (e_Lok (e_st (I := eI) (er_icmpge (off := 16) (tg := 26) (x_dk dn_25_0_0_ok 7 rfl) (by decide)) nx_if2)))))
  (e_Tok2
  (e_Tok2
  (e_Tok2
  (e_Lok (ld_aload_n_0 (x_dk dn_25_0_0_ok 8 rfl)))
  (e_Lok (lk_2_18g ho_25 (x_dk dn_25_0_0_ok 9 rfl))))
  (e_Tok2
  (e_Lok (ld_iload_n_1 (x_dk dn_25_0_0_ok 10 rfl)))
  (e_Lok (ps_iconst_0 (x_dk dn_25_0_0_ok 11 rfl)))))
  (e_Tok2
  (e_Tok2
  (e_Lok (e_st (I := eI) (er_bastore (x_dk dn_25_0_0_ok 12 rfl)) nx_ast))
  (e_Lok (e_st (I := eI) (er_iinc (i := 1) (n := 1) (x_dk dn_25_0_0_ok 13 rfl) (by decide +kernel) (by decide)) nx_inc)))
  (e_Tok2
  (e_Lok (e_st (I := eI) (er_goto (off := (-16)) (tg := 7) (x_dk dn_25_0_0_ok 14 rfl) (by decide)) nx_goto))
  (e_Lok (e_rt (I := eI) (k := 0) ⟨(x_dk dn_25_0_0_ok 15 rfl), rfl⟩))))))
def te_25 : Nat → eE := te_25_0
theorem te_25_ok : ∀ pc, e_EOq eft cls elay eI n_25 pc (te_25 pc) := te_25_0_ok
theorem ho_26 : (xm_y n_26).cls = "RobotCellHouse$Core" := rfl
def dn_26_0_0 : List (Nat × Instr × Nat) := [(0, .aload_n 0, 1), (1, .iconst 0, 1), (2, .putfield 38, 3), (5, .aload_n 0, 1), (6, .iconst 0, 1), (7, .putfield 41, 3), (10, .aload_n 0, 1), (11, .iconst 0, 1), (12, .putfield 44, 3), (15, .aload_n 0, 1), (16, .iconst 0, 1), (17, .putfield 48, 3), (20, .aload_n 0, 1), (21, .iconst 0, 1), (22, .putfield 51, 3), (25, .aload_n 0, 1), (26, .iconst 0, 1), (27, .putfield 54, 3), (30, .aload_n 0, 1), (31, .iconst 0, 1), (32, .putfield 57, 3), (35, .iconst 0, 1), (36, .istore_n 1, 1), (37, .iload_n 1, 1), (38, .bipush 8, 2)]
set_option maxRecDepth 20000 in
theorem dn_26_0_0_ok : dn_26_0_0.all (fun q => decide (decode (xm_b n_26) q.1 = .ok (q.2.1, q.2.2))) = true := xa_g_ok (by decide +kernel)
def dn_26_0_1 : List (Nat × Instr × Nat) := [(40, .if_icmp .ge 37, 3), (43, .aload_n 0, 1), (44, .getfield 22, 3), (47, .iload_n 1, 1), (48, .iconst 1, 1), (49, .bastore, 1), (50, .aload_n 0, 1), (51, .getfield 25, 3), (54, .iload_n 1, 1), (55, .iconst 1, 1), (56, .bastore, 1), (57, .aload_n 0, 1), (58, .getfield 28, 3), (61, .iload_n 1, 1), (62, .iconst 0, 1), (63, .bastore, 1), (64, .aload_n 0, 1), (65, .getfield 31, 3), (68, .iload_n 1, 1), (69, .iconst 0, 1), (70, .iastore, 1), (71, .iinc 1 1, 3), (74, .goto (-37), 3), (77, .return_, 1)]
set_option maxRecDepth 20000 in
theorem dn_26_0_1_ok : dn_26_0_1.all (fun q => decide (decode (xm_b n_26) q.1 = .ok (q.2.1, q.2.2))) = true := xa_g_ok (by decide +kernel)
def te_26_0 : Nat → eE := (e_T 17 (e_T 7 (e_T 2 (e_T 0 (e_L 0 (0, ei_load 0 2 1, 0, 0)) (e_T 1 (e_L 1 (0, ei_push (0, 0) 2, 0, 0)) (e_L 2 (0, ei_putf eft elay 2 0 0 5, 0, 0)))) (e_T 5 (e_L 5 (0, ei_load 0 2 6, 0, 0)) (e_T 6 (e_L 6 (0, ei_push (0, 0) 7, 0, 0)) (e_L 7 (0, ei_putf eft elay 2 1 0 10, 0, 0))))) (e_T 12 (e_T 10 (e_L 10 (0, ei_load 0 2 11, 0, 0)) (e_T 11 (e_L 11 (0, ei_push (0, 0) 12, 0, 0)) (e_L 12 (0, ei_putf eft elay 2 3 1 15, 0, 0)))) (e_T 15 (e_L 15 (0, ei_load 0 2 16, 0, 0)) (e_T 16 (e_L 16 (0, ei_push (0, 0) 17, 0, 0)) (e_L 17 (0, ei_putf eft elay 2 4 0 20, 0, 0)))))) (e_T 27 (e_T 22 (e_T 20 (e_L 20 (0, ei_load 0 2 21, 0, 0)) (e_T 21 (e_L 21 (0, ei_push (0, 0) 22, 0, 0)) (e_L 22 (0, ei_putf eft elay 2 5 0 25, 0, 0)))) (e_T 25 (e_L 25 (0, ei_load 0 2 26, 0, 0)) (e_T 26 (e_L 26 (0, ei_push (0, 0) 27, 0, 0)) (e_L 27 (0, ei_putf eft elay 2 6 0 30, 0, 0))))) (e_T 32 (e_T 30 (e_L 30 (0, ei_load 0 2 31, 0, 0)) (e_T 31 (e_L 31 (0, ei_push (0, 0) 32, 0, 0)) (e_L 32 (0, ei_putf eft elay 2 7 1 35, 0, 0)))) (e_T 35 (e_L 35 (0, ei_push (0, 0) 36, 0, 0)) (e_T 36 (e_L 36 (0, ei_stor 1 0 37, 0, 0)) (e_L 37 (0, ei_load 1 0 38, 0, 0)))))))
set_option maxRecDepth 20000 in
set_option maxHeartbeats 4000000 in
theorem te_26_0_ok : ∀ pc, e_EOq eft cls elay eI n_26 pc (te_26_0 pc) :=
  (e_Tok2
  (e_Tok2
  (e_Tok2
  (e_Tok2
  (e_Lok (ld_aload_n_0 (x_dk dn_26_0_0_ok 0 rfl)))
  (e_Tok2
  (e_Lok (ps_iconst_0 (x_dk dn_26_0_0_ok 1 rfl)))
  (e_Lok (lk_2_38p ho_26 (x_dk dn_26_0_0_ok 2 rfl)))))
  (e_Tok2
  (e_Lok (ld_aload_n_0 (x_dk dn_26_0_0_ok 3 rfl)))
  (e_Tok2
  (e_Lok (ps_iconst_0 (x_dk dn_26_0_0_ok 4 rfl)))
  (e_Lok (lk_2_41p ho_26 (x_dk dn_26_0_0_ok 5 rfl))))))
  (e_Tok2
  (e_Tok2
  (e_Lok (ld_aload_n_0 (x_dk dn_26_0_0_ok 6 rfl)))
  (e_Tok2
  (e_Lok (ps_iconst_0 (x_dk dn_26_0_0_ok 7 rfl)))
  (e_Lok (lk_2_44p ho_26 (x_dk dn_26_0_0_ok 8 rfl)))))
  (e_Tok2
  (e_Lok (ld_aload_n_0 (x_dk dn_26_0_0_ok 9 rfl)))
  (e_Tok2
  (e_Lok (ps_iconst_0 (x_dk dn_26_0_0_ok 10 rfl)))
  (e_Lok (lk_2_48p ho_26 (x_dk dn_26_0_0_ok 11 rfl)))))))
  (e_Tok2
  (e_Tok2
  (e_Tok2
  (e_Lok (ld_aload_n_0 (x_dk dn_26_0_0_ok 12 rfl)))
  (e_Tok2
  (e_Lok (ps_iconst_0 (x_dk dn_26_0_0_ok 13 rfl)))
  (e_Lok (lk_2_51p ho_26 (x_dk dn_26_0_0_ok 14 rfl)))))
  (e_Tok2
  (e_Lok (ld_aload_n_0 (x_dk dn_26_0_0_ok 15 rfl)))
  (e_Tok2
  (e_Lok (ps_iconst_0 (x_dk dn_26_0_0_ok 16 rfl)))
  (e_Lok (lk_2_54p ho_26 (x_dk dn_26_0_0_ok 17 rfl))))))
  (e_Tok2
  (e_Tok2
  (e_Lok (ld_aload_n_0 (x_dk dn_26_0_0_ok 18 rfl)))
  (e_Tok2
  (e_Lok (ps_iconst_0 (x_dk dn_26_0_0_ok 19 rfl)))
  (e_Lok (lk_2_57p ho_26 (x_dk dn_26_0_0_ok 20 rfl)))))
  (e_Tok2
  (e_Lok (ps_iconst_0 (x_dk dn_26_0_0_ok 21 rfl)))
  (e_Tok2
  (e_Lok (e_st (I := eI) (er_istore_n (i := 1) (x_dk dn_26_0_0_ok 22 rfl) (by decide +kernel)) nx_stor))
  (e_Lok (ld_iload_n_1 (x_dk dn_26_0_0_ok 23 rfl))))))))
def te_26_24 : Nat → eE := (e_T 56 (e_T 48 (e_T 43 (e_T 38 (e_L 38 (0, ei_push (0, 8) 40, 0, 0)) (e_T 40 (e_L 40 (0, ei_if2 3 77 43, 0, 0)) (e_L 43 (0, ei_load 0 2 44, 0, 0)))) (e_T 44 (e_L 44 (0, ei_getf eft elay 2 11 47, 0, 0)) (e_T 47 (e_L 47 (0, ei_load 1 0 48, 0, 0)) (e_L 48 (0, ei_push (0, 1) 49, 0, 0))))) (e_T 51 (e_T 49 (e_L 49 (0, ei_ast elay true 50, 0, 0)) (e_T 50 (e_L 50 (0, ei_load 0 2 51, 0, 0)) (e_L 51 (0, ei_getf eft elay 2 12 54, 0, 0)))) (e_T 54 (e_L 54 (0, ei_load 1 0 55, 0, 0)) (e_T 55 (e_L 55 (0, ei_push (0, 1) 56, 0, 0)) (e_L 56 (0, ei_ast elay true 57, 0, 0)))))) (e_T 64 (e_T 61 (e_T 57 (e_L 57 (0, ei_load 0 2 58, 0, 0)) (e_T 58 (e_L 58 (0, ei_getf eft elay 2 13 61, 0, 0)) (e_L 61 (0, ei_load 1 0 62, 0, 0)))) (e_T 62 (e_L 62 (0, ei_push (0, 0) 63, 0, 0)) (e_T 63 (e_L 63 (0, ei_ast elay true 64, 0, 0)) (e_L 64 (0, ei_load 0 2 65, 0, 0))))) (e_T 69 (e_T 65 (e_L 65 (0, ei_getf eft elay 2 14 68, 0, 0)) (e_T 68 (e_L 68 (0, ei_load 1 0 69, 0, 0)) (e_L 69 (0, ei_push (0, 0) 70, 0, 0)))) (e_T 71 (e_T 70 (e_L 70 (0, ei_ast elay false 71, 0, 0)) (e_L 71 (0, ei_inc 1 1 74, 0, 0))) (e_T 74 (e_L 74 (0, ei_goto 37, 0, 0)) (e_L 77 (1, e_nof, 0, 0)))))))
set_option maxRecDepth 20000 in
set_option maxHeartbeats 4000000 in
theorem te_26_24_ok : ∀ pc, e_EOq eft cls elay eI n_26 pc (te_26_24 pc) :=
  (e_Tok2
  (e_Tok2
  (e_Tok2
  (e_Tok2
  (e_Lok (ps_bipush_8 (x_dk dn_26_0_0_ok 24 rfl)))
  (e_Tok2
  (e_Lok (e_st (I := eI) (er_icmpge (off := 37) (tg := 77) (x_dk dn_26_0_1_ok 0 rfl) (by decide)) nx_if2))
  (e_Lok (ld_aload_n_0 (x_dk dn_26_0_1_ok 1 rfl)))))
  (e_Tok2
  (e_Lok (lk_2_22g ho_26 (x_dk dn_26_0_1_ok 2 rfl)))
  (e_Tok2
  (e_Lok (ld_iload_n_1 (x_dk dn_26_0_1_ok 3 rfl)))
  (e_Lok (ps_iconst_1 (x_dk dn_26_0_1_ok 4 rfl))))))
  (e_Tok2
  (e_Tok2
  (e_Lok (e_st (I := eI) (er_bastore (x_dk dn_26_0_1_ok 5 rfl)) nx_ast))
  (e_Tok2
  (e_Lok (ld_aload_n_0 (x_dk dn_26_0_1_ok 6 rfl)))
  (e_Lok (lk_2_25g ho_26 (x_dk dn_26_0_1_ok 7 rfl)))))
  (e_Tok2
  (e_Lok (ld_iload_n_1 (x_dk dn_26_0_1_ok 8 rfl)))
  (e_Tok2
  (e_Lok (ps_iconst_1 (x_dk dn_26_0_1_ok 9 rfl)))
  (e_Lok (e_st (I := eI) (er_bastore (x_dk dn_26_0_1_ok 10 rfl)) nx_ast))))))
  (e_Tok2
  (e_Tok2
  (e_Tok2
  (e_Lok (ld_aload_n_0 (x_dk dn_26_0_1_ok 11 rfl)))
  (e_Tok2
  (e_Lok (lk_2_28g ho_26 (x_dk dn_26_0_1_ok 12 rfl)))
  (e_Lok (ld_iload_n_1 (x_dk dn_26_0_1_ok 13 rfl)))))
  (e_Tok2
  (e_Lok (ps_iconst_0 (x_dk dn_26_0_1_ok 14 rfl)))
  (e_Tok2
  (e_Lok (e_st (I := eI) (er_bastore (x_dk dn_26_0_1_ok 15 rfl)) nx_ast))
  (e_Lok (ld_aload_n_0 (x_dk dn_26_0_1_ok 16 rfl))))))
  (e_Tok2
  (e_Tok2
  (e_Lok (lk_2_31g ho_26 (x_dk dn_26_0_1_ok 17 rfl)))
  (e_Tok2
  (e_Lok (ld_iload_n_1 (x_dk dn_26_0_1_ok 18 rfl)))
  (e_Lok (ps_iconst_0 (x_dk dn_26_0_1_ok 19 rfl)))))
  (e_Tok2
  (e_Tok2
  (e_Lok (sm_iastore (x_dk dn_26_0_1_ok 20 rfl)))
  (e_Lok (e_st (I := eI) (er_iinc (i := 1) (n := 1) (x_dk dn_26_0_1_ok 21 rfl) (by decide +kernel) (by decide)) nx_inc)))
  (e_Tok2
  (e_Lok (e_st (I := eI) (er_goto (off := (-37)) (tg := 37) (x_dk dn_26_0_1_ok 22 rfl) (by decide)) nx_goto))
  (e_Lok (e_rt (I := eI) (k := 0) ⟨(x_dk dn_26_0_1_ok 23 rfl), rfl⟩)))))))
def te_26 : Nat → eE := (e_T 37 te_26_0 te_26_24)
theorem te_26_ok : ∀ pc, e_EOq eft cls elay eI n_26 pc (te_26 pc) := (e_Tok2 (te_26_0_ok) (te_26_24_ok))
theorem ho_27 : (xm_y n_27).cls = "RobotCellHouse$Core" := rfl
def dn_27_0_0 : List (Nat × Instr × Nat) := [(0, .aload_n 0, 1), (1, .getfield 41, 3), (4, .sipush 2000, 3), (7, .if_icmp .ge 52, 3), (10, .aload_n 0, 1), (11, .getfield 41, 3), (14, .iconst 4, 1), (15, .imul, 1), (16, .istore 4, 2), (18, .aload_n 0, 1), (19, .getfield 11, 3), (22, .iload 4, 2), (24, .aload_n 0, 1), (25, .getfield 38, 3), (28, .iastore, 1), (29, .aload_n 0, 1), (30, .getfield 11, 3), (33, .iload 4, 2), (35, .iconst 1, 1), (36, .iadd, 1), (37, .iload_n 1, 1), (38, .iastore, 1), (39, .aload_n 0, 1), (40, .getfield 11, 3), (43, .iload 4, 2)]
set_option maxRecDepth 20000 in
theorem dn_27_0_0_ok : dn_27_0_0.all (fun q => decide (decode (xm_b n_27) q.1 = .ok (q.2.1, q.2.2))) = true := xa_g_ok (by decide +kernel)
def dn_27_0_1 : List (Nat × Instr × Nat) := [(45, .iconst 2, 1), (46, .iadd, 1), (47, .iload_n 2, 1), (48, .iastore, 1), (49, .aload_n 0, 1), (50, .getfield 11, 3), (53, .iload 4, 2), (55, .iconst 3, 1), (56, .iadd, 1), (57, .iload_n 3, 1), (58, .iastore, 1), (59, .aload_n 0, 1), (60, .dup, 1), (61, .getfield 41, 3), (64, .iconst 1, 1), (65, .iadd, 1), (66, .putfield 41, 3), (69, .return_, 1)]
set_option maxRecDepth 20000 in
theorem dn_27_0_1_ok : dn_27_0_1.all (fun q => decide (decode (xm_b n_27) q.1 = .ok (q.2.1, q.2.2))) = true := xa_g_ok (by decide +kernel)
def te_27_0 : Nat → eE := (e_T 18 (e_T 10 (e_T 1 (e_T 0 (e_L 0 (0, ei_load 0 2 1, 0, 0)) (e_L 1 (0, ei_getf eft elay 2 1 4, 0, 0))) (e_T 4 (e_L 4 (0, ei_push (0, 2000) 7, 0, 0)) (e_T 7 (e_L 7 (0, ei_if2 3 59 10, 0, 0)) (e_L 10 (0, ei_load 0 2 11, 0, 0))))) (e_T 14 (e_T 11 (e_L 11 (0, ei_getf eft elay 2 1 14, 0, 0)) (e_L 14 (0, ei_push (0, 4) 15, 0, 0))) (e_T 15 (e_L 15 (0, ei_bin eF_mul 16, 0, 0)) (e_T 16 (e_L 16 (0, ei_stor 4 0 18, 0, 0)) (e_L 18 (0, ei_load 0 2 19, 0, 0)))))) (e_T 28 (e_T 22 (e_T 19 (e_L 19 (0, ei_getf eft elay 2 8 22, 0, 0)) (e_L 22 (0, ei_load 4 0 24, 0, 0))) (e_T 24 (e_L 24 (0, ei_load 0 2 25, 0, 0)) (e_T 25 (e_L 25 (0, ei_getf eft elay 2 0 28, 0, 0)) (e_L 28 (0, ei_ast elay false 29, 0, 0))))) (e_T 33 (e_T 29 (e_L 29 (0, ei_load 0 2 30, 0, 0)) (e_T 30 (e_L 30 (0, ei_getf eft elay 2 8 33, 0, 0)) (e_L 33 (0, ei_load 4 0 35, 0, 0)))) (e_T 35 (e_L 35 (0, ei_push (0, 1) 36, 0, 0)) (e_T 36 (e_L 36 (0, ei_bin eF_add 37, 0, 0)) (e_L 37 (0, ei_load 1 0 38, 0, 0)))))))
set_option maxRecDepth 20000 in
set_option maxHeartbeats 4000000 in
theorem te_27_0_ok : ∀ pc, e_EOq eft cls elay eI n_27 pc (te_27_0 pc) :=
  (e_Tok2
  (e_Tok2
  (e_Tok2
  (e_Tok2
  (e_Lok (ld_aload_n_0 (x_dk dn_27_0_0_ok 0 rfl)))
  (e_Lok (lk_2_41g ho_27 (x_dk dn_27_0_0_ok 1 rfl))))
  (e_Tok2
  (e_Lok (ps_sipush_2000 (x_dk dn_27_0_0_ok 2 rfl)))
  (e_Tok2
  (e_Lok (e_st (I := eI) (er_icmpge (off := 52) (tg := 59) (x_dk dn_27_0_0_ok 3 rfl) (by decide)) nx_if2))
  (e_Lok (ld_aload_n_0 (x_dk dn_27_0_0_ok 4 rfl))))))
  (e_Tok2
  (e_Tok2
  (e_Lok (lk_2_41g ho_27 (x_dk dn_27_0_0_ok 5 rfl)))
  (e_Lok (ps_iconst_4 (x_dk dn_27_0_0_ok 6 rfl))))
  (e_Tok2
  (e_Lok (sm_imul (x_dk dn_27_0_0_ok 7 rfl)))
  (e_Tok2
  (e_Lok (e_st (I := eI) (er_istore (i := 4) (x_dk dn_27_0_0_ok 8 rfl) (by decide +kernel)) nx_stor))
  (e_Lok (ld_aload_n_0 (x_dk dn_27_0_0_ok 9 rfl)))))))
  (e_Tok2
  (e_Tok2
  (e_Tok2
  (e_Lok (lk_2_11g ho_27 (x_dk dn_27_0_0_ok 10 rfl)))
  (e_Lok (ld_iload_4 (x_dk dn_27_0_0_ok 11 rfl))))
  (e_Tok2
  (e_Lok (ld_aload_n_0 (x_dk dn_27_0_0_ok 12 rfl)))
  (e_Tok2
  (e_Lok (lk_2_38g ho_27 (x_dk dn_27_0_0_ok 13 rfl)))
  (e_Lok (sm_iastore (x_dk dn_27_0_0_ok 14 rfl))))))
  (e_Tok2
  (e_Tok2
  (e_Lok (ld_aload_n_0 (x_dk dn_27_0_0_ok 15 rfl)))
  (e_Tok2
  (e_Lok (lk_2_11g ho_27 (x_dk dn_27_0_0_ok 16 rfl)))
  (e_Lok (ld_iload_4 (x_dk dn_27_0_0_ok 17 rfl)))))
  (e_Tok2
  (e_Lok (ps_iconst_1 (x_dk dn_27_0_0_ok 18 rfl)))
  (e_Tok2
  (e_Lok (sm_iadd (x_dk dn_27_0_0_ok 19 rfl)))
  (e_Lok (ld_iload_n_1 (x_dk dn_27_0_0_ok 20 rfl))))))))
def te_27_21 : Nat → eE := (e_T 53 (e_T 45 (e_T 39 (e_T 38 (e_L 38 (0, ei_ast elay false 39, 0, 0)) (e_L 39 (0, ei_load 0 2 40, 0, 0))) (e_T 40 (e_L 40 (0, ei_getf eft elay 2 8 43, 0, 0)) (e_T 43 (e_L 43 (0, ei_load 4 0 45, 0, 0)) (e_L 45 (0, ei_push (0, 2) 46, 0, 0))))) (e_T 48 (e_T 46 (e_L 46 (0, ei_bin eF_add 47, 0, 0)) (e_T 47 (e_L 47 (0, ei_load 2 0 48, 0, 0)) (e_L 48 (0, ei_ast elay false 49, 0, 0)))) (e_T 49 (e_L 49 (0, ei_load 0 2 50, 0, 0)) (e_T 50 (e_L 50 (0, ei_getf eft elay 2 8 53, 0, 0)) (e_L 53 (0, ei_load 4 0 55, 0, 0)))))) (e_T 59 (e_T 56 (e_T 55 (e_L 55 (0, ei_push (0, 3) 56, 0, 0)) (e_L 56 (0, ei_bin eF_add 57, 0, 0))) (e_T 57 (e_L 57 (0, ei_load 3 0 58, 0, 0)) (e_T 58 (e_L 58 (0, ei_ast elay false 59, 0, 0)) (e_L 59 (0, ei_load 0 2 60, 0, 0))))) (e_T 64 (e_T 60 (e_L 60 (0, ei_stk ef_dup 61, 0, 0)) (e_T 61 (e_L 61 (0, ei_getf eft elay 2 1 64, 0, 0)) (e_L 64 (0, ei_push (0, 1) 65, 0, 0)))) (e_T 65 (e_L 65 (0, ei_bin eF_add 66, 0, 0)) (e_T 66 (e_L 66 (0, ei_putf eft elay 2 1 0 69, 0, 0)) (e_L 69 (1, e_nof, 0, 0)))))))
set_option maxRecDepth 20000 in
set_option maxHeartbeats 4000000 in
theorem te_27_21_ok : ∀ pc, e_EOq eft cls elay eI n_27 pc (te_27_21 pc) :=
  (e_Tok2
  (e_Tok2
  (e_Tok2
  (e_Tok2
  (e_Lok (sm_iastore (x_dk dn_27_0_0_ok 21 rfl)))
  (e_Lok (ld_aload_n_0 (x_dk dn_27_0_0_ok 22 rfl))))
  (e_Tok2
  (e_Lok (lk_2_11g ho_27 (x_dk dn_27_0_0_ok 23 rfl)))
  (e_Tok2
  (e_Lok (ld_iload_4 (x_dk dn_27_0_0_ok 24 rfl)))
  (e_Lok (ps_iconst_2 (x_dk dn_27_0_1_ok 0 rfl))))))
  (e_Tok2
  (e_Tok2
  (e_Lok (sm_iadd (x_dk dn_27_0_1_ok 1 rfl)))
  (e_Tok2
  (e_Lok (ld_iload_n_2 (x_dk dn_27_0_1_ok 2 rfl)))
  (e_Lok (sm_iastore (x_dk dn_27_0_1_ok 3 rfl)))))
  (e_Tok2
  (e_Lok (ld_aload_n_0 (x_dk dn_27_0_1_ok 4 rfl)))
  (e_Tok2
  (e_Lok (lk_2_11g ho_27 (x_dk dn_27_0_1_ok 5 rfl)))
  (e_Lok (ld_iload_4 (x_dk dn_27_0_1_ok 6 rfl)))))))
  (e_Tok2
  (e_Tok2
  (e_Tok2
  (e_Lok (ps_iconst_3 (x_dk dn_27_0_1_ok 7 rfl)))
  (e_Lok (sm_iadd (x_dk dn_27_0_1_ok 8 rfl))))
  (e_Tok2
  (e_Lok (ld_iload_n_3 (x_dk dn_27_0_1_ok 9 rfl)))
  (e_Tok2
  (e_Lok (sm_iastore (x_dk dn_27_0_1_ok 10 rfl)))
  (e_Lok (ld_aload_n_0 (x_dk dn_27_0_1_ok 11 rfl))))))
  (e_Tok2
  (e_Tok2
  (e_Lok (e_st (I := eI) (er_dup (x_dk dn_27_0_1_ok 12 rfl)) (nx_stk bf_dup)))
  (e_Tok2
  (e_Lok (lk_2_41g ho_27 (x_dk dn_27_0_1_ok 13 rfl)))
  (e_Lok (ps_iconst_1 (x_dk dn_27_0_1_ok 14 rfl)))))
  (e_Tok2
  (e_Lok (sm_iadd (x_dk dn_27_0_1_ok 15 rfl)))
  (e_Tok2
  (e_Lok (lk_2_41p ho_27 (x_dk dn_27_0_1_ok 16 rfl)))
  (e_Lok (e_rt (I := eI) (k := 0) ⟨(x_dk dn_27_0_1_ok 17 rfl), rfl⟩)))))))
def te_27 : Nat → eE := (e_T 37 te_27_0 te_27_21)
theorem te_27_ok : ∀ pc, e_EOq eft cls elay eI n_27 pc (te_27 pc) := (e_Tok2 (te_27_0_ok) (te_27_21_ok))
theorem ho_28 : (xm_y n_28).cls = "RobotCellHouse$Core" := rfl
def dn_28_0_0 : List (Nat × Instr × Nat) := [(0, .aload_n 0, 1), (1, .getfield 22, 3), (4, .iload_n 1, 1), (5, .iload_n 2, 1), (6, .bastore, 1), (7, .aload_n 0, 1), (8, .getfield 25, 3), (11, .iload_n 1, 1), (12, .iload_n 3, 1), (13, .bastore, 1), (14, .iconst 0, 1), (15, .ireturn, 1)]
set_option maxRecDepth 20000 in
theorem dn_28_0_0_ok : dn_28_0_0.all (fun q => decide (decode (xm_b n_28) q.1 = .ok (q.2.1, q.2.2))) = true := xa_g_ok (by decide +kernel)
def te_28_0 : Nat → eE := (e_T 7 (e_T 4 (e_T 0 (e_L 0 (0, ei_load 0 2 1, 0, 0)) (e_T 1 (e_L 1 (0, ei_getf eft elay 2 11 4, 0, 0)) (e_L 4 (0, ei_load 1 0 5, 0, 0)))) (e_T 5 (e_L 5 (0, ei_load 2 0 6, 0, 0)) (e_T 6 (e_L 6 (0, ei_ast elay true 7, 0, 0)) (e_L 7 (0, ei_load 0 2 8, 0, 0))))) (e_T 12 (e_T 8 (e_L 8 (0, ei_getf eft elay 2 12 11, 0, 0)) (e_T 11 (e_L 11 (0, ei_load 1 0 12, 0, 0)) (e_L 12 (0, ei_load 3 0 13, 0, 0)))) (e_T 13 (e_L 13 (0, ei_ast elay true 14, 0, 0)) (e_T 14 (e_L 14 (0, ei_push (0, 0) 15, 0, 0)) (e_L 15 (1, e_nof, 1, 0))))))
set_option maxRecDepth 20000 in
set_option maxHeartbeats 4000000 in
theorem te_28_0_ok : ∀ pc, e_EOq eft cls elay eI n_28 pc (te_28_0 pc) :=
  (e_Tok2
  (e_Tok2
  (e_Tok2
  (e_Lok (ld_aload_n_0 (x_dk dn_28_0_0_ok 0 rfl)))
  (e_Tok2
  (e_Lok (lk_2_22g ho_28 (x_dk dn_28_0_0_ok 1 rfl)))
  (e_Lok (ld_iload_n_1 (x_dk dn_28_0_0_ok 2 rfl)))))
  (e_Tok2
  (e_Lok (ld_iload_n_2 (x_dk dn_28_0_0_ok 3 rfl)))
  (e_Tok2
  (e_Lok (e_st (I := eI) (er_bastore (x_dk dn_28_0_0_ok 4 rfl)) nx_ast))
  (e_Lok (ld_aload_n_0 (x_dk dn_28_0_0_ok 5 rfl))))))
  (e_Tok2
  (e_Tok2
  (e_Lok (lk_2_25g ho_28 (x_dk dn_28_0_0_ok 6 rfl)))
  (e_Tok2
  (e_Lok (ld_iload_n_1 (x_dk dn_28_0_0_ok 7 rfl)))
  (e_Lok (ld_iload_n_3 (x_dk dn_28_0_0_ok 8 rfl)))))
  (e_Tok2
  (e_Lok (e_st (I := eI) (er_bastore (x_dk dn_28_0_0_ok 9 rfl)) nx_ast))
  (e_Tok2
  (e_Lok (ps_iconst_0 (x_dk dn_28_0_0_ok 10 rfl)))
  (e_Lok (e_rt (I := eI) (k := 1) ⟨(x_dk dn_28_0_0_ok 11 rfl), rfl⟩))))))
def te_28 : Nat → eE := te_28_0
theorem te_28_ok : ∀ pc, e_EOq eft cls elay eI n_28 pc (te_28 pc) := te_28_0_ok
theorem ho_29 : (xm_y n_29).cls = "RobotCellHouse$Core" := rfl
def dn_29_0_0 : List (Nat × Instr × Nat) := [(0, .aload_n 0, 1), (1, .getfield 22, 3), (4, .iload_n 1, 1), (5, .baload, 1), (6, .ifCond .eq 25, 3), (9, .aload_n 0, 1), (10, .getfield 25, 3), (13, .iload_n 1, 1), (14, .baload, 1), (15, .ifCond .eq 16, 3), (18, .aload_n 0, 1), (19, .getfield 28, 3), (22, .iload_n 1, 1), (23, .baload, 1), (24, .ifCond .ne 7, 3), (27, .iconst 1, 1), (28, .goto 4, 3), (31, .iconst 0, 1), (32, .ireturn, 1)]
set_option maxRecDepth 20000 in
theorem dn_29_0_0_ok : dn_29_0_0.all (fun q => decide (decode (xm_b n_29) q.1 = .ok (q.2.1, q.2.2))) = true := xa_g_ok (by decide +kernel)
def te_29_0 : Nat → eE := (e_T 14 (e_T 5 (e_T 1 (e_T 0 (e_L 0 (0, ei_load 0 2 1, 0, 0)) (e_L 1 (0, ei_getf eft elay 2 11 4, 0, 0))) (e_T 4 (e_L 4 (0, ei_load 1 0 5, 0, 0)) (e_L 5 (0, ei_ald elay true 6, 0, 0)))) (e_T 9 (e_T 6 (e_L 6 (0, ei_if1 0 31 9, 0, 0)) (e_L 9 (0, ei_load 0 2 10, 0, 0))) (e_T 10 (e_L 10 (0, ei_getf eft elay 2 12 13, 0, 0)) (e_T 13 (e_L 13 (0, ei_load 1 0 14, 0, 0)) (e_L 14 (0, ei_ald elay true 15, 0, 0)))))) (e_T 23 (e_T 18 (e_T 15 (e_L 15 (0, ei_if1 0 31 18, 0, 0)) (e_L 18 (0, ei_load 0 2 19, 0, 0))) (e_T 19 (e_L 19 (0, ei_getf eft elay 2 13 22, 0, 0)) (e_T 22 (e_L 22 (0, ei_load 1 0 23, 0, 0)) (e_L 23 (0, ei_ald elay true 24, 0, 0))))) (e_T 27 (e_T 24 (e_L 24 (0, ei_if1 1 31 27, 0, 0)) (e_L 27 (0, ei_push (0, 1) 28, 0, 0))) (e_T 28 (e_L 28 (0, ei_goto 32, 0, 0)) (e_T 31 (e_L 31 (0, ei_push (0, 0) 32, 0, 0)) (e_L 32 (1, e_nof, 4, 0)))))))
set_option maxRecDepth 20000 in
set_option maxHeartbeats 4000000 in
theorem te_29_0_ok : ∀ pc, e_EOq eft cls elay eI n_29 pc (te_29_0 pc) :=
  (e_Tok2
  (e_Tok2
  (e_Tok2
  (e_Tok2
  (e_Lok (ld_aload_n_0 (x_dk dn_29_0_0_ok 0 rfl)))
  (e_Lok (lk_2_22g ho_29 (x_dk dn_29_0_0_ok 1 rfl))))
  (e_Tok2
  (e_Lok (ld_iload_n_1 (x_dk dn_29_0_0_ok 2 rfl)))
  (e_Lok (e_st (I := eI) (er_baload (x_dk dn_29_0_0_ok 3 rfl)) nx_ald))))
  (e_Tok2
  (e_Tok2
  (e_Lok (e_st (I := eI) (er_ifeq (off := 25) (tg := 31) (x_dk dn_29_0_0_ok 4 rfl) (by decide)) nx_if1))
  (e_Lok (ld_aload_n_0 (x_dk dn_29_0_0_ok 5 rfl))))
  (e_Tok2
  (e_Lok (lk_2_25g ho_29 (x_dk dn_29_0_0_ok 6 rfl)))
  (e_Tok2
  (e_Lok (ld_iload_n_1 (x_dk dn_29_0_0_ok 7 rfl)))
  (e_Lok (e_st (I := eI) (er_baload (x_dk dn_29_0_0_ok 8 rfl)) nx_ald))))))
  (e_Tok2
  (e_Tok2
  (e_Tok2
  (e_Lok (e_st (I := eI) (er_ifeq (off := 16) (tg := 31) (x_dk dn_29_0_0_ok 9 rfl) (by decide)) nx_if1))
  (e_Lok (ld_aload_n_0 (x_dk dn_29_0_0_ok 10 rfl))))
  (e_Tok2
  (e_Lok (lk_2_28g ho_29 (x_dk dn_29_0_0_ok 11 rfl)))
  (e_Tok2
  (e_Lok (ld_iload_n_1 (x_dk dn_29_0_0_ok 12 rfl)))
  (e_Lok (e_st (I := eI) (er_baload (x_dk dn_29_0_0_ok 13 rfl)) nx_ald)))))
  (e_Tok2
  (e_Tok2
  (e_Lok (e_st (I := eI) (er_ifne (off := 7) (tg := 31) (x_dk dn_29_0_0_ok 14 rfl) (by decide)) nx_if1))
  (e_Lok (ps_iconst_1 (x_dk dn_29_0_0_ok 15 rfl))))
  (e_Tok2
  (e_Lok (e_st (I := eI) (er_goto (off := 4) (tg := 32) (x_dk dn_29_0_0_ok 16 rfl) (by decide)) nx_goto))
  (e_Tok2
  (e_Lok (ps_iconst_0 (x_dk dn_29_0_0_ok 17 rfl)))
  (e_Lok (e_rt (I := eI) (k := 4) ⟨(x_dk dn_29_0_0_ok 18 rfl), rfl⟩)))))))
def te_29 : Nat → eE := te_29_0
theorem te_29_ok : ∀ pc, e_EOq eft cls elay eI n_29 pc (te_29 pc) := te_29_0_ok
theorem ho_30 : (xm_y n_30).cls = "RobotCellHouse$Core" := rfl
def dn_30_0_0 : List (Nat × Instr × Nat) := [(0, .aload_n 0, 1), (1, .getfield 28, 3), (4, .iload_n 1, 1), (5, .baload, 1), (6, .ifCond .eq 5, 3), (9, .iconst 2, 1), (10, .ireturn, 1), (11, .aload_n 0, 1), (12, .iload_n 1, 1), (13, .invokevirtual 60, 3), (16, .ifCond .eq 7, 3), (19, .iconst 1, 1), (20, .goto 4, 3), (23, .iconst 0, 1), (24, .ireturn, 1)]
set_option maxRecDepth 20000 in
theorem dn_30_0_0_ok : dn_30_0_0.all (fun q => decide (decode (xm_b n_30) q.1 = .ok (q.2.1, q.2.2))) = true := xa_g_ok (by decide +kernel)
def te_30_0 : Nat → eE := (e_T 10 (e_T 4 (e_T 0 (e_L 0 (0, ei_load 0 2 1, 0, 0)) (e_T 1 (e_L 1 (0, ei_getf eft elay 2 13 4, 0, 0)) (e_L 4 (0, ei_load 1 0 5, 0, 0)))) (e_T 6 (e_T 5 (e_L 5 (0, ei_ald elay true 6, 0, 0)) (e_L 6 (0, ei_if1 0 11 9, 0, 0))) (e_T 9 (e_L 9 (0, ei_push (0, 2) 10, 0, 0)) (e_L 10 (1, e_nof, 1, 0))))) (e_T 16 (e_T 12 (e_T 11 (e_L 11 (0, ei_load 0 2 12, 0, 0)) (e_L 12 (0, ei_load 1 0 13, 0, 0))) (e_T 13 (e_L 13 (2, e_nof, 29, 2)) (e_L 16 (0, ei_if1 0 23 19, 0, 0)))) (e_T 20 (e_T 19 (e_L 19 (0, ei_push (0, 1) 20, 0, 0)) (e_L 20 (0, ei_goto 24, 0, 0))) (e_T 23 (e_L 23 (0, ei_push (0, 0) 24, 0, 0)) (e_L 24 (1, e_nof, 1, 0))))))
set_option maxRecDepth 20000 in
set_option maxHeartbeats 4000000 in
theorem te_30_0_ok : ∀ pc, e_EOq eft cls elay eI n_30 pc (te_30_0 pc) :=
  (e_Tok2
  (e_Tok2
  (e_Tok2
  (e_Lok (ld_aload_n_0 (x_dk dn_30_0_0_ok 0 rfl)))
  (e_Tok2
  (e_Lok (lk_2_28g ho_30 (x_dk dn_30_0_0_ok 1 rfl)))
  (e_Lok (ld_iload_n_1 (x_dk dn_30_0_0_ok 2 rfl)))))
  (e_Tok2
  (e_Tok2
  (e_Lok (e_st (I := eI) (er_baload (x_dk dn_30_0_0_ok 3 rfl)) nx_ald))
  (e_Lok (e_st (I := eI) (er_ifeq (off := 5) (tg := 11) (x_dk dn_30_0_0_ok 4 rfl) (by decide)) nx_if1)))
  (e_Tok2
  (e_Lok (ps_iconst_2 (x_dk dn_30_0_0_ok 5 rfl)))
  (e_Lok (e_rt (I := eI) (k := 1) ⟨(x_dk dn_30_0_0_ok 6 rfl), rfl⟩)))))
  (e_Tok2
  (e_Tok2
  (e_Tok2
  (e_Lok (ld_aload_n_0 (x_dk dn_30_0_0_ok 7 rfl)))
  (e_Lok (ld_iload_n_1 (x_dk dn_30_0_0_ok 8 rfl))))
  (e_Tok2
  (e_Lok (lk_2_60 ho_30 (x_dk dn_30_0_0_ok 9 rfl)))
  (e_Lok (e_st (I := eI) (er_ifeq (off := 7) (tg := 23) (x_dk dn_30_0_0_ok 10 rfl) (by decide)) nx_if1))))
  (e_Tok2
  (e_Tok2
  (e_Lok (ps_iconst_1 (x_dk dn_30_0_0_ok 11 rfl)))
  (e_Lok (e_st (I := eI) (er_goto (off := 4) (tg := 24) (x_dk dn_30_0_0_ok 12 rfl) (by decide)) nx_goto)))
  (e_Tok2
  (e_Lok (ps_iconst_0 (x_dk dn_30_0_0_ok 13 rfl)))
  (e_Lok (e_rt (I := eI) (k := 1) ⟨(x_dk dn_30_0_0_ok 14 rfl), rfl⟩))))))
def te_30 : Nat → eE := te_30_0
theorem te_30_ok : ∀ pc, e_EOq eft cls elay eI n_30 pc (te_30 pc) := te_30_0_ok
theorem ho_31 : (xm_y n_31).cls = "RobotCellHouse$Core" := rfl
def dn_31_0_0 : List (Nat × Instr × Nat) := [(0, .iconst 0, 1), (1, .istore_n 1, 1), (2, .iload_n 1, 1), (3, .aload_n 0, 1), (4, .getfield 34, 3), (7, .if_icmp .ge 29, 3), (10, .aload_n 0, 1), (11, .getfield 22, 3), (14, .iload_n 1, 1), (15, .baload, 1), (16, .ifCond .eq 12, 3), (19, .aload_n 0, 1), (20, .getfield 25, 3), (23, .iload_n 1, 1), (24, .baload, 1), (25, .ifCond .ne 5, 3), (28, .iconst 0, 1), (29, .ireturn, 1), (30, .iinc 1 1, 3), (33, .goto (-31), 3), (36, .iconst 1, 1), (37, .ireturn, 1)]
set_option maxRecDepth 20000 in
theorem dn_31_0_0_ok : dn_31_0_0.all (fun q => decide (decode (xm_b n_31) q.1 = .ok (q.2.1, q.2.2))) = true := xa_g_ok (by decide +kernel)
def te_31_0 : Nat → eE := (e_T 16 (e_T 4 (e_T 1 (e_T 0 (e_L 0 (0, ei_push (0, 0) 1, 0, 0)) (e_L 1 (0, ei_stor 1 0 2, 0, 0))) (e_T 2 (e_L 2 (0, ei_load 1 0 3, 0, 0)) (e_T 3 (e_L 3 (0, ei_load 0 2 4, 0, 0)) (e_L 4 (0, ei_getf eft elay 2 2 7, 0, 0))))) (e_T 11 (e_T 7 (e_L 7 (0, ei_if2 3 36 10, 0, 0)) (e_T 10 (e_L 10 (0, ei_load 0 2 11, 0, 0)) (e_L 11 (0, ei_getf eft elay 2 11 14, 0, 0)))) (e_T 14 (e_L 14 (0, ei_load 1 0 15, 0, 0)) (e_T 15 (e_L 15 (0, ei_ald elay true 16, 0, 0)) (e_L 16 (0, ei_if1 0 28 19, 0, 0)))))) (e_T 25 (e_T 20 (e_T 19 (e_L 19 (0, ei_load 0 2 20, 0, 0)) (e_L 20 (0, ei_getf eft elay 2 12 23, 0, 0))) (e_T 23 (e_L 23 (0, ei_load 1 0 24, 0, 0)) (e_T 24 (e_L 24 (0, ei_ald elay true 25, 0, 0)) (e_L 25 (0, ei_if1 1 30 28, 0, 0))))) (e_T 30 (e_T 28 (e_L 28 (0, ei_push (0, 0) 29, 0, 0)) (e_T 29 (e_L 29 (1, e_nof, 4, 0)) (e_L 30 (0, ei_inc 1 1 33, 0, 0)))) (e_T 33 (e_L 33 (0, ei_goto 2, 0, 0)) (e_T 36 (e_L 36 (0, ei_push (0, 1) 37, 0, 0)) (e_L 37 (1, e_nof, 4, 0)))))))
set_option maxRecDepth 20000 in
set_option maxHeartbeats 4000000 in
theorem te_31_0_ok : ∀ pc, e_EOq eft cls elay eI n_31 pc (te_31_0 pc) :=
  (e_Tok2
  (e_Tok2
  (e_Tok2
  (e_Tok2
  (e_Lok (ps_iconst_0 (x_dk dn_31_0_0_ok 0 rfl)))
  (e_Lok (e_st (I := eI) (er_istore_n (i := 1) (x_dk dn_31_0_0_ok 1 rfl) (by decide +kernel)) nx_stor)))
  (e_Tok2
  (e_Lok (ld_iload_n_1 (x_dk dn_31_0_0_ok 2 rfl)))
  (e_Tok2
  (e_Lok (ld_aload_n_0 (x_dk dn_31_0_0_ok 3 rfl)))
  (e_Lok (lk_2_34g ho_31 (x_dk dn_31_0_0_ok 4 rfl))))))
  (e_Tok2
  (e_Tok2
  (e_Lok (e_st (I := eI) (er_icmpge (off := 29) (tg := 36) (x_dk dn_31_0_0_ok 5 rfl) (by decide)) nx_if2))
  (e_Tok2
  (e_Lok (ld_aload_n_0 (x_dk dn_31_0_0_ok 6 rfl)))
  (e_Lok (lk_2_22g ho_31 (x_dk dn_31_0_0_ok 7 rfl)))))
  (e_Tok2
  (e_Lok (ld_iload_n_1 (x_dk dn_31_0_0_ok 8 rfl)))
  (e_Tok2
  (e_Lok (e_st (I := eI) (er_baload (x_dk dn_31_0_0_ok 9 rfl)) nx_ald))
  (e_Lok (e_st (I := eI) (er_ifeq (off := 12) (tg := 28) (x_dk dn_31_0_0_ok 10 rfl) (by decide)) nx_if1))))))
  (e_Tok2
  (e_Tok2
  (e_Tok2
  (e_Lok (ld_aload_n_0 (x_dk dn_31_0_0_ok 11 rfl)))
  (e_Lok (lk_2_25g ho_31 (x_dk dn_31_0_0_ok 12 rfl))))
  (e_Tok2
  (e_Lok (ld_iload_n_1 (x_dk dn_31_0_0_ok 13 rfl)))
  (e_Tok2
  (e_Lok (e_st (I := eI) (er_baload (x_dk dn_31_0_0_ok 14 rfl)) nx_ald))
  (e_Lok (e_st (I := eI) (er_ifne (off := 5) (tg := 30) (x_dk dn_31_0_0_ok 15 rfl) (by decide)) nx_if1)))))
  (e_Tok2
  (e_Tok2
  (e_Lok (ps_iconst_0 (x_dk dn_31_0_0_ok 16 rfl)))
  (e_Tok2
  (e_Lok (e_rt (I := eI) (k := 4) ⟨(x_dk dn_31_0_0_ok 17 rfl), rfl⟩))
  (e_Lok (e_st (I := eI) (er_iinc (i := 1) (n := 1) (x_dk dn_31_0_0_ok 18 rfl) (by decide +kernel) (by decide)) nx_inc))))
  (e_Tok2
  (e_Lok (e_st (I := eI) (er_goto (off := (-31)) (tg := 2) (x_dk dn_31_0_0_ok 19 rfl) (by decide)) nx_goto))
  (e_Tok2
  (e_Lok (ps_iconst_1 (x_dk dn_31_0_0_ok 20 rfl)))
  (e_Lok (e_rt (I := eI) (k := 4) ⟨(x_dk dn_31_0_0_ok 21 rfl), rfl⟩)))))))
def te_31 : Nat → eE := te_31_0
theorem te_31_ok : ∀ pc, e_EOq eft cls elay eI n_31 pc (te_31 pc) := te_31_0_ok
theorem ho_32 : (xm_y n_32).cls = "RobotCellHouse$Core" := rfl
def dn_32_0_0 : List (Nat × Instr × Nat) := [(0, .iconst (-1), 1), (1, .istore_n 1, 1), (2, .aload_n 0, 1), (3, .getfield 34, 3), (6, .iconst 1, 1), (7, .isub, 1), (8, .istore_n 2, 1), (9, .iload_n 2, 1), (10, .ifCond .lt 74, 3), (13, .aload_n 0, 1), (14, .getfield 31, 3), (17, .iload_n 2, 1), (18, .aload_n 0, 1), (19, .getfield 22, 3), (22, .iload_n 2, 1), (23, .baload, 1), (24, .aload_n 0, 1), (25, .getfield 25, 3), (28, .iload_n 2, 1), (29, .baload, 1), (30, .if_icmp .ne 7, 3), (33, .iconst 0, 1), (34, .goto 11, 3), (37, .aload_n 0, 1), (38, .getfield 31, 3)]
set_option maxRecDepth 20000 in
theorem dn_32_0_0_ok : dn_32_0_0.all (fun q => decide (decode (xm_b n_32) q.1 = .ok (q.2.1, q.2.2))) = true := xa_g_ok (by decide +kernel)
def dn_32_0_1 : List (Nat × Instr × Nat) := [(41, .iload_n 2, 1), (42, .iaload, 1), (43, .iconst 1, 1), (44, .iadd, 1), (45, .iastore, 1), (46, .aload_n 0, 1), (47, .getfield 31, 3), (50, .iload_n 2, 1), (51, .iaload, 1), (52, .aload_n 0, 1), (53, .getfield 15, 3), (56, .iload_n 2, 1), (57, .iaload, 1), (58, .if_icmp .le 10, 3), (61, .aload_n 0, 1), (62, .getfield 28, 3), (65, .iload_n 2, 1), (66, .iconst 1, 1), (67, .bastore, 1), (68, .aload_n 0, 1), (69, .iload_n 2, 1), (70, .invokevirtual 60, 3), (73, .ifCond .ne 5, 3), (76, .iload_n 2, 1), (77, .istore_n 1, 1)]
set_option maxRecDepth 20000 in
theorem dn_32_0_1_ok : dn_32_0_1.all (fun q => decide (decode (xm_b n_32) q.1 = .ok (q.2.1, q.2.2))) = true := xa_g_ok (by decide +kernel)
def dn_32_0_2 : List (Nat × Instr × Nat) := [(78, .iinc 2 (-1), 3), (81, .goto (-72), 3), (84, .iload_n 1, 1), (85, .ireturn, 1)]
set_option maxRecDepth 20000 in
theorem dn_32_0_2_ok : dn_32_0_2.all (fun q => decide (decode (xm_b n_32) q.1 = .ok (q.2.1, q.2.2))) = true := xa_g_ok (by decide +kernel)
def te_32_0 : Nat → eE := (e_T 18 (e_T 7 (e_T 2 (e_T 0 (e_L 0 (0, ei_push (0, (-1)) 1, 0, 0)) (e_T 1 (e_L 1 (0, ei_stor 1 0 2, 0, 0)) (e_L 2 (0, ei_load 0 2 3, 0, 0)))) (e_T 3 (e_L 3 (0, ei_getf eft elay 2 2 6, 0, 0)) (e_T 6 (e_L 6 (0, ei_push (0, 1) 7, 0, 0)) (e_L 7 (0, ei_bin eF_sub 8, 0, 0))))) (e_T 10 (e_T 8 (e_L 8 (0, ei_stor 2 0 9, 0, 0)) (e_T 9 (e_L 9 (0, ei_load 2 0 10, 0, 0)) (e_L 10 (0, ei_if1 2 84 13, 0, 0)))) (e_T 14 (e_T 13 (e_L 13 (0, ei_load 0 2 14, 0, 0)) (e_L 14 (0, ei_getf eft elay 2 14 17, 0, 0))) (e_T 17 (e_L 17 (0, ei_load 2 0 18, 0, 0)) (e_L 18 (0, ei_load 0 2 19, 0, 0)))))) (e_T 29 (e_T 23 (e_T 19 (e_L 19 (0, ei_getf eft elay 2 11 22, 0, 0)) (e_T 22 (e_L 22 (0, ei_load 2 0 23, 0, 0)) (e_L 23 (0, ei_ald elay true 24, 0, 0)))) (e_T 25 (e_T 24 (e_L 24 (0, ei_load 0 2 25, 0, 0)) (e_L 25 (0, ei_getf eft elay 2 12 28, 0, 0))) (e_T 28 (e_L 28 (0, ei_load 2 0 29, 0, 0)) (e_L 29 (0, ei_ald elay true 30, 0, 0))))) (e_T 34 (e_T 30 (e_L 30 (0, ei_if2 1 37 33, 0, 0)) (e_T 33 (e_L 33 (0, ei_push (0, 0) 34, 0, 0)) (e_L 34 (0, ei_goto 45, 0, 0)))) (e_T 38 (e_T 37 (e_L 37 (0, ei_load 0 2 38, 0, 0)) (e_L 38 (0, ei_getf eft elay 2 14 41, 0, 0))) (e_T 41 (e_L 41 (0, ei_load 2 0 42, 0, 0)) (e_L 42 (0, ei_ald elay false 43, 0, 0)))))))
set_option maxRecDepth 20000 in
set_option maxHeartbeats 4000000 in
theorem te_32_0_ok : ∀ pc, e_EOq eft cls elay eI n_32 pc (te_32_0 pc) :=
  (e_Tok2
  (e_Tok2
  (e_Tok2
  (e_Tok2
  (e_Lok (ps_iconst_m1 (x_dk dn_32_0_0_ok 0 rfl)))
  (e_Tok2
  (e_Lok (e_st (I := eI) (er_istore_n (i := 1) (x_dk dn_32_0_0_ok 1 rfl) (by decide +kernel)) nx_stor))
  (e_Lok (ld_aload_n_0 (x_dk dn_32_0_0_ok 2 rfl)))))
  (e_Tok2
  (e_Lok (lk_2_34g ho_32 (x_dk dn_32_0_0_ok 3 rfl)))
  (e_Tok2
  (e_Lok (ps_iconst_1 (x_dk dn_32_0_0_ok 4 rfl)))
  (e_Lok (sm_isub (x_dk dn_32_0_0_ok 5 rfl))))))
  (e_Tok2
  (e_Tok2
  (e_Lok (e_st (I := eI) (er_istore_n (i := 2) (x_dk dn_32_0_0_ok 6 rfl) (by decide +kernel)) nx_stor))
  (e_Tok2
  (e_Lok (ld_iload_n_2 (x_dk dn_32_0_0_ok 7 rfl)))
  (e_Lok (e_st (I := eI) (er_iflt (off := 74) (tg := 84) (x_dk dn_32_0_0_ok 8 rfl) (by decide)) nx_if1))))
  (e_Tok2
  (e_Tok2
  (e_Lok (ld_aload_n_0 (x_dk dn_32_0_0_ok 9 rfl)))
  (e_Lok (lk_2_31g ho_32 (x_dk dn_32_0_0_ok 10 rfl))))
  (e_Tok2
  (e_Lok (ld_iload_n_2 (x_dk dn_32_0_0_ok 11 rfl)))
  (e_Lok (ld_aload_n_0 (x_dk dn_32_0_0_ok 12 rfl)))))))
  (e_Tok2
  (e_Tok2
  (e_Tok2
  (e_Lok (lk_2_22g ho_32 (x_dk dn_32_0_0_ok 13 rfl)))
  (e_Tok2
  (e_Lok (ld_iload_n_2 (x_dk dn_32_0_0_ok 14 rfl)))
  (e_Lok (e_st (I := eI) (er_baload (x_dk dn_32_0_0_ok 15 rfl)) nx_ald))))
  (e_Tok2
  (e_Tok2
  (e_Lok (ld_aload_n_0 (x_dk dn_32_0_0_ok 16 rfl)))
  (e_Lok (lk_2_25g ho_32 (x_dk dn_32_0_0_ok 17 rfl))))
  (e_Tok2
  (e_Lok (ld_iload_n_2 (x_dk dn_32_0_0_ok 18 rfl)))
  (e_Lok (e_st (I := eI) (er_baload (x_dk dn_32_0_0_ok 19 rfl)) nx_ald)))))
  (e_Tok2
  (e_Tok2
  (e_Lok (e_st (I := eI) (er_icmpne (off := 7) (tg := 37) (x_dk dn_32_0_0_ok 20 rfl) (by decide)) nx_if2))
  (e_Tok2
  (e_Lok (ps_iconst_0 (x_dk dn_32_0_0_ok 21 rfl)))
  (e_Lok (e_st (I := eI) (er_goto (off := 11) (tg := 45) (x_dk dn_32_0_0_ok 22 rfl) (by decide)) nx_goto))))
  (e_Tok2
  (e_Tok2
  (e_Lok (ld_aload_n_0 (x_dk dn_32_0_0_ok 23 rfl)))
  (e_Lok (lk_2_31g ho_32 (x_dk dn_32_0_0_ok 24 rfl))))
  (e_Tok2
  (e_Lok (ld_iload_n_2 (x_dk dn_32_0_1_ok 0 rfl)))
  (e_Lok (sm_iaload (x_dk dn_32_0_1_ok 1 rfl))))))))
def te_32_27 : Nat → eE := (e_T 61 (e_T 50 (e_T 45 (e_T 43 (e_L 43 (0, ei_push (0, 1) 44, 0, 0)) (e_T 44 (e_L 44 (0, ei_bin eF_add 45, 0, 0)) (e_L 45 (0, ei_ast elay false 46, 0, 0)))) (e_T 46 (e_L 46 (0, ei_load 0 2 47, 0, 0)) (e_T 47 (e_L 47 (0, ei_getf eft elay 2 14 50, 0, 0)) (e_L 50 (0, ei_load 2 0 51, 0, 0))))) (e_T 53 (e_T 51 (e_L 51 (0, ei_ald elay false 52, 0, 0)) (e_T 52 (e_L 52 (0, ei_load 0 2 53, 0, 0)) (e_L 53 (0, ei_getf eft elay 2 9 56, 0, 0)))) (e_T 57 (e_T 56 (e_L 56 (0, ei_load 2 0 57, 0, 0)) (e_L 57 (0, ei_ald elay false 58, 0, 0))) (e_T 58 (e_L 58 (0, ei_if2 5 68 61, 0, 0)) (e_L 61 (0, ei_load 0 2 62, 0, 0)))))) (e_T 70 (e_T 66 (e_T 62 (e_L 62 (0, ei_getf eft elay 2 13 65, 0, 0)) (e_T 65 (e_L 65 (0, ei_load 2 0 66, 0, 0)) (e_L 66 (0, ei_push (0, 1) 67, 0, 0)))) (e_T 68 (e_T 67 (e_L 67 (0, ei_ast elay true 68, 0, 0)) (e_L 68 (0, ei_load 0 2 69, 0, 0))) (e_T 69 (e_L 69 (0, ei_load 2 0 70, 0, 0)) (e_L 70 (2, e_nof, 29, 2))))) (e_T 77 (e_T 73 (e_L 73 (0, ei_if1 1 78 76, 0, 0)) (e_T 76 (e_L 76 (0, ei_load 2 0 77, 0, 0)) (e_L 77 (0, ei_stor 1 0 78, 0, 0)))) (e_T 81 (e_T 78 (e_L 78 (0, ei_inc 2 (-1) 81, 0, 0)) (e_L 81 (0, ei_goto 9, 0, 0))) (e_T 84 (e_L 84 (0, ei_load 1 0 85, 0, 0)) (e_L 85 (1, e_nof, 1, 0)))))))
set_option maxRecDepth 20000 in
set_option maxHeartbeats 4000000 in
theorem te_32_27_ok : ∀ pc, e_EOq eft cls elay eI n_32 pc (te_32_27 pc) :=
  (e_Tok2
  (e_Tok2
  (e_Tok2
  (e_Tok2
  (e_Lok (ps_iconst_1 (x_dk dn_32_0_1_ok 2 rfl)))
  (e_Tok2
  (e_Lok (sm_iadd (x_dk dn_32_0_1_ok 3 rfl)))
  (e_Lok (sm_iastore (x_dk dn_32_0_1_ok 4 rfl)))))
  (e_Tok2
  (e_Lok (ld_aload_n_0 (x_dk dn_32_0_1_ok 5 rfl)))
  (e_Tok2
  (e_Lok (lk_2_31g ho_32 (x_dk dn_32_0_1_ok 6 rfl)))
  (e_Lok (ld_iload_n_2 (x_dk dn_32_0_1_ok 7 rfl))))))
  (e_Tok2
  (e_Tok2
  (e_Lok (sm_iaload (x_dk dn_32_0_1_ok 8 rfl)))
  (e_Tok2
  (e_Lok (ld_aload_n_0 (x_dk dn_32_0_1_ok 9 rfl)))
  (e_Lok (lk_2_15g ho_32 (x_dk dn_32_0_1_ok 10 rfl)))))
  (e_Tok2
  (e_Tok2
  (e_Lok (ld_iload_n_2 (x_dk dn_32_0_1_ok 11 rfl)))
  (e_Lok (sm_iaload (x_dk dn_32_0_1_ok 12 rfl))))
  (e_Tok2
  (e_Lok (e_st (I := eI) (er_icmple (off := 10) (tg := 68) (x_dk dn_32_0_1_ok 13 rfl) (by decide)) nx_if2))
  (e_Lok (ld_aload_n_0 (x_dk dn_32_0_1_ok 14 rfl)))))))
  (e_Tok2
  (e_Tok2
  (e_Tok2
  (e_Lok (lk_2_28g ho_32 (x_dk dn_32_0_1_ok 15 rfl)))
  (e_Tok2
  (e_Lok (ld_iload_n_2 (x_dk dn_32_0_1_ok 16 rfl)))
  (e_Lok (ps_iconst_1 (x_dk dn_32_0_1_ok 17 rfl)))))
  (e_Tok2
  (e_Tok2
  (e_Lok (e_st (I := eI) (er_bastore (x_dk dn_32_0_1_ok 18 rfl)) nx_ast))
  (e_Lok (ld_aload_n_0 (x_dk dn_32_0_1_ok 19 rfl))))
  (e_Tok2
  (e_Lok (ld_iload_n_2 (x_dk dn_32_0_1_ok 20 rfl)))
  (e_Lok (lk_2_60 ho_32 (x_dk dn_32_0_1_ok 21 rfl))))))
  (e_Tok2
  (e_Tok2
  (e_Lok (e_st (I := eI) (er_ifne (off := 5) (tg := 78) (x_dk dn_32_0_1_ok 22 rfl) (by decide)) nx_if1))
  (e_Tok2
  (e_Lok (ld_iload_n_2 (x_dk dn_32_0_1_ok 23 rfl)))
  (e_Lok (e_st (I := eI) (er_istore_n (i := 1) (x_dk dn_32_0_1_ok 24 rfl) (by decide +kernel)) nx_stor))))
  (e_Tok2
  (e_Tok2
  (e_Lok (e_st (I := eI) (er_iinc (i := 2) (n := (-1)) (x_dk dn_32_0_2_ok 0 rfl) (by decide +kernel) (by decide)) nx_inc))
  (e_Lok (e_st (I := eI) (er_goto (off := (-72)) (tg := 9) (x_dk dn_32_0_2_ok 1 rfl) (by decide)) nx_goto)))
  (e_Tok2
  (e_Lok (ld_iload_n_1 (x_dk dn_32_0_2_ok 2 rfl)))
  (e_Lok (e_rt (I := eI) (k := 1) ⟨(x_dk dn_32_0_2_ok 3 rfl), rfl⟩)))))))
def te_32 : Nat → eE := (e_T 42 te_32_0 te_32_27)
theorem te_32_ok : ∀ pc, e_EOq eft cls elay eI n_32 pc (te_32 pc) := (e_Tok2 (te_32_0_ok) (te_32_27_ok))
theorem ho_33 : (xm_y n_33).cls = "RobotCellHouse$Core" := rfl
def dn_33_0_0 : List (Nat × Instr × Nat) := [(0, .iconst 0, 1), (1, .istore_n 2, 1), (2, .iload_n 2, 1), (3, .aload_n 0, 1), (4, .getfield 34, 3), (7, .if_icmp .ge 16, 3), (10, .aload_n 0, 1), (11, .getfield 28, 3), (14, .iload_n 2, 1), (15, .iconst 0, 1), (16, .bastore, 1), (17, .iinc 2 1, 3), (20, .goto (-18), 3), (23, .aload_n 0, 1), (24, .iconst 1, 1), (25, .putfield 44, 3), (28, .aload_n 0, 1), (29, .iconst 3, 1), (30, .iload_n 1, 1), (31, .iconst 0, 1), (32, .invokevirtual 64, 3), (35, .iconst 1, 1), (36, .ireturn, 1)]
set_option maxRecDepth 20000 in
theorem dn_33_0_0_ok : dn_33_0_0.all (fun q => decide (decode (xm_b n_33) q.1 = .ok (q.2.1, q.2.2))) = true := xa_g_ok (by decide +kernel)
def te_33_0 : Nat → eE := (e_T 16 (e_T 4 (e_T 1 (e_T 0 (e_L 0 (0, ei_push (0, 0) 1, 0, 0)) (e_L 1 (0, ei_stor 2 0 2, 0, 0))) (e_T 2 (e_L 2 (0, ei_load 2 0 3, 0, 0)) (e_T 3 (e_L 3 (0, ei_load 0 2 4, 0, 0)) (e_L 4 (0, ei_getf eft elay 2 2 7, 0, 0))))) (e_T 11 (e_T 7 (e_L 7 (0, ei_if2 3 23 10, 0, 0)) (e_T 10 (e_L 10 (0, ei_load 0 2 11, 0, 0)) (e_L 11 (0, ei_getf eft elay 2 13 14, 0, 0)))) (e_T 14 (e_L 14 (0, ei_load 2 0 15, 0, 0)) (e_T 15 (e_L 15 (0, ei_push (0, 0) 16, 0, 0)) (e_L 16 (0, ei_ast elay true 17, 0, 0)))))) (e_T 28 (e_T 23 (e_T 17 (e_L 17 (0, ei_inc 2 1 20, 0, 0)) (e_T 20 (e_L 20 (0, ei_goto 2, 0, 0)) (e_L 23 (0, ei_load 0 2 24, 0, 0)))) (e_T 24 (e_L 24 (0, ei_push (0, 1) 25, 0, 0)) (e_T 25 (e_L 25 (0, ei_putf eft elay 2 3 1 28, 0, 0)) (e_L 28 (0, ei_load 0 2 29, 0, 0))))) (e_T 31 (e_T 29 (e_L 29 (0, ei_push (0, 3) 30, 0, 0)) (e_T 30 (e_L 30 (0, ei_load 1 0 31, 0, 0)) (e_L 31 (0, ei_push (0, 0) 32, 0, 0)))) (e_T 32 (e_L 32 (2, e_nof, 27, 4)) (e_T 35 (e_L 35 (0, ei_push (0, 1) 36, 0, 0)) (e_L 36 (1, e_nof, 1, 0)))))))
set_option maxRecDepth 20000 in
set_option maxHeartbeats 4000000 in
theorem te_33_0_ok : ∀ pc, e_EOq eft cls elay eI n_33 pc (te_33_0 pc) :=
  (e_Tok2
  (e_Tok2
  (e_Tok2
  (e_Tok2
  (e_Lok (ps_iconst_0 (x_dk dn_33_0_0_ok 0 rfl)))
  (e_Lok (e_st (I := eI) (er_istore_n (i := 2) (x_dk dn_33_0_0_ok 1 rfl) (by decide +kernel)) nx_stor)))
  (e_Tok2
  (e_Lok (ld_iload_n_2 (x_dk dn_33_0_0_ok 2 rfl)))
  (e_Tok2
  (e_Lok (ld_aload_n_0 (x_dk dn_33_0_0_ok 3 rfl)))
  (e_Lok (lk_2_34g ho_33 (x_dk dn_33_0_0_ok 4 rfl))))))
  (e_Tok2
  (e_Tok2
  (e_Lok (e_st (I := eI) (er_icmpge (off := 16) (tg := 23) (x_dk dn_33_0_0_ok 5 rfl) (by decide)) nx_if2))
  (e_Tok2
  (e_Lok (ld_aload_n_0 (x_dk dn_33_0_0_ok 6 rfl)))
  (e_Lok (lk_2_28g ho_33 (x_dk dn_33_0_0_ok 7 rfl)))))
  (e_Tok2
  (e_Lok (ld_iload_n_2 (x_dk dn_33_0_0_ok 8 rfl)))
  (e_Tok2
  (e_Lok (ps_iconst_0 (x_dk dn_33_0_0_ok 9 rfl)))
  (e_Lok (e_st (I := eI) (er_bastore (x_dk dn_33_0_0_ok 10 rfl)) nx_ast))))))
  (e_Tok2
  (e_Tok2
  (e_Tok2
  (e_Lok (e_st (I := eI) (er_iinc (i := 2) (n := 1) (x_dk dn_33_0_0_ok 11 rfl) (by decide +kernel) (by decide)) nx_inc))
  (e_Tok2
  (e_Lok (e_st (I := eI) (er_goto (off := (-18)) (tg := 2) (x_dk dn_33_0_0_ok 12 rfl) (by decide)) nx_goto))
  (e_Lok (ld_aload_n_0 (x_dk dn_33_0_0_ok 13 rfl)))))
  (e_Tok2
  (e_Lok (ps_iconst_1 (x_dk dn_33_0_0_ok 14 rfl)))
  (e_Tok2
  (e_Lok (lk_2_44p ho_33 (x_dk dn_33_0_0_ok 15 rfl)))
  (e_Lok (ld_aload_n_0 (x_dk dn_33_0_0_ok 16 rfl))))))
  (e_Tok2
  (e_Tok2
  (e_Lok (ps_iconst_3 (x_dk dn_33_0_0_ok 17 rfl)))
  (e_Tok2
  (e_Lok (ld_iload_n_1 (x_dk dn_33_0_0_ok 18 rfl)))
  (e_Lok (ps_iconst_0 (x_dk dn_33_0_0_ok 19 rfl)))))
  (e_Tok2
  (e_Lok (lk_2_64 ho_33 (x_dk dn_33_0_0_ok 20 rfl)))
  (e_Tok2
  (e_Lok (ps_iconst_1 (x_dk dn_33_0_0_ok 21 rfl)))
  (e_Lok (e_rt (I := eI) (k := 1) ⟨(x_dk dn_33_0_0_ok 22 rfl), rfl⟩)))))))
def te_33 : Nat → eE := te_33_0
theorem te_33_ok : ∀ pc, e_EOq eft cls elay eI n_33 pc (te_33 pc) := te_33_0_ok
theorem ho_34 : (xm_y n_34).cls = "RobotCellHouse$Core" := rfl
def dn_34_0_0 : List (Nat × Instr × Nat) := [(0, .aload_n 0, 1), (1, .iconst 0, 1), (2, .putfield 44, 3), (5, .aload_n 0, 1), (6, .iload_n 1, 1), (7, .putfield 48, 3), (10, .aload_n 0, 1), (11, .iload_n 2, 1), (12, .putfield 51, 3), (15, .aload_n 0, 1), (16, .aload_n 0, 1), (17, .getfield 38, 3), (20, .putfield 54, 3), (23, .aload_n 0, 1), (24, .iconst 2, 1), (25, .iload_n 1, 1), (26, .iload_n 2, 1), (27, .invokevirtual 64, 3), (30, .return_, 1)]
set_option maxRecDepth 20000 in
theorem dn_34_0_0_ok : dn_34_0_0.all (fun q => decide (decode (xm_b n_34) q.1 = .ok (q.2.1, q.2.2))) = true := xa_g_ok (by decide +kernel)
def te_34_0 : Nat → eE := (e_T 12 (e_T 5 (e_T 1 (e_T 0 (e_L 0 (0, ei_load 0 2 1, 0, 0)) (e_L 1 (0, ei_push (0, 0) 2, 0, 0))) (e_T 2 (e_L 2 (0, ei_putf eft elay 2 3 1 5, 0, 0)) (e_L 5 (0, ei_load 0 2 6, 0, 0)))) (e_T 7 (e_T 6 (e_L 6 (0, ei_load 1 0 7, 0, 0)) (e_L 7 (0, ei_putf eft elay 2 4 0 10, 0, 0))) (e_T 10 (e_L 10 (0, ei_load 0 2 11, 0, 0)) (e_T 11 (e_L 11 (0, ei_load 2 0 12, 0, 0)) (e_L 12 (0, ei_putf eft elay 2 5 0 15, 0, 0)))))) (e_T 23 (e_T 16 (e_T 15 (e_L 15 (0, ei_load 0 2 16, 0, 0)) (e_L 16 (0, ei_load 0 2 17, 0, 0))) (e_T 17 (e_L 17 (0, ei_getf eft elay 2 0 20, 0, 0)) (e_T 20 (e_L 20 (0, ei_putf eft elay 2 6 0 23, 0, 0)) (e_L 23 (0, ei_load 0 2 24, 0, 0))))) (e_T 25 (e_T 24 (e_L 24 (0, ei_push (0, 2) 25, 0, 0)) (e_L 25 (0, ei_load 1 0 26, 0, 0))) (e_T 26 (e_L 26 (0, ei_load 2 0 27, 0, 0)) (e_T 27 (e_L 27 (2, e_nof, 27, 4)) (e_L 30 (1, e_nof, 0, 0)))))))
set_option maxRecDepth 20000 in
set_option maxHeartbeats 4000000 in
theorem te_34_0_ok : ∀ pc, e_EOq eft cls elay eI n_34 pc (te_34_0 pc) :=
  (e_Tok2
  (e_Tok2
  (e_Tok2
  (e_Tok2
  (e_Lok (ld_aload_n_0 (x_dk dn_34_0_0_ok 0 rfl)))
  (e_Lok (ps_iconst_0 (x_dk dn_34_0_0_ok 1 rfl))))
  (e_Tok2
  (e_Lok (lk_2_44p ho_34 (x_dk dn_34_0_0_ok 2 rfl)))
  (e_Lok (ld_aload_n_0 (x_dk dn_34_0_0_ok 3 rfl)))))
  (e_Tok2
  (e_Tok2
  (e_Lok (ld_iload_n_1 (x_dk dn_34_0_0_ok 4 rfl)))
  (e_Lok (lk_2_48p ho_34 (x_dk dn_34_0_0_ok 5 rfl))))
  (e_Tok2
  (e_Lok (ld_aload_n_0 (x_dk dn_34_0_0_ok 6 rfl)))
  (e_Tok2
  (e_Lok (ld_iload_n_2 (x_dk dn_34_0_0_ok 7 rfl)))
  (e_Lok (lk_2_51p ho_34 (x_dk dn_34_0_0_ok 8 rfl)))))))
  (e_Tok2
  (e_Tok2
  (e_Tok2
  (e_Lok (ld_aload_n_0 (x_dk dn_34_0_0_ok 9 rfl)))
  (e_Lok (ld_aload_n_0 (x_dk dn_34_0_0_ok 10 rfl))))
  (e_Tok2
  (e_Lok (lk_2_38g ho_34 (x_dk dn_34_0_0_ok 11 rfl)))
  (e_Tok2
  (e_Lok (lk_2_54p ho_34 (x_dk dn_34_0_0_ok 12 rfl)))
  (e_Lok (ld_aload_n_0 (x_dk dn_34_0_0_ok 13 rfl))))))
  (e_Tok2
  (e_Tok2
  (e_Lok (ps_iconst_2 (x_dk dn_34_0_0_ok 14 rfl)))
  (e_Lok (ld_iload_n_1 (x_dk dn_34_0_0_ok 15 rfl))))
  (e_Tok2
  (e_Lok (ld_iload_n_2 (x_dk dn_34_0_0_ok 16 rfl)))
  (e_Tok2
  (e_Lok (lk_2_64 ho_34 (x_dk dn_34_0_0_ok 17 rfl)))
  (e_Lok (e_rt (I := eI) (k := 0) ⟨(x_dk dn_34_0_0_ok 18 rfl), rfl⟩)))))))
def te_34 : Nat → eE := te_34_0
theorem te_34_ok : ∀ pc, e_EOq eft cls elay eI n_34 pc (te_34 pc) := te_34_0_ok
theorem ho_35 : (xm_y n_35).cls = "RobotCellHouse$Doer" := rfl
def dn_35_0_0 : List (Nat × Instr × Nat) := [(0, .iconst 0, 1), (1, .istore_n 1, 1), (2, .iload_n 1, 1), (3, .bipush 16, 2), (5, .if_icmp .ge 18, 3), (8, .aload_n 0, 1), (9, .getfield 40, 3), (12, .iload_n 1, 1), (13, .aaload, 1), (14, .invokevirtual 58, 3), (17, .iinc 1 1, 3), (20, .goto (-18), 3), (23, .aload_n 0, 1), (24, .getfield 44, 3), (27, .iconst (-1), 1), (28, .invokestatic 61, 3), (31, .aload_n 0, 1), (32, .iconst 0, 1), (33, .putfield 67, 3), (36, .return_, 1)]
set_option maxRecDepth 20000 in
theorem dn_35_0_0_ok : dn_35_0_0.all (fun q => decide (decode (xm_b n_35) q.1 = .ok (q.2.1, q.2.2))) = true := xa_g_ok (by decide +kernel)
def te_35_0 : Nat → eE := (e_T 14 (e_T 5 (e_T 1 (e_T 0 (e_L 0 (0, ei_push (0, 0) 1, 0, 0)) (e_L 1 (0, ei_stor 1 0 2, 0, 0))) (e_T 2 (e_L 2 (0, ei_load 1 0 3, 0, 0)) (e_T 3 (e_L 3 (0, ei_push (0, 16) 5, 0, 0)) (e_L 5 (0, ei_if2 3 23 8, 0, 0))))) (e_T 9 (e_T 8 (e_L 8 (0, ei_load 0 2 9, 0, 0)) (e_L 9 (0, ei_getf eft elay 3 4 12, 0, 0))) (e_T 12 (e_L 12 (0, ei_load 1 0 13, 0, 0)) (e_T 13 (e_L 13 (0, ei_aald elay 14, 0, 0)) (e_L 14 (2, e_nof, 179, 1)))))) (e_T 27 (e_T 20 (e_T 17 (e_L 17 (0, ei_inc 1 1 20, 0, 0)) (e_L 20 (0, ei_goto 2, 0, 0))) (e_T 23 (e_L 23 (0, ei_load 0 2 24, 0, 0)) (e_T 24 (e_L 24 (0, ei_getf eft elay 3 5 27, 0, 0)) (e_L 27 (0, ei_push (0, (-1)) 28, 0, 0))))) (e_T 31 (e_T 28 (e_L 28 (2, e_nof, 452, 2)) (e_L 31 (0, ei_load 0 2 32, 0, 0))) (e_T 32 (e_L 32 (0, ei_push (0, 0) 33, 0, 0)) (e_T 33 (e_L 33 (0, ei_putf eft elay 3 9 0 36, 0, 0)) (e_L 36 (1, e_nof, 0, 0)))))))
set_option maxRecDepth 20000 in
set_option maxHeartbeats 4000000 in
theorem te_35_0_ok : ∀ pc, e_EOq eft cls elay eI n_35 pc (te_35_0 pc) :=
  (e_Tok2
  (e_Tok2
  (e_Tok2
  (e_Tok2
  (e_Lok (ps_iconst_0 (x_dk dn_35_0_0_ok 0 rfl)))
  (e_Lok (e_st (I := eI) (er_istore_n (i := 1) (x_dk dn_35_0_0_ok 1 rfl) (by decide +kernel)) nx_stor)))
  (e_Tok2
  (e_Lok (ld_iload_n_1 (x_dk dn_35_0_0_ok 2 rfl)))
  (e_Tok2
  (e_Lok (ps_bipush_16 (x_dk dn_35_0_0_ok 3 rfl)))
  (e_Lok (e_st (I := eI) (er_icmpge (off := 18) (tg := 23) (x_dk dn_35_0_0_ok 4 rfl) (by decide)) nx_if2)))))
  (e_Tok2
  (e_Tok2
  (e_Lok (ld_aload_n_0 (x_dk dn_35_0_0_ok 5 rfl)))
  (e_Lok (lk_3_40g ho_35 (x_dk dn_35_0_0_ok 6 rfl))))
  (e_Tok2
  (e_Lok (ld_iload_n_1 (x_dk dn_35_0_0_ok 7 rfl)))
  (e_Tok2
  (e_Lok (e_st (I := eI) (er_aaload (x_dk dn_35_0_0_ok 8 rfl)) nx_aald))
  (e_Lok (lk_3_58 ho_35 (x_dk dn_35_0_0_ok 9 rfl)))))))
  (e_Tok2
  (e_Tok2
  (e_Tok2
  (e_Lok (e_st (I := eI) (er_iinc (i := 1) (n := 1) (x_dk dn_35_0_0_ok 10 rfl) (by decide +kernel) (by decide)) nx_inc))
  (e_Lok (e_st (I := eI) (er_goto (off := (-18)) (tg := 2) (x_dk dn_35_0_0_ok 11 rfl) (by decide)) nx_goto)))
  (e_Tok2
  (e_Lok (ld_aload_n_0 (x_dk dn_35_0_0_ok 12 rfl)))
  (e_Tok2
  (e_Lok (lk_3_44g ho_35 (x_dk dn_35_0_0_ok 13 rfl)))
  (e_Lok (ps_iconst_m1 (x_dk dn_35_0_0_ok 14 rfl))))))
  (e_Tok2
  (e_Tok2
  (e_Lok (lk_3_61 ho_35 (x_dk dn_35_0_0_ok 15 rfl)))
  (e_Lok (ld_aload_n_0 (x_dk dn_35_0_0_ok 16 rfl))))
  (e_Tok2
  (e_Lok (ps_iconst_0 (x_dk dn_35_0_0_ok 17 rfl)))
  (e_Tok2
  (e_Lok (lk_3_67p ho_35 (x_dk dn_35_0_0_ok 18 rfl)))
  (e_Lok (e_rt (I := eI) (k := 0) ⟨(x_dk dn_35_0_0_ok 19 rfl), rfl⟩)))))))
def te_35 : Nat → eE := te_35_0
theorem te_35_ok : ∀ pc, e_EOq eft cls elay eI n_35 pc (te_35 pc) := te_35_0_ok
theorem ho_36 : (xm_y n_36).cls = "RobotCellHouse$Doer" := rfl
def dn_36_0_0 : List (Nat × Instr × Nat) := [(0, .iconst 0, 1), (1, .istore_n 1, 1), (2, .iload_n 1, 1), (3, .bipush 16, 2), (5, .if_icmp .ge 37, 3), (8, .aload_n 0, 1), (9, .getfield 40, 3), (12, .iload_n 1, 1), (13, .aaload, 1), (14, .getfield 71, 3), (17, .ifCond .eq 17, 3), (20, .aload_n 0, 1), (21, .getfield 40, 3), (24, .iload_n 1, 1), (25, .aaload, 1), (26, .getfield 71, 3), (29, .bipush 6, 2), (31, .if_icmp .ne 5, 3), (34, .iload_n 1, 1), (35, .ireturn, 1), (36, .iinc 1 1, 3), (39, .goto (-37), 3), (42, .iconst (-1), 1), (43, .ireturn, 1)]
set_option maxRecDepth 20000 in
theorem dn_36_0_0_ok : dn_36_0_0.all (fun q => decide (decode (xm_b n_36) q.1 = .ok (q.2.1, q.2.2))) = true := xa_g_ok (by decide +kernel)
def te_36_0 : Nat → eE := (e_T 20 (e_T 8 (e_T 2 (e_T 0 (e_L 0 (0, ei_push (0, 0) 1, 0, 0)) (e_T 1 (e_L 1 (0, ei_stor 1 0 2, 0, 0)) (e_L 2 (0, ei_load 1 0 3, 0, 0)))) (e_T 3 (e_L 3 (0, ei_push (0, 16) 5, 0, 0)) (e_T 5 (e_L 5 (0, ei_if2 3 42 8, 0, 0)) (e_L 8 (0, ei_load 0 2 9, 0, 0))))) (e_T 13 (e_T 9 (e_L 9 (0, ei_getf eft elay 3 4 12, 0, 0)) (e_T 12 (e_L 12 (0, ei_load 1 0 13, 0, 0)) (e_L 13 (0, ei_aald elay 14, 0, 0)))) (e_T 14 (e_L 14 (0, ei_getf eft elay 10 1 17, 0, 0)) (e_T 17 (e_L 17 (0, ei_if1 0 34 20, 0, 0)) (e_L 20 (0, ei_load 0 2 21, 0, 0)))))) (e_T 31 (e_T 25 (e_T 21 (e_L 21 (0, ei_getf eft elay 3 4 24, 0, 0)) (e_T 24 (e_L 24 (0, ei_load 1 0 25, 0, 0)) (e_L 25 (0, ei_aald elay 26, 0, 0)))) (e_T 26 (e_L 26 (0, ei_getf eft elay 10 1 29, 0, 0)) (e_T 29 (e_L 29 (0, ei_push (0, 6) 31, 0, 0)) (e_L 31 (0, ei_if2 1 36 34, 0, 0))))) (e_T 36 (e_T 34 (e_L 34 (0, ei_load 1 0 35, 0, 0)) (e_T 35 (e_L 35 (1, e_nof, 1, 0)) (e_L 36 (0, ei_inc 1 1 39, 0, 0)))) (e_T 39 (e_L 39 (0, ei_goto 2, 0, 0)) (e_T 42 (e_L 42 (0, ei_push (0, (-1)) 43, 0, 0)) (e_L 43 (1, e_nof, 1, 0)))))))
set_option maxRecDepth 20000 in
set_option maxHeartbeats 4000000 in
theorem te_36_0_ok : ∀ pc, e_EOq eft cls elay eI n_36 pc (te_36_0 pc) :=
  (e_Tok2
  (e_Tok2
  (e_Tok2
  (e_Tok2
  (e_Lok (ps_iconst_0 (x_dk dn_36_0_0_ok 0 rfl)))
  (e_Tok2
  (e_Lok (e_st (I := eI) (er_istore_n (i := 1) (x_dk dn_36_0_0_ok 1 rfl) (by decide +kernel)) nx_stor))
  (e_Lok (ld_iload_n_1 (x_dk dn_36_0_0_ok 2 rfl)))))
  (e_Tok2
  (e_Lok (ps_bipush_16 (x_dk dn_36_0_0_ok 3 rfl)))
  (e_Tok2
  (e_Lok (e_st (I := eI) (er_icmpge (off := 37) (tg := 42) (x_dk dn_36_0_0_ok 4 rfl) (by decide)) nx_if2))
  (e_Lok (ld_aload_n_0 (x_dk dn_36_0_0_ok 5 rfl))))))
  (e_Tok2
  (e_Tok2
  (e_Lok (lk_3_40g ho_36 (x_dk dn_36_0_0_ok 6 rfl)))
  (e_Tok2
  (e_Lok (ld_iload_n_1 (x_dk dn_36_0_0_ok 7 rfl)))
  (e_Lok (e_st (I := eI) (er_aaload (x_dk dn_36_0_0_ok 8 rfl)) nx_aald))))
  (e_Tok2
  (e_Lok (lk_3_71g ho_36 (x_dk dn_36_0_0_ok 9 rfl)))
  (e_Tok2
  (e_Lok (e_st (I := eI) (er_ifeq (off := 17) (tg := 34) (x_dk dn_36_0_0_ok 10 rfl) (by decide)) nx_if1))
  (e_Lok (ld_aload_n_0 (x_dk dn_36_0_0_ok 11 rfl)))))))
  (e_Tok2
  (e_Tok2
  (e_Tok2
  (e_Lok (lk_3_40g ho_36 (x_dk dn_36_0_0_ok 12 rfl)))
  (e_Tok2
  (e_Lok (ld_iload_n_1 (x_dk dn_36_0_0_ok 13 rfl)))
  (e_Lok (e_st (I := eI) (er_aaload (x_dk dn_36_0_0_ok 14 rfl)) nx_aald))))
  (e_Tok2
  (e_Lok (lk_3_71g ho_36 (x_dk dn_36_0_0_ok 15 rfl)))
  (e_Tok2
  (e_Lok (ps_bipush_6 (x_dk dn_36_0_0_ok 16 rfl)))
  (e_Lok (e_st (I := eI) (er_icmpne (off := 5) (tg := 36) (x_dk dn_36_0_0_ok 17 rfl) (by decide)) nx_if2)))))
  (e_Tok2
  (e_Tok2
  (e_Lok (ld_iload_n_1 (x_dk dn_36_0_0_ok 18 rfl)))
  (e_Tok2
  (e_Lok (e_rt (I := eI) (k := 1) ⟨(x_dk dn_36_0_0_ok 19 rfl), rfl⟩))
  (e_Lok (e_st (I := eI) (er_iinc (i := 1) (n := 1) (x_dk dn_36_0_0_ok 20 rfl) (by decide +kernel) (by decide)) nx_inc))))
  (e_Tok2
  (e_Lok (e_st (I := eI) (er_goto (off := (-37)) (tg := 2) (x_dk dn_36_0_0_ok 21 rfl) (by decide)) nx_goto))
  (e_Tok2
  (e_Lok (ps_iconst_m1 (x_dk dn_36_0_0_ok 22 rfl)))
  (e_Lok (e_rt (I := eI) (k := 1) ⟨(x_dk dn_36_0_0_ok 23 rfl), rfl⟩)))))))
def te_36 : Nat → eE := te_36_0
theorem te_36_ok : ∀ pc, e_EOq eft cls elay eI n_36 pc (te_36 pc) := te_36_0_ok
theorem ho_37 : (xm_y n_37).cls = "RobotCellHouse$Doer" := rfl
def dn_37_0_0 : List (Nat × Instr × Nat) := [(0, .aload_n 0, 1), (1, .invokevirtual 74, 3), (4, .istore_n 3, 1), (5, .iload_n 3, 1), (6, .ifCond .lt 34, 3), (9, .aload_n 0, 1), (10, .getfield 40, 3), (13, .iload_n 3, 1), (14, .aaload, 1), (15, .iload_n 1, 1), (16, .aload_n 0, 1), (17, .getfield 11, 3), (20, .iload_n 1, 1), (21, .aaload, 1), (22, .getfield 78, 3), (25, .getfield 82, 3), (28, .iload_n 2, 1), (29, .iaload, 1), (30, .aload_n 0, 1), (31, .getfield 34, 3), (34, .getfield 87, 3), (37, .invokevirtual 90, 3), (40, .iload_n 3, 1), (41, .ireturn, 1)]
set_option maxRecDepth 20000 in
theorem dn_37_0_0_ok : dn_37_0_0.all (fun q => decide (decode (xm_b n_37) q.1 = .ok (q.2.1, q.2.2))) = true := xa_g_ok (by decide +kernel)
def te_37_0 : Nat → eE := (e_T 17 (e_T 9 (e_T 4 (e_T 0 (e_L 0 (0, ei_load 0 2 1, 0, 0)) (e_T 1 (e_L 1 (2, e_nof, 36, 1)) (e_L 4 (0, ei_stor 3 0 5, 0, 0)))) (e_T 5 (e_L 5 (0, ei_load 3 0 6, 0, 0)) (e_T 6 (e_L 6 (0, ei_if1 2 40 9, 0, 0)) (e_L 9 (0, ei_load 0 2 10, 0, 0))))) (e_T 14 (e_T 10 (e_L 10 (0, ei_getf eft elay 3 4 13, 0, 0)) (e_T 13 (e_L 13 (0, ei_load 3 0 14, 0, 0)) (e_L 14 (0, ei_aald elay 15, 0, 0)))) (e_T 15 (e_L 15 (0, ei_load 1 0 16, 0, 0)) (e_T 16 (e_L 16 (0, ei_load 0 2 17, 0, 0)) (e_L 17 (0, ei_getf eft elay 3 0 20, 0, 0)))))) (e_T 29 (e_T 22 (e_T 20 (e_L 20 (0, ei_load 1 0 21, 0, 0)) (e_T 21 (e_L 21 (0, ei_aald elay 22, 0, 0)) (e_L 22 (0, ei_getf eft elay 0 7 25, 0, 0)))) (e_T 25 (e_L 25 (0, ei_getf eft elay 1 3 28, 0, 0)) (e_T 28 (e_L 28 (0, ei_load 2 0 29, 0, 0)) (e_L 29 (0, ei_ald elay false 30, 0, 0))))) (e_T 34 (e_T 30 (e_L 30 (0, ei_load 0 2 31, 0, 0)) (e_T 31 (e_L 31 (0, ei_getf eft elay 3 3 34, 0, 0)) (e_L 34 (0, ei_getf eft elay 2 0 37, 0, 0)))) (e_T 37 (e_L 37 (2, e_nof, 180, 4)) (e_T 40 (e_L 40 (0, ei_load 3 0 41, 0, 0)) (e_L 41 (1, e_nof, 1, 0)))))))
set_option maxRecDepth 20000 in
set_option maxHeartbeats 4000000 in
theorem te_37_0_ok : ∀ pc, e_EOq eft cls elay eI n_37 pc (te_37_0 pc) :=
  (e_Tok2
  (e_Tok2
  (e_Tok2
  (e_Tok2
  (e_Lok (ld_aload_n_0 (x_dk dn_37_0_0_ok 0 rfl)))
  (e_Tok2
  (e_Lok (lk_3_74 ho_37 (x_dk dn_37_0_0_ok 1 rfl)))
  (e_Lok (e_st (I := eI) (er_istore_n (i := 3) (x_dk dn_37_0_0_ok 2 rfl) (by decide +kernel)) nx_stor))))
  (e_Tok2
  (e_Lok (ld_iload_n_3 (x_dk dn_37_0_0_ok 3 rfl)))
  (e_Tok2
  (e_Lok (e_st (I := eI) (er_iflt (off := 34) (tg := 40) (x_dk dn_37_0_0_ok 4 rfl) (by decide)) nx_if1))
  (e_Lok (ld_aload_n_0 (x_dk dn_37_0_0_ok 5 rfl))))))
  (e_Tok2
  (e_Tok2
  (e_Lok (lk_3_40g ho_37 (x_dk dn_37_0_0_ok 6 rfl)))
  (e_Tok2
  (e_Lok (ld_iload_n_3 (x_dk dn_37_0_0_ok 7 rfl)))
  (e_Lok (e_st (I := eI) (er_aaload (x_dk dn_37_0_0_ok 8 rfl)) nx_aald))))
  (e_Tok2
  (e_Lok (ld_iload_n_1 (x_dk dn_37_0_0_ok 9 rfl)))
  (e_Tok2
  (e_Lok (ld_aload_n_0 (x_dk dn_37_0_0_ok 10 rfl)))
  (e_Lok (lk_3_11g ho_37 (x_dk dn_37_0_0_ok 11 rfl)))))))
  (e_Tok2
  (e_Tok2
  (e_Tok2
  (e_Lok (ld_iload_n_1 (x_dk dn_37_0_0_ok 12 rfl)))
  (e_Tok2
  (e_Lok (e_st (I := eI) (er_aaload (x_dk dn_37_0_0_ok 13 rfl)) nx_aald))
  (e_Lok (lk_3_78g ho_37 (x_dk dn_37_0_0_ok 14 rfl)))))
  (e_Tok2
  (e_Lok (lk_3_82g ho_37 (x_dk dn_37_0_0_ok 15 rfl)))
  (e_Tok2
  (e_Lok (ld_iload_n_2 (x_dk dn_37_0_0_ok 16 rfl)))
  (e_Lok (sm_iaload (x_dk dn_37_0_0_ok 17 rfl))))))
  (e_Tok2
  (e_Tok2
  (e_Lok (ld_aload_n_0 (x_dk dn_37_0_0_ok 18 rfl)))
  (e_Tok2
  (e_Lok (lk_3_34g ho_37 (x_dk dn_37_0_0_ok 19 rfl)))
  (e_Lok (lk_3_87g ho_37 (x_dk dn_37_0_0_ok 20 rfl)))))
  (e_Tok2
  (e_Lok (lk_3_90 ho_37 (x_dk dn_37_0_0_ok 21 rfl)))
  (e_Tok2
  (e_Lok (ld_iload_n_3 (x_dk dn_37_0_0_ok 22 rfl)))
  (e_Lok (e_rt (I := eI) (k := 1) ⟨(x_dk dn_37_0_0_ok 23 rfl), rfl⟩)))))))
def te_37 : Nat → eE := te_37_0
theorem te_37_ok : ∀ pc, e_EOq eft cls elay eI n_37 pc (te_37 pc) := te_37_0_ok
theorem ho_38 : (xm_y n_38).cls = "RobotCellHouse$Doer" := rfl
def dn_38_0_0 : List (Nat × Instr × Nat) := [(0, .aload_n 0, 1), (1, .getfield 11, 3), (4, .iload_n 1, 1), (5, .aaload, 1), (6, .getfield 94, 3), (9, .istore_n 2, 1), (10, .iload_n 2, 1), (11, .ifCond .ge 6, 3), (14, .bipush (-2), 2), (16, .ireturn, 1), (17, .aload_n 0, 1), (18, .getfield 40, 3), (21, .iload_n 2, 1), (22, .aaload, 1), (23, .bipush 6, 2), (25, .putfield 71, 3), (28, .aload_n 0, 1), (29, .getfield 11, 3), (32, .iload_n 1, 1), (33, .aaload, 1), (34, .iconst (-1), 1), (35, .putfield 94, 3), (38, .iload_n 2, 1), (39, .ireturn, 1)]
set_option maxRecDepth 20000 in
theorem dn_38_0_0_ok : dn_38_0_0.all (fun q => decide (decode (xm_b n_38) q.1 = .ok (q.2.1, q.2.2))) = true := xa_g_ok (by decide +kernel)
def te_38_0 : Nat → eE := (e_T 18 (e_T 9 (e_T 4 (e_T 0 (e_L 0 (0, ei_load 0 2 1, 0, 0)) (e_T 1 (e_L 1 (0, ei_getf eft elay 3 0 4, 0, 0)) (e_L 4 (0, ei_load 1 0 5, 0, 0)))) (e_T 5 (e_L 5 (0, ei_aald elay 6, 0, 0)) (e_T 6 (e_L 6 (0, ei_getf eft elay 0 16 9, 0, 0)) (e_L 9 (0, ei_stor 2 0 10, 0, 0))))) (e_T 14 (e_T 10 (e_L 10 (0, ei_load 2 0 11, 0, 0)) (e_T 11 (e_L 11 (0, ei_if1 3 17 14, 0, 0)) (e_L 14 (0, ei_push (0, (-2)) 16, 0, 0)))) (e_T 16 (e_L 16 (1, e_nof, 1, 0)) (e_T 17 (e_L 17 (0, ei_load 0 2 18, 0, 0)) (e_L 18 (0, ei_getf eft elay 3 4 21, 0, 0)))))) (e_T 29 (e_T 23 (e_T 21 (e_L 21 (0, ei_load 2 0 22, 0, 0)) (e_T 22 (e_L 22 (0, ei_aald elay 23, 0, 0)) (e_L 23 (0, ei_push (0, 6) 25, 0, 0)))) (e_T 25 (e_L 25 (0, ei_putf eft elay 10 1 0 28, 0, 0)) (e_T 28 (e_L 28 (0, ei_load 0 2 29, 0, 0)) (e_L 29 (0, ei_getf eft elay 3 0 32, 0, 0))))) (e_T 34 (e_T 32 (e_L 32 (0, ei_load 1 0 33, 0, 0)) (e_T 33 (e_L 33 (0, ei_aald elay 34, 0, 0)) (e_L 34 (0, ei_push (0, (-1)) 35, 0, 0)))) (e_T 35 (e_L 35 (0, ei_putf eft elay 0 16 0 38, 0, 0)) (e_T 38 (e_L 38 (0, ei_load 2 0 39, 0, 0)) (e_L 39 (1, e_nof, 1, 0)))))))
set_option maxRecDepth 20000 in
set_option maxHeartbeats 4000000 in
theorem te_38_0_ok : ∀ pc, e_EOq eft cls elay eI n_38 pc (te_38_0 pc) :=
  (e_Tok2
  (e_Tok2
  (e_Tok2
  (e_Tok2
  (e_Lok (ld_aload_n_0 (x_dk dn_38_0_0_ok 0 rfl)))
  (e_Tok2
  (e_Lok (lk_3_11g ho_38 (x_dk dn_38_0_0_ok 1 rfl)))
  (e_Lok (ld_iload_n_1 (x_dk dn_38_0_0_ok 2 rfl)))))
  (e_Tok2
  (e_Lok (e_st (I := eI) (er_aaload (x_dk dn_38_0_0_ok 3 rfl)) nx_aald))
  (e_Tok2
  (e_Lok (lk_3_94g ho_38 (x_dk dn_38_0_0_ok 4 rfl)))
  (e_Lok (e_st (I := eI) (er_istore_n (i := 2) (x_dk dn_38_0_0_ok 5 rfl) (by decide +kernel)) nx_stor)))))
  (e_Tok2
  (e_Tok2
  (e_Lok (ld_iload_n_2 (x_dk dn_38_0_0_ok 6 rfl)))
  (e_Tok2
  (e_Lok (e_st (I := eI) (er_ifge (off := 6) (tg := 17) (x_dk dn_38_0_0_ok 7 rfl) (by decide)) nx_if1))
  (e_Lok (ps_bipush_m2 (x_dk dn_38_0_0_ok 8 rfl)))))
  (e_Tok2
  (e_Lok (e_rt (I := eI) (k := 1) ⟨(x_dk dn_38_0_0_ok 9 rfl), rfl⟩))
  (e_Tok2
  (e_Lok (ld_aload_n_0 (x_dk dn_38_0_0_ok 10 rfl)))
  (e_Lok (lk_3_40g ho_38 (x_dk dn_38_0_0_ok 11 rfl)))))))
  (e_Tok2
  (e_Tok2
  (e_Tok2
  (e_Lok (ld_iload_n_2 (x_dk dn_38_0_0_ok 12 rfl)))
  (e_Tok2
  (e_Lok (e_st (I := eI) (er_aaload (x_dk dn_38_0_0_ok 13 rfl)) nx_aald))
  (e_Lok (ps_bipush_6 (x_dk dn_38_0_0_ok 14 rfl)))))
  (e_Tok2
  (e_Lok (lk_3_71p ho_38 (x_dk dn_38_0_0_ok 15 rfl)))
  (e_Tok2
  (e_Lok (ld_aload_n_0 (x_dk dn_38_0_0_ok 16 rfl)))
  (e_Lok (lk_3_11g ho_38 (x_dk dn_38_0_0_ok 17 rfl))))))
  (e_Tok2
  (e_Tok2
  (e_Lok (ld_iload_n_1 (x_dk dn_38_0_0_ok 18 rfl)))
  (e_Tok2
  (e_Lok (e_st (I := eI) (er_aaload (x_dk dn_38_0_0_ok 19 rfl)) nx_aald))
  (e_Lok (ps_iconst_m1 (x_dk dn_38_0_0_ok 20 rfl)))))
  (e_Tok2
  (e_Lok (lk_3_94p ho_38 (x_dk dn_38_0_0_ok 21 rfl)))
  (e_Tok2
  (e_Lok (ld_iload_n_2 (x_dk dn_38_0_0_ok 22 rfl)))
  (e_Lok (e_rt (I := eI) (k := 1) ⟨(x_dk dn_38_0_0_ok 23 rfl), rfl⟩)))))))
def te_38 : Nat → eE := te_38_0
theorem te_38_ok : ∀ pc, e_EOq eft cls elay eI n_38 pc (te_38 pc) := te_38_0_ok
theorem ho_39 : (xm_y n_39).cls = "RobotCellHouse$Doer" := rfl
def dn_39_0_0 : List (Nat × Instr × Nat) := [(0, .iconst 0, 1), (1, .istore_n 2, 1), (2, .iload_n 2, 1), (3, .iconst 4, 1), (4, .if_icmp .ge 33, 3), (7, .aload_n 0, 1), (8, .getfield 11, 3), (11, .iload_n 2, 1), (12, .aaload, 1), (13, .dup, 1), (14, .getfield 97, 3), (17, .iload_n 2, 1), (18, .iload_n 1, 1), (19, .if_icmp .ne 7, 3), (22, .iconst 1, 1), (23, .goto 4, 3), (26, .iconst 2, 1), (27, .ior, 1), (28, .putfield 97, 3), (31, .iinc 2 1, 3), (34, .goto (-32), 3), (37, .aload_n 0, 1), (38, .getfield 34, 3), (41, .iconst 0, 1), (42, .putfield 100, 3)]
set_option maxRecDepth 20000 in
theorem dn_39_0_0_ok : dn_39_0_0.all (fun q => decide (decode (xm_b n_39) q.1 = .ok (q.2.1, q.2.2))) = true := xa_g_ok (by decide +kernel)
def dn_39_0_1 : List (Nat × Instr × Nat) := [(45, .return_, 1)]
set_option maxRecDepth 20000 in
theorem dn_39_0_1_ok : dn_39_0_1.all (fun q => decide (decode (xm_b n_39) q.1 = .ok (q.2.1, q.2.2))) = true := xa_g_ok (by decide +kernel)
def te_39_0 : Nat → eE := (e_T 18 (e_T 7 (e_T 2 (e_T 0 (e_L 0 (0, ei_push (0, 0) 1, 0, 0)) (e_T 1 (e_L 1 (0, ei_stor 2 0 2, 0, 0)) (e_L 2 (0, ei_load 2 0 3, 0, 0)))) (e_T 3 (e_L 3 (0, ei_push (0, 4) 4, 0, 0)) (e_T 4 (e_L 4 (0, ei_if2 3 37 7, 0, 0)) (e_L 7 (0, ei_load 0 2 8, 0, 0))))) (e_T 12 (e_T 8 (e_L 8 (0, ei_getf eft elay 3 0 11, 0, 0)) (e_T 11 (e_L 11 (0, ei_load 2 0 12, 0, 0)) (e_L 12 (0, ei_aald elay 13, 0, 0)))) (e_T 14 (e_T 13 (e_L 13 (0, ei_stk ef_dup 14, 0, 0)) (e_L 14 (0, ei_getf eft elay 0 19 17, 0, 0))) (e_T 17 (e_L 17 (0, ei_load 2 0 18, 0, 0)) (e_L 18 (0, ei_load 1 0 19, 0, 0)))))) (e_T 28 (e_T 23 (e_T 19 (e_L 19 (0, ei_if2 1 26 22, 0, 0)) (e_T 22 (e_L 22 (0, ei_push (0, 1) 23, 0, 0)) (e_L 23 (0, ei_goto 27, 0, 0)))) (e_T 26 (e_L 26 (0, ei_push (0, 2) 27, 0, 0)) (e_T 27 (e_L 27 (0, ei_bin (eB (fun x y => x ||| y)) 28, 0, 0)) (e_L 28 (0, ei_putf eft elay 0 19 0 31, 0, 0))))) (e_T 37 (e_T 31 (e_L 31 (0, ei_inc 2 1 34, 0, 0)) (e_T 34 (e_L 34 (0, ei_goto 2, 0, 0)) (e_L 37 (0, ei_load 0 2 38, 0, 0)))) (e_T 41 (e_T 38 (e_L 38 (0, ei_getf eft elay 3 3 41, 0, 0)) (e_L 41 (0, ei_push (0, 0) 42, 0, 0))) (e_T 42 (e_L 42 (0, ei_putf eft elay 2 7 1 45, 0, 0)) (e_L 45 (1, e_nof, 0, 0)))))))
set_option maxRecDepth 20000 in
set_option maxHeartbeats 4000000 in
theorem te_39_0_ok : ∀ pc, e_EOq eft cls elay eI n_39 pc (te_39_0 pc) :=
  (e_Tok2
  (e_Tok2
  (e_Tok2
  (e_Tok2
  (e_Lok (ps_iconst_0 (x_dk dn_39_0_0_ok 0 rfl)))
  (e_Tok2
  (e_Lok (e_st (I := eI) (er_istore_n (i := 2) (x_dk dn_39_0_0_ok 1 rfl) (by decide +kernel)) nx_stor))
  (e_Lok (ld_iload_n_2 (x_dk dn_39_0_0_ok 2 rfl)))))
  (e_Tok2
  (e_Lok (ps_iconst_4 (x_dk dn_39_0_0_ok 3 rfl)))
  (e_Tok2
  (e_Lok (e_st (I := eI) (er_icmpge (off := 33) (tg := 37) (x_dk dn_39_0_0_ok 4 rfl) (by decide)) nx_if2))
  (e_Lok (ld_aload_n_0 (x_dk dn_39_0_0_ok 5 rfl))))))
  (e_Tok2
  (e_Tok2
  (e_Lok (lk_3_11g ho_39 (x_dk dn_39_0_0_ok 6 rfl)))
  (e_Tok2
  (e_Lok (ld_iload_n_2 (x_dk dn_39_0_0_ok 7 rfl)))
  (e_Lok (e_st (I := eI) (er_aaload (x_dk dn_39_0_0_ok 8 rfl)) nx_aald))))
  (e_Tok2
  (e_Tok2
  (e_Lok (e_st (I := eI) (er_dup (x_dk dn_39_0_0_ok 9 rfl)) (nx_stk bf_dup)))
  (e_Lok (lk_3_97g ho_39 (x_dk dn_39_0_0_ok 10 rfl))))
  (e_Tok2
  (e_Lok (ld_iload_n_2 (x_dk dn_39_0_0_ok 11 rfl)))
  (e_Lok (ld_iload_n_1 (x_dk dn_39_0_0_ok 12 rfl)))))))
  (e_Tok2
  (e_Tok2
  (e_Tok2
  (e_Lok (e_st (I := eI) (er_icmpne (off := 7) (tg := 26) (x_dk dn_39_0_0_ok 13 rfl) (by decide)) nx_if2))
  (e_Tok2
  (e_Lok (ps_iconst_1 (x_dk dn_39_0_0_ok 14 rfl)))
  (e_Lok (e_st (I := eI) (er_goto (off := 4) (tg := 27) (x_dk dn_39_0_0_ok 15 rfl) (by decide)) nx_goto))))
  (e_Tok2
  (e_Lok (ps_iconst_2 (x_dk dn_39_0_0_ok 16 rfl)))
  (e_Tok2
  (e_Lok (e_st (I := eI) (er_ior (x_dk dn_39_0_0_ok 17 rfl)) nx_bin))
  (e_Lok (lk_3_97p ho_39 (x_dk dn_39_0_0_ok 18 rfl))))))
  (e_Tok2
  (e_Tok2
  (e_Lok (e_st (I := eI) (er_iinc (i := 2) (n := 1) (x_dk dn_39_0_0_ok 19 rfl) (by decide +kernel) (by decide)) nx_inc))
  (e_Tok2
  (e_Lok (e_st (I := eI) (er_goto (off := (-32)) (tg := 2) (x_dk dn_39_0_0_ok 20 rfl) (by decide)) nx_goto))
  (e_Lok (ld_aload_n_0 (x_dk dn_39_0_0_ok 21 rfl)))))
  (e_Tok2
  (e_Tok2
  (e_Lok (lk_3_34g ho_39 (x_dk dn_39_0_0_ok 22 rfl)))
  (e_Lok (ps_iconst_0 (x_dk dn_39_0_0_ok 23 rfl))))
  (e_Tok2
  (e_Lok (lk_3_100p ho_39 (x_dk dn_39_0_0_ok 24 rfl)))
  (e_Lok (e_rt (I := eI) (k := 0) ⟨(x_dk dn_39_0_1_ok 0 rfl), rfl⟩)))))))
def te_39 : Nat → eE := te_39_0
theorem te_39_ok : ∀ pc, e_EOq eft cls elay eI n_39 pc (te_39 pc) := te_39_0_ok
end
end
-- part 41ac
section
noncomputable section
theorem ho_40 : (xm_y n_40).cls = "RobotCellHouse$Doer" := rfl
def dn_40_0_0 : List (Nat × Instr × Nat) := [(0, .aload_n 0, 1), (1, .getfield 11, 3), (4, .iload_n 1, 1), (5, .aaload, 1), (6, .getfield 104, 3), (9, .iconst 1, 1), (10, .if_icmp .eq 4, 3), (13, .return_, 1), (14, .aload_n 0, 1), (15, .iload_n 1, 1), (16, .invokevirtual 105, 3), (19, .aload_n 0, 1), (20, .getfield 11, 3), (23, .iload_n 1, 1), (24, .aaload, 1), (25, .iconst 2, 1), (26, .putfield 104, 3), (29, .return_, 1)]
set_option maxRecDepth 20000 in
theorem dn_40_0_0_ok : dn_40_0_0.all (fun q => decide (decode (xm_b n_40) q.1 = .ok (q.2.1, q.2.2))) = true := xa_g_ok (by decide +kernel)
def te_40_0 : Nat → eE := (e_T 14 (e_T 5 (e_T 1 (e_T 0 (e_L 0 (0, ei_load 0 2 1, 0, 0)) (e_L 1 (0, ei_getf eft elay 3 0 4, 0, 0))) (e_T 4 (e_L 4 (0, ei_load 1 0 5, 0, 0)) (e_L 5 (0, ei_aald elay 6, 0, 0)))) (e_T 9 (e_T 6 (e_L 6 (0, ei_getf eft elay 0 11 9, 0, 0)) (e_L 9 (0, ei_push (0, 1) 10, 0, 0))) (e_T 10 (e_L 10 (0, ei_if2 0 14 13, 0, 0)) (e_T 13 (e_L 13 (1, e_nof, 0, 0)) (e_L 14 (0, ei_load 0 2 15, 0, 0)))))) (e_T 20 (e_T 16 (e_T 15 (e_L 15 (0, ei_load 1 0 16, 0, 0)) (e_L 16 (2, e_nof, 41, 2))) (e_T 19 (e_L 19 (0, ei_load 0 2 20, 0, 0)) (e_L 20 (0, ei_getf eft elay 3 0 23, 0, 0)))) (e_T 24 (e_T 23 (e_L 23 (0, ei_load 1 0 24, 0, 0)) (e_L 24 (0, ei_aald elay 25, 0, 0))) (e_T 25 (e_L 25 (0, ei_push (0, 2) 26, 0, 0)) (e_T 26 (e_L 26 (0, ei_putf eft elay 0 11 0 29, 0, 0)) (e_L 29 (1, e_nof, 0, 0)))))))
set_option maxRecDepth 20000 in
set_option maxHeartbeats 4000000 in
theorem te_40_0_ok : ∀ pc, e_EOq eft cls elay eI n_40 pc (te_40_0 pc) :=
  (e_Tok2
  (e_Tok2
  (e_Tok2
  (e_Tok2
  (e_Lok (ld_aload_n_0 (x_dk dn_40_0_0_ok 0 rfl)))
  (e_Lok (lk_3_11g ho_40 (x_dk dn_40_0_0_ok 1 rfl))))
  (e_Tok2
  (e_Lok (ld_iload_n_1 (x_dk dn_40_0_0_ok 2 rfl)))
  (e_Lok (e_st (I := eI) (er_aaload (x_dk dn_40_0_0_ok 3 rfl)) nx_aald))))
  (e_Tok2
  (e_Tok2
  (e_Lok (lk_3_104g ho_40 (x_dk dn_40_0_0_ok 4 rfl)))
  (e_Lok (ps_iconst_1 (x_dk dn_40_0_0_ok 5 rfl))))
  (e_Tok2
  (e_Lok (e_st (I := eI) (er_icmpeq (off := 4) (tg := 14) (x_dk dn_40_0_0_ok 6 rfl) (by decide)) nx_if2))
  (e_Tok2
  (e_Lok (e_rt (I := eI) (k := 0) ⟨(x_dk dn_40_0_0_ok 7 rfl), rfl⟩))
  (e_Lok (ld_aload_n_0 (x_dk dn_40_0_0_ok 8 rfl)))))))
  (e_Tok2
  (e_Tok2
  (e_Tok2
  (e_Lok (ld_iload_n_1 (x_dk dn_40_0_0_ok 9 rfl)))
  (e_Lok (lk_3_105 ho_40 (x_dk dn_40_0_0_ok 10 rfl))))
  (e_Tok2
  (e_Lok (ld_aload_n_0 (x_dk dn_40_0_0_ok 11 rfl)))
  (e_Lok (lk_3_11g ho_40 (x_dk dn_40_0_0_ok 12 rfl)))))
  (e_Tok2
  (e_Tok2
  (e_Lok (ld_iload_n_1 (x_dk dn_40_0_0_ok 13 rfl)))
  (e_Lok (e_st (I := eI) (er_aaload (x_dk dn_40_0_0_ok 14 rfl)) nx_aald)))
  (e_Tok2
  (e_Lok (ps_iconst_2 (x_dk dn_40_0_0_ok 15 rfl)))
  (e_Tok2
  (e_Lok (lk_3_104p ho_40 (x_dk dn_40_0_0_ok 16 rfl)))
  (e_Lok (e_rt (I := eI) (k := 0) ⟨(x_dk dn_40_0_0_ok 17 rfl), rfl⟩)))))))
def te_40 : Nat → eE := te_40_0
theorem te_40_ok : ∀ pc, e_EOq eft cls elay eI n_40 pc (te_40 pc) := te_40_0_ok
theorem ho_41 : (xm_y n_41).cls = "RobotCellHouse$Doer" := rfl
def dn_41_0_0 : List (Nat × Instr × Nat) := [(0, .aload_n 0, 1), (1, .getfield 34, 3), (4, .bipush 9, 2), (6, .iload_n 1, 1), (7, .iconst 0, 1), (8, .invokevirtual 108, 3), (11, .aload_n 0, 1), (12, .getfield 11, 3), (15, .iload_n 1, 1), (16, .aaload, 1), (17, .getfield 111, 3), (20, .ifCond .lt 21, 3), (23, .aload_n 0, 1), (24, .getfield 40, 3), (27, .aload_n 0, 1), (28, .getfield 11, 3), (31, .iload_n 1, 1), (32, .aaload, 1), (33, .getfield 111, 3), (36, .aaload, 1), (37, .iconst 1, 1), (38, .putfield 114, 3), (41, .aload_n 0, 1), (42, .getfield 11, 3), (45, .iload_n 1, 1)]
set_option maxRecDepth 20000 in
theorem dn_41_0_0_ok : dn_41_0_0.all (fun q => decide (decode (xm_b n_41) q.1 = .ok (q.2.1, q.2.2))) = true := xa_g_ok (by decide +kernel)
def dn_41_0_1 : List (Nat × Instr × Nat) := [(46, .aaload, 1), (47, .iconst (-1), 1), (48, .putfield 111, 3), (51, .aload_n 0, 1), (52, .getfield 11, 3), (55, .iload_n 1, 1), (56, .aaload, 1), (57, .iconst (-1), 1), (58, .putfield 117, 3), (61, .return_, 1)]
set_option maxRecDepth 20000 in
theorem dn_41_0_1_ok : dn_41_0_1.all (fun q => decide (decode (xm_b n_41) q.1 = .ok (q.2.1, q.2.2))) = true := xa_g_ok (by decide +kernel)
def te_41_0 : Nat → eE := (e_T 31 (e_T 12 (e_T 6 (e_T 1 (e_T 0 (e_L 0 (0, ei_load 0 2 1, 0, 0)) (e_L 1 (0, ei_getf eft elay 3 3 4, 0, 0))) (e_T 4 (e_L 4 (0, ei_push (0, 9) 6, 0, 0)) (e_L 6 (0, ei_load 1 0 7, 0, 0)))) (e_T 8 (e_T 7 (e_L 7 (0, ei_push (0, 0) 8, 0, 0)) (e_L 8 (2, e_nof, 27, 4))) (e_T 11 (e_L 11 (0, ei_load 0 2 12, 0, 0)) (e_L 12 (0, ei_getf eft elay 3 0 15, 0, 0))))) (e_T 20 (e_T 16 (e_T 15 (e_L 15 (0, ei_load 1 0 16, 0, 0)) (e_L 16 (0, ei_aald elay 17, 0, 0))) (e_T 17 (e_L 17 (0, ei_getf eft elay 0 13 20, 0, 0)) (e_L 20 (0, ei_if1 2 41 23, 0, 0)))) (e_T 24 (e_T 23 (e_L 23 (0, ei_load 0 2 24, 0, 0)) (e_L 24 (0, ei_getf eft elay 3 4 27, 0, 0))) (e_T 27 (e_L 27 (0, ei_load 0 2 28, 0, 0)) (e_T 28 (e_L 28 (0, ei_getf eft elay 3 0 31, 0, 0)) (e_L 31 (0, ei_load 1 0 32, 0, 0))))))) (e_T 46 (e_T 37 (e_T 33 (e_T 32 (e_L 32 (0, ei_aald elay 33, 0, 0)) (e_L 33 (0, ei_getf eft elay 0 13 36, 0, 0))) (e_T 36 (e_L 36 (0, ei_aald elay 37, 0, 0)) (e_L 37 (0, ei_push (0, 1) 38, 0, 0)))) (e_T 41 (e_T 38 (e_L 38 (0, ei_putf eft elay 10 10 1 41, 0, 0)) (e_L 41 (0, ei_load 0 2 42, 0, 0))) (e_T 42 (e_L 42 (0, ei_getf eft elay 3 0 45, 0, 0)) (e_T 45 (e_L 45 (0, ei_load 1 0 46, 0, 0)) (e_L 46 (0, ei_aald elay 47, 0, 0)))))) (e_T 52 (e_T 48 (e_T 47 (e_L 47 (0, ei_push (0, (-1)) 48, 0, 0)) (e_L 48 (0, ei_putf eft elay 0 13 0 51, 0, 0))) (e_T 51 (e_L 51 (0, ei_load 0 2 52, 0, 0)) (e_L 52 (0, ei_getf eft elay 3 0 55, 0, 0)))) (e_T 56 (e_T 55 (e_L 55 (0, ei_load 1 0 56, 0, 0)) (e_L 56 (0, ei_aald elay 57, 0, 0))) (e_T 57 (e_L 57 (0, ei_push (0, (-1)) 58, 0, 0)) (e_T 58 (e_L 58 (0, ei_putf eft elay 0 18 0 61, 0, 0)) (e_L 61 (1, e_nof, 0, 0))))))))
set_option maxRecDepth 20000 in
set_option maxHeartbeats 4000000 in
theorem te_41_0_ok : ∀ pc, e_EOq eft cls elay eI n_41 pc (te_41_0 pc) :=
  (e_Tok2
  (e_Tok2
  (e_Tok2
  (e_Tok2
  (e_Tok2
  (e_Lok (ld_aload_n_0 (x_dk dn_41_0_0_ok 0 rfl)))
  (e_Lok (lk_3_34g ho_41 (x_dk dn_41_0_0_ok 1 rfl))))
  (e_Tok2
  (e_Lok (ps_bipush_9 (x_dk dn_41_0_0_ok 2 rfl)))
  (e_Lok (ld_iload_n_1 (x_dk dn_41_0_0_ok 3 rfl)))))
  (e_Tok2
  (e_Tok2
  (e_Lok (ps_iconst_0 (x_dk dn_41_0_0_ok 4 rfl)))
  (e_Lok (lk_3_108 ho_41 (x_dk dn_41_0_0_ok 5 rfl))))
  (e_Tok2
  (e_Lok (ld_aload_n_0 (x_dk dn_41_0_0_ok 6 rfl)))
  (e_Lok (lk_3_11g ho_41 (x_dk dn_41_0_0_ok 7 rfl))))))
  (e_Tok2
  (e_Tok2
  (e_Tok2
  (e_Lok (ld_iload_n_1 (x_dk dn_41_0_0_ok 8 rfl)))
  (e_Lok (e_st (I := eI) (er_aaload (x_dk dn_41_0_0_ok 9 rfl)) nx_aald)))
  (e_Tok2
  (e_Lok (lk_3_111g ho_41 (x_dk dn_41_0_0_ok 10 rfl)))
  (e_Lok (e_st (I := eI) (er_iflt (off := 21) (tg := 41) (x_dk dn_41_0_0_ok 11 rfl) (by decide)) nx_if1))))
  (e_Tok2
  (e_Tok2
  (e_Lok (ld_aload_n_0 (x_dk dn_41_0_0_ok 12 rfl)))
  (e_Lok (lk_3_40g ho_41 (x_dk dn_41_0_0_ok 13 rfl))))
  (e_Tok2
  (e_Lok (ld_aload_n_0 (x_dk dn_41_0_0_ok 14 rfl)))
  (e_Tok2
  (e_Lok (lk_3_11g ho_41 (x_dk dn_41_0_0_ok 15 rfl)))
  (e_Lok (ld_iload_n_1 (x_dk dn_41_0_0_ok 16 rfl))))))))
  (e_Tok2
  (e_Tok2
  (e_Tok2
  (e_Tok2
  (e_Lok (e_st (I := eI) (er_aaload (x_dk dn_41_0_0_ok 17 rfl)) nx_aald))
  (e_Lok (lk_3_111g ho_41 (x_dk dn_41_0_0_ok 18 rfl))))
  (e_Tok2
  (e_Lok (e_st (I := eI) (er_aaload (x_dk dn_41_0_0_ok 19 rfl)) nx_aald))
  (e_Lok (ps_iconst_1 (x_dk dn_41_0_0_ok 20 rfl)))))
  (e_Tok2
  (e_Tok2
  (e_Lok (lk_3_114p ho_41 (x_dk dn_41_0_0_ok 21 rfl)))
  (e_Lok (ld_aload_n_0 (x_dk dn_41_0_0_ok 22 rfl))))
  (e_Tok2
  (e_Lok (lk_3_11g ho_41 (x_dk dn_41_0_0_ok 23 rfl)))
  (e_Tok2
  (e_Lok (ld_iload_n_1 (x_dk dn_41_0_0_ok 24 rfl)))
  (e_Lok (e_st (I := eI) (er_aaload (x_dk dn_41_0_1_ok 0 rfl)) nx_aald))))))
  (e_Tok2
  (e_Tok2
  (e_Tok2
  (e_Lok (ps_iconst_m1 (x_dk dn_41_0_1_ok 1 rfl)))
  (e_Lok (lk_3_111p ho_41 (x_dk dn_41_0_1_ok 2 rfl))))
  (e_Tok2
  (e_Lok (ld_aload_n_0 (x_dk dn_41_0_1_ok 3 rfl)))
  (e_Lok (lk_3_11g ho_41 (x_dk dn_41_0_1_ok 4 rfl)))))
  (e_Tok2
  (e_Tok2
  (e_Lok (ld_iload_n_1 (x_dk dn_41_0_1_ok 5 rfl)))
  (e_Lok (e_st (I := eI) (er_aaload (x_dk dn_41_0_1_ok 6 rfl)) nx_aald)))
  (e_Tok2
  (e_Lok (ps_iconst_m1 (x_dk dn_41_0_1_ok 7 rfl)))
  (e_Tok2
  (e_Lok (lk_3_117p ho_41 (x_dk dn_41_0_1_ok 8 rfl)))
  (e_Lok (e_rt (I := eI) (k := 0) ⟨(x_dk dn_41_0_1_ok 9 rfl), rfl⟩))))))))
def te_41 : Nat → eE := te_41_0
theorem te_41_ok : ∀ pc, e_EOq eft cls elay eI n_41 pc (te_41 pc) := te_41_0_ok
theorem ho_42 : (xm_y n_42).cls = "RobotCellHouse$Doer" := rfl
def dn_42_0_0 : List (Nat × Instr × Nat) := [(0, .aload_n 0, 1), (1, .getfield 40, 3), (4, .iload_n 1, 1), (5, .aaload, 1), (6, .getfield 71, 3), (9, .iconst 1, 1), (10, .iconst 5, 1), (11, .invokestatic 120, 3), (14, .ifCond .ne 5, 3), (17, .iconst 0, 1), (18, .ireturn, 1), (19, .aload_n 0, 1), (20, .getfield 40, 3), (23, .iload_n 1, 1), (24, .aaload, 1), (25, .getfield 124, 3), (28, .aload_n 0, 1), (29, .getfield 34, 3), (32, .getfield 87, 3), (35, .if_icmp .eq 27, 3), (38, .aload_n 0, 1), (39, .getfield 11, 3), (42, .aload_n 0, 1), (43, .getfield 40, 3), (46, .iload_n 1, 1)]
set_option maxRecDepth 20000 in
theorem dn_42_0_0_ok : dn_42_0_0.all (fun q => decide (decode (xm_b n_42) q.1 = .ok (q.2.1, q.2.2))) = true := xa_g_ok (by decide +kernel)
def dn_42_0_1 : List (Nat × Instr × Nat) := [(47, .aaload, 1), (48, .getfield 127, 3), (51, .aaload, 1), (52, .getfield 94, 3), (55, .ifCond .ge 7, 3), (58, .iconst 1, 1), (59, .goto 4, 3), (62, .iconst 0, 1), (63, .ireturn, 1)]
set_option maxRecDepth 20000 in
theorem dn_42_0_1_ok : dn_42_0_1.all (fun q => decide (decode (xm_b n_42) q.1 = .ok (q.2.1, q.2.2))) = true := xa_g_ok (by decide +kernel)
def te_42_0 : Nat → eE := (e_T 28 (e_T 11 (e_T 5 (e_T 1 (e_T 0 (e_L 0 (0, ei_load 0 2 1, 0, 0)) (e_L 1 (0, ei_getf eft elay 3 4 4, 0, 0))) (e_T 4 (e_L 4 (0, ei_load 1 0 5, 0, 0)) (e_L 5 (0, ei_aald elay 6, 0, 0)))) (e_T 9 (e_T 6 (e_L 6 (0, ei_getf eft elay 10 1 9, 0, 0)) (e_L 9 (0, ei_push (0, 1) 10, 0, 0))) (e_T 10 (e_L 10 (0, ei_push (0, 5) 11, 0, 0)) (e_L 11 (2, e_nof, 242, 3))))) (e_T 19 (e_T 17 (e_T 14 (e_L 14 (0, ei_if1 1 19 17, 0, 0)) (e_L 17 (0, ei_push (0, 0) 18, 0, 0))) (e_T 18 (e_L 18 (1, e_nof, 4, 0)) (e_L 19 (0, ei_load 0 2 20, 0, 0)))) (e_T 23 (e_T 20 (e_L 20 (0, ei_getf eft elay 3 4 23, 0, 0)) (e_L 23 (0, ei_load 1 0 24, 0, 0))) (e_T 24 (e_L 24 (0, ei_aald elay 25, 0, 0)) (e_T 25 (e_L 25 (0, ei_getf eft elay 10 7 28, 0, 0)) (e_L 28 (0, ei_load 0 2 29, 0, 0))))))) (e_T 46 (e_T 38 (e_T 32 (e_T 29 (e_L 29 (0, ei_getf eft elay 3 3 32, 0, 0)) (e_L 32 (0, ei_getf eft elay 2 0 35, 0, 0))) (e_T 35 (e_L 35 (0, ei_if2 0 62 38, 0, 0)) (e_L 38 (0, ei_load 0 2 39, 0, 0)))) (e_T 42 (e_T 39 (e_L 39 (0, ei_getf eft elay 3 0 42, 0, 0)) (e_L 42 (0, ei_load 0 2 43, 0, 0))) (e_T 43 (e_L 43 (0, ei_getf eft elay 3 4 46, 0, 0)) (e_L 46 (0, ei_load 1 0 47, 0, 0))))) (e_T 52 (e_T 48 (e_T 47 (e_L 47 (0, ei_aald elay 48, 0, 0)) (e_L 48 (0, ei_getf eft elay 10 2 51, 0, 0))) (e_T 51 (e_L 51 (0, ei_aald elay 52, 0, 0)) (e_L 52 (0, ei_getf eft elay 0 16 55, 0, 0)))) (e_T 58 (e_T 55 (e_L 55 (0, ei_if1 3 62 58, 0, 0)) (e_L 58 (0, ei_push (0, 1) 59, 0, 0))) (e_T 59 (e_L 59 (0, ei_goto 63, 0, 0)) (e_T 62 (e_L 62 (0, ei_push (0, 0) 63, 0, 0)) (e_L 63 (1, e_nof, 4, 0))))))))
set_option maxRecDepth 20000 in
set_option maxHeartbeats 4000000 in
theorem te_42_0_ok : ∀ pc, e_EOq eft cls elay eI n_42 pc (te_42_0 pc) :=
  (e_Tok2
  (e_Tok2
  (e_Tok2
  (e_Tok2
  (e_Tok2
  (e_Lok (ld_aload_n_0 (x_dk dn_42_0_0_ok 0 rfl)))
  (e_Lok (lk_3_40g ho_42 (x_dk dn_42_0_0_ok 1 rfl))))
  (e_Tok2
  (e_Lok (ld_iload_n_1 (x_dk dn_42_0_0_ok 2 rfl)))
  (e_Lok (e_st (I := eI) (er_aaload (x_dk dn_42_0_0_ok 3 rfl)) nx_aald))))
  (e_Tok2
  (e_Tok2
  (e_Lok (lk_3_71g ho_42 (x_dk dn_42_0_0_ok 4 rfl)))
  (e_Lok (ps_iconst_1 (x_dk dn_42_0_0_ok 5 rfl))))
  (e_Tok2
  (e_Lok (ps_iconst_5 (x_dk dn_42_0_0_ok 6 rfl)))
  (e_Lok (lk_3_120 ho_42 (x_dk dn_42_0_0_ok 7 rfl))))))
  (e_Tok2
  (e_Tok2
  (e_Tok2
  (e_Lok (e_st (I := eI) (er_ifne (off := 5) (tg := 19) (x_dk dn_42_0_0_ok 8 rfl) (by decide)) nx_if1))
  (e_Lok (ps_iconst_0 (x_dk dn_42_0_0_ok 9 rfl))))
  (e_Tok2
  (e_Lok (e_rt (I := eI) (k := 4) ⟨(x_dk dn_42_0_0_ok 10 rfl), rfl⟩))
  (e_Lok (ld_aload_n_0 (x_dk dn_42_0_0_ok 11 rfl)))))
  (e_Tok2
  (e_Tok2
  (e_Lok (lk_3_40g ho_42 (x_dk dn_42_0_0_ok 12 rfl)))
  (e_Lok (ld_iload_n_1 (x_dk dn_42_0_0_ok 13 rfl))))
  (e_Tok2
  (e_Lok (e_st (I := eI) (er_aaload (x_dk dn_42_0_0_ok 14 rfl)) nx_aald))
  (e_Tok2
  (e_Lok (lk_3_124g ho_42 (x_dk dn_42_0_0_ok 15 rfl)))
  (e_Lok (ld_aload_n_0 (x_dk dn_42_0_0_ok 16 rfl))))))))
  (e_Tok2
  (e_Tok2
  (e_Tok2
  (e_Tok2
  (e_Lok (lk_3_34g ho_42 (x_dk dn_42_0_0_ok 17 rfl)))
  (e_Lok (lk_3_87g ho_42 (x_dk dn_42_0_0_ok 18 rfl))))
  (e_Tok2
  (e_Lok (e_st (I := eI) (er_icmpeq (off := 27) (tg := 62) (x_dk dn_42_0_0_ok 19 rfl) (by decide)) nx_if2))
  (e_Lok (ld_aload_n_0 (x_dk dn_42_0_0_ok 20 rfl)))))
  (e_Tok2
  (e_Tok2
  (e_Lok (lk_3_11g ho_42 (x_dk dn_42_0_0_ok 21 rfl)))
  (e_Lok (ld_aload_n_0 (x_dk dn_42_0_0_ok 22 rfl))))
  (e_Tok2
  (e_Lok (lk_3_40g ho_42 (x_dk dn_42_0_0_ok 23 rfl)))
  (e_Lok (ld_iload_n_1 (x_dk dn_42_0_0_ok 24 rfl))))))
  (e_Tok2
  (e_Tok2
  (e_Tok2
  (e_Lok (e_st (I := eI) (er_aaload (x_dk dn_42_0_1_ok 0 rfl)) nx_aald))
  (e_Lok (lk_3_127g ho_42 (x_dk dn_42_0_1_ok 1 rfl))))
  (e_Tok2
  (e_Lok (e_st (I := eI) (er_aaload (x_dk dn_42_0_1_ok 2 rfl)) nx_aald))
  (e_Lok (lk_3_94g ho_42 (x_dk dn_42_0_1_ok 3 rfl)))))
  (e_Tok2
  (e_Tok2
  (e_Lok (e_st (I := eI) (er_ifge (off := 7) (tg := 62) (x_dk dn_42_0_1_ok 4 rfl) (by decide)) nx_if1))
  (e_Lok (ps_iconst_1 (x_dk dn_42_0_1_ok 5 rfl))))
  (e_Tok2
  (e_Lok (e_st (I := eI) (er_goto (off := 4) (tg := 63) (x_dk dn_42_0_1_ok 6 rfl) (by decide)) nx_goto))
  (e_Tok2
  (e_Lok (ps_iconst_0 (x_dk dn_42_0_1_ok 7 rfl)))
  (e_Lok (e_rt (I := eI) (k := 4) ⟨(x_dk dn_42_0_1_ok 8 rfl), rfl⟩))))))))
def te_42 : Nat → eE := te_42_0
theorem te_42_ok : ∀ pc, e_EOq eft cls elay eI n_42 pc (te_42 pc) := te_42_0_ok
theorem ho_43 : (xm_y n_43).cls = "RobotCellHouse$Doer" := rfl
def dn_43_0_0 : List (Nat × Instr × Nat) := [(0, .aload_n 0, 1), (1, .getfield 11, 3), (4, .aload_n 1, 1), (5, .getfield 127, 3), (8, .aaload, 1), (9, .getfield 78, 3), (12, .astore_n 2, 1), (13, .aload_n 0, 1), (14, .iconst 0, 1), (15, .putfield 130, 3), (18, .aload_n 0, 1), (19, .iconst 0, 1), (20, .putfield 133, 3), (23, .aload_n 0, 1), (24, .aload_n 1, 1), (25, .invokevirtual 136, 3), (28, .iconst 0, 1), (29, .istore_n 3, 1), (30, .iconst 0, 1), (31, .istore 4, 2), (33, .iload 4, 2), (35, .ldc 140, 2), (37, .if_icmp .ge 197, 3), (40, .aload_n 1, 1), (41, .getfield 71, 3)]
set_option maxRecDepth 20000 in
theorem dn_43_0_0_ok : dn_43_0_0.all (fun q => decide (decode (xm_b n_43) q.1 = .ok (q.2.1, q.2.2))) = true := xa_g_ok (by decide +kernel)
def dn_43_0_1 : List (Nat × Instr × Nat) := [(44, .iconst 1, 1), (45, .if_icmp .ne 189, 3), (48, .aload_n 2, 1), (49, .aload_n 1, 1), (50, .getfield 141, 3), (53, .invokevirtual 144, 3), (56, .istore 5, 2), (58, .aload_n 2, 1), (59, .aload_n 1, 1), (60, .getfield 141, 3), (63, .invokevirtual 148, 3), (66, .istore 6, 2), (68, .aload_n 0, 1), (69, .getfield 130, 3), (72, .ifCond .eq 12, 3), (75, .aload_n 0, 1), (76, .aload_n 1, 1), (77, .aload_n 2, 1), (78, .invokevirtual 151, 3), (81, .goto 147, 3), (84, .iload 5, 2), (86, .bipush 50, 2), (88, .if_icmp .ne 38, 3), (91, .iload_n 3, 1), (92, .bipush 20, 2)]
set_option maxRecDepth 20000 in
theorem dn_43_0_1_ok : dn_43_0_1.all (fun q => decide (decode (xm_b n_43) q.1 = .ok (q.2.1, q.2.2))) = true := xa_g_ok (by decide +kernel)
def dn_43_0_2 : List (Nat × Instr × Nat) := [(94, .if_icmp .ne 4, 3), (97, .return_, 1), (98, .aload_n 0, 1), (99, .aload_n 1, 1), (100, .aload_n 2, 1), (101, .invokevirtual 155, 3), (104, .ifCond .eq 6, 3), (107, .goto 121, 3), (110, .iinc 3 1, 3), (113, .aload_n 1, 1), (114, .dup, 1), (115, .getfield 141, 3), (118, .iconst 1, 1), (119, .iadd, 1), (120, .putfield 141, 3), (123, .goto 105, 3), (126, .aload_n 1, 1), (127, .dup, 1), (128, .getfield 141, 3), (131, .iconst 1, 1), (132, .iadd, 1), (133, .putfield 141, 3), (136, .iload 5, 2), (138, .bipush 8, 2), (140, .if_icmp .gt 15, 3)]
set_option maxRecDepth 20000 in
theorem dn_43_0_2_ok : dn_43_0_2.all (fun q => decide (decode (xm_b n_43) q.1 = .ok (q.2.1, q.2.2))) = true := xa_g_ok (by decide +kernel)
def dn_43_0_3 : List (Nat × Instr × Nat) := [(143, .aload_n 0, 1), (144, .aload_n 1, 1), (145, .iload 5, 2), (147, .iload 6, 2), (149, .invokevirtual 159, 3), (152, .goto 76, 3), (155, .iload 5, 2), (157, .bipush 13, 2), (159, .if_icmp .gt 15, 3), (162, .aload_n 0, 1), (163, .aload_n 1, 1), (164, .iload 5, 2), (166, .iload 6, 2), (168, .invokevirtual 163, 3), (171, .goto 57, 3), (174, .iload 5, 2), (176, .bipush 24, 2), (178, .if_icmp .gt 20, 3), (181, .aload_n 0, 1), (182, .iload 5, 2), (184, .aload_n 0, 1), (185, .invokevirtual 166, 3), (188, .aload_n 0, 1), (189, .invokevirtual 166, 3), (192, .invokevirtual 169, 3)]
set_option maxRecDepth 20000 in
theorem dn_43_0_3_ok : dn_43_0_3.all (fun q => decide (decode (xm_b n_43) q.1 = .ok (q.2.1, q.2.2))) = true := xa_g_ok (by decide +kernel)
def dn_43_1_0 : List (Nat × Instr × Nat) := [(195, .goto 33, 3), (198, .iload 5, 2), (200, .bipush 39, 2), (202, .if_icmp .gt 16, 3), (205, .aload_n 0, 1), (206, .aload_n 1, 1), (207, .aload_n 2, 1), (208, .iload 5, 2), (210, .iload 6, 2), (212, .invokevirtual 172, 3), (215, .goto 13, 3), (218, .aload_n 0, 1), (219, .aload_n 1, 1), (220, .aload_n 2, 1), (221, .iload 5, 2), (223, .iload 6, 2), (225, .invokevirtual 176, 3), (228, .iinc 4 1, 3), (231, .goto (-198), 3), (234, .return_, 1)]
set_option maxRecDepth 20000 in
theorem dn_43_1_0_ok : dn_43_1_0.all (fun q => decide (decode (xm_b n_43) q.1 = .ok (q.2.1, q.2.2))) = true := xa_g_ok (by decide +kernel)
def te_43_0 : Nat → eE := (e_T 24 (e_T 12 (e_T 4 (e_T 0 (e_L 0 (0, ei_load 0 2 1, 0, 0)) (e_T 1 (e_L 1 (0, ei_getf eft elay 3 0 4, 0, 0)) (e_L 4 (0, ei_load 1 2 5, 0, 0)))) (e_T 8 (e_T 5 (e_L 5 (0, ei_getf eft elay 10 2 8, 0, 0)) (e_L 8 (0, ei_aald elay 9, 0, 0))) (e_T 9 (e_L 9 (0, ei_getf eft elay 0 7 12, 0, 0)) (e_L 12 (0, ei_stor 2 2 13, 0, 0))))) (e_T 18 (e_T 14 (e_T 13 (e_L 13 (0, ei_load 0 2 14, 0, 0)) (e_L 14 (0, ei_push (0, 0) 15, 0, 0))) (e_T 15 (e_L 15 (0, ei_putf eft elay 3 11 1 18, 0, 0)) (e_L 18 (0, ei_load 0 2 19, 0, 0)))) (e_T 20 (e_T 19 (e_L 19 (0, ei_push (0, 0) 20, 0, 0)) (e_L 20 (0, ei_putf eft elay 3 8 0 23, 0, 0))) (e_T 23 (e_L 23 (0, ei_load 0 2 24, 0, 0)) (e_L 24 (0, ei_load 1 2 25, 0, 0)))))) (e_T 35 (e_T 29 (e_T 25 (e_L 25 (2, e_nof, 45, 2)) (e_T 28 (e_L 28 (0, ei_push (0, 0) 29, 0, 0)) (e_L 29 (0, ei_stor 3 0 30, 0, 0)))) (e_T 31 (e_T 30 (e_L 30 (0, ei_push (0, 0) 31, 0, 0)) (e_L 31 (0, ei_stor 4 0 33, 0, 0))) (e_T 33 (e_L 33 (0, ei_load 4 0 35, 0, 0)) (e_L 35 (0, ei_push (0, 1000000) 37, 0, 0))))) (e_T 44 (e_T 40 (e_T 37 (e_L 37 (0, ei_if2 3 234 40, 0, 0)) (e_L 40 (0, ei_load 1 2 41, 0, 0))) (e_T 41 (e_L 41 (0, ei_getf eft elay 10 1 44, 0, 0)) (e_L 44 (0, ei_push (0, 1) 45, 0, 0)))) (e_T 48 (e_T 45 (e_L 45 (0, ei_if2 1 234 48, 0, 0)) (e_L 48 (0, ei_load 2 2 49, 0, 0))) (e_T 49 (e_L 49 (0, ei_load 1 2 50, 0, 0)) (e_L 50 (0, ei_getf eft elay 10 3 53, 0, 0)))))))
set_option maxRecDepth 20000 in
set_option maxHeartbeats 4000000 in
theorem te_43_0_ok : ∀ pc, e_EOq eft cls elay eI n_43 pc (te_43_0 pc) :=
  (e_Tok2
  (e_Tok2
  (e_Tok2
  (e_Tok2
  (e_Lok (ld_aload_n_0 (x_dk dn_43_0_0_ok 0 rfl)))
  (e_Tok2
  (e_Lok (lk_3_11g ho_43 (x_dk dn_43_0_0_ok 1 rfl)))
  (e_Lok (ld_aload_n_1 (x_dk dn_43_0_0_ok 2 rfl)))))
  (e_Tok2
  (e_Tok2
  (e_Lok (lk_3_127g ho_43 (x_dk dn_43_0_0_ok 3 rfl)))
  (e_Lok (e_st (I := eI) (er_aaload (x_dk dn_43_0_0_ok 4 rfl)) nx_aald)))
  (e_Tok2
  (e_Lok (lk_3_78g ho_43 (x_dk dn_43_0_0_ok 5 rfl)))
  (e_Lok (e_st (I := eI) (er_astore_n (i := 2) (x_dk dn_43_0_0_ok 6 rfl) (by decide +kernel)) nx_stor)))))
  (e_Tok2
  (e_Tok2
  (e_Tok2
  (e_Lok (ld_aload_n_0 (x_dk dn_43_0_0_ok 7 rfl)))
  (e_Lok (ps_iconst_0 (x_dk dn_43_0_0_ok 8 rfl))))
  (e_Tok2
  (e_Lok (lk_3_130p ho_43 (x_dk dn_43_0_0_ok 9 rfl)))
  (e_Lok (ld_aload_n_0 (x_dk dn_43_0_0_ok 10 rfl)))))
  (e_Tok2
  (e_Tok2
  (e_Lok (ps_iconst_0 (x_dk dn_43_0_0_ok 11 rfl)))
  (e_Lok (lk_3_133p ho_43 (x_dk dn_43_0_0_ok 12 rfl))))
  (e_Tok2
  (e_Lok (ld_aload_n_0 (x_dk dn_43_0_0_ok 13 rfl)))
  (e_Lok (ld_aload_n_1 (x_dk dn_43_0_0_ok 14 rfl)))))))
  (e_Tok2
  (e_Tok2
  (e_Tok2
  (e_Lok (lk_3_136 ho_43 (x_dk dn_43_0_0_ok 15 rfl)))
  (e_Tok2
  (e_Lok (ps_iconst_0 (x_dk dn_43_0_0_ok 16 rfl)))
  (e_Lok (e_st (I := eI) (er_istore_n (i := 3) (x_dk dn_43_0_0_ok 17 rfl) (by decide +kernel)) nx_stor))))
  (e_Tok2
  (e_Tok2
  (e_Lok (ps_iconst_0 (x_dk dn_43_0_0_ok 18 rfl)))
  (e_Lok (e_st (I := eI) (er_istore (i := 4) (x_dk dn_43_0_0_ok 19 rfl) (by decide +kernel)) nx_stor)))
  (e_Tok2
  (e_Lok (ld_iload_4 (x_dk dn_43_0_0_ok 20 rfl)))
  (e_Lok (e_st (I := eI) (er_ldc (ix := 140) (z := 1000000) (v := 1000000) (x_dk dn_43_0_0_ok 21 rfl) (in_t7 (List.mem_of_getElem? (i := 76) rfl) rfl) (by decide)) (nx_push (Or.inl rfl)))))))
  (e_Tok2
  (e_Tok2
  (e_Tok2
  (e_Lok (e_st (I := eI) (er_icmpge (off := 197) (tg := 234) (x_dk dn_43_0_0_ok 22 rfl) (by decide)) nx_if2))
  (e_Lok (ld_aload_n_1 (x_dk dn_43_0_0_ok 23 rfl))))
  (e_Tok2
  (e_Lok (lk_3_71g ho_43 (x_dk dn_43_0_0_ok 24 rfl)))
  (e_Lok (ps_iconst_1 (x_dk dn_43_0_1_ok 0 rfl)))))
  (e_Tok2
  (e_Tok2
  (e_Lok (e_st (I := eI) (er_icmpne (off := 189) (tg := 234) (x_dk dn_43_0_1_ok 1 rfl) (by decide)) nx_if2))
  (e_Lok (ld_aload_n_2 (x_dk dn_43_0_1_ok 2 rfl))))
  (e_Tok2
  (e_Lok (ld_aload_n_1 (x_dk dn_43_0_1_ok 3 rfl)))
  (e_Lok (lk_3_141g ho_43 (x_dk dn_43_0_1_ok 4 rfl))))))))
def te_43_30 : Nat → eE := (e_T 81 (e_T 66 (e_T 58 (e_T 53 (e_L 53 (2, e_nof, 23, 2)) (e_T 56 (e_L 56 (0, ei_stor 5 0 58, 0, 0)) (e_L 58 (0, ei_load 2 2 59, 0, 0)))) (e_T 60 (e_T 59 (e_L 59 (0, ei_load 1 2 60, 0, 0)) (e_L 60 (0, ei_getf eft elay 10 3 63, 0, 0))) (e_T 63 (e_L 63 (2, e_nof, 24, 2)) (e_L 66 (0, ei_stor 6 0 68, 0, 0))))) (e_T 75 (e_T 69 (e_T 68 (e_L 68 (0, ei_load 0 2 69, 0, 0)) (e_L 69 (0, ei_getf eft elay 3 11 72, 0, 0))) (e_T 72 (e_L 72 (0, ei_if1 0 84 75, 0, 0)) (e_L 75 (0, ei_load 0 2 76, 0, 0)))) (e_T 77 (e_T 76 (e_L 76 (0, ei_load 1 2 77, 0, 0)) (e_L 77 (0, ei_load 2 2 78, 0, 0))) (e_T 78 (e_L 78 (2, e_nof, 44, 3)) (e_L 81 (0, ei_goto 228, 0, 0)))))) (e_T 97 (e_T 88 (e_T 84 (e_L 84 (0, ei_load 5 0 86, 0, 0)) (e_T 86 (e_L 86 (0, ei_push (0, 50) 88, 0, 0)) (e_L 88 (0, ei_if2 1 126 91, 0, 0)))) (e_T 92 (e_T 91 (e_L 91 (0, ei_load 3 0 92, 0, 0)) (e_L 92 (0, ei_push (0, 20) 94, 0, 0))) (e_T 94 (e_L 94 (0, ei_if2 1 98 97, 0, 0)) (e_L 97 (1, e_nof, 0, 0))))) (e_T 101 (e_T 99 (e_T 98 (e_L 98 (0, ei_load 0 2 99, 0, 0)) (e_L 99 (0, ei_load 1 2 100, 0, 0))) (e_T 100 (e_L 100 (0, ei_load 2 2 101, 0, 0)) (e_L 101 (2, e_nof, 47, 3)))) (e_T 107 (e_T 104 (e_L 104 (0, ei_if1 0 110 107, 0, 0)) (e_L 107 (0, ei_goto 228, 0, 0))) (e_T 110 (e_L 110 (0, ei_inc 3 1 113, 0, 0)) (e_L 113 (0, ei_load 1 2 114, 0, 0)))))))
set_option maxRecDepth 20000 in
set_option maxHeartbeats 4000000 in
theorem te_43_30_ok : ∀ pc, e_EOq eft cls elay eI n_43 pc (te_43_30 pc) :=
  (e_Tok2
  (e_Tok2
  (e_Tok2
  (e_Tok2
  (e_Lok (lk_3_144 ho_43 (x_dk dn_43_0_1_ok 5 rfl)))
  (e_Tok2
  (e_Lok (e_st (I := eI) (er_istore (i := 5) (x_dk dn_43_0_1_ok 6 rfl) (by decide +kernel)) nx_stor))
  (e_Lok (ld_aload_n_2 (x_dk dn_43_0_1_ok 7 rfl)))))
  (e_Tok2
  (e_Tok2
  (e_Lok (ld_aload_n_1 (x_dk dn_43_0_1_ok 8 rfl)))
  (e_Lok (lk_3_141g ho_43 (x_dk dn_43_0_1_ok 9 rfl))))
  (e_Tok2
  (e_Lok (lk_3_148 ho_43 (x_dk dn_43_0_1_ok 10 rfl)))
  (e_Lok (e_st (I := eI) (er_istore (i := 6) (x_dk dn_43_0_1_ok 11 rfl) (by decide +kernel)) nx_stor)))))
  (e_Tok2
  (e_Tok2
  (e_Tok2
  (e_Lok (ld_aload_n_0 (x_dk dn_43_0_1_ok 12 rfl)))
  (e_Lok (lk_3_130g ho_43 (x_dk dn_43_0_1_ok 13 rfl))))
  (e_Tok2
  (e_Lok (e_st (I := eI) (er_ifeq (off := 12) (tg := 84) (x_dk dn_43_0_1_ok 14 rfl) (by decide)) nx_if1))
  (e_Lok (ld_aload_n_0 (x_dk dn_43_0_1_ok 15 rfl)))))
  (e_Tok2
  (e_Tok2
  (e_Lok (ld_aload_n_1 (x_dk dn_43_0_1_ok 16 rfl)))
  (e_Lok (ld_aload_n_2 (x_dk dn_43_0_1_ok 17 rfl))))
  (e_Tok2
  (e_Lok (lk_3_151 ho_43 (x_dk dn_43_0_1_ok 18 rfl)))
  (e_Lok (e_st (I := eI) (er_goto (off := 147) (tg := 228) (x_dk dn_43_0_1_ok 19 rfl) (by decide)) nx_goto))))))
  (e_Tok2
  (e_Tok2
  (e_Tok2
  (e_Lok (ld_iload_5 (x_dk dn_43_0_1_ok 20 rfl)))
  (e_Tok2
  (e_Lok (ps_bipush_50 (x_dk dn_43_0_1_ok 21 rfl)))
  (e_Lok (e_st (I := eI) (er_icmpne (off := 38) (tg := 126) (x_dk dn_43_0_1_ok 22 rfl) (by decide)) nx_if2))))
  (e_Tok2
  (e_Tok2
  (e_Lok (ld_iload_n_3 (x_dk dn_43_0_1_ok 23 rfl)))
  (e_Lok (ps_bipush_20 (x_dk dn_43_0_1_ok 24 rfl))))
  (e_Tok2
  (e_Lok (e_st (I := eI) (er_icmpne (off := 4) (tg := 98) (x_dk dn_43_0_2_ok 0 rfl) (by decide)) nx_if2))
  (e_Lok (e_rt (I := eI) (k := 0) ⟨(x_dk dn_43_0_2_ok 1 rfl), rfl⟩)))))
  (e_Tok2
  (e_Tok2
  (e_Tok2
  (e_Lok (ld_aload_n_0 (x_dk dn_43_0_2_ok 2 rfl)))
  (e_Lok (ld_aload_n_1 (x_dk dn_43_0_2_ok 3 rfl))))
  (e_Tok2
  (e_Lok (ld_aload_n_2 (x_dk dn_43_0_2_ok 4 rfl)))
  (e_Lok (lk_3_155 ho_43 (x_dk dn_43_0_2_ok 5 rfl)))))
  (e_Tok2
  (e_Tok2
  (e_Lok (e_st (I := eI) (er_ifeq (off := 6) (tg := 110) (x_dk dn_43_0_2_ok 6 rfl) (by decide)) nx_if1))
  (e_Lok (e_st (I := eI) (er_goto (off := 121) (tg := 228) (x_dk dn_43_0_2_ok 7 rfl) (by decide)) nx_goto)))
  (e_Tok2
  (e_Lok (e_st (I := eI) (er_iinc (i := 3) (n := 1) (x_dk dn_43_0_2_ok 8 rfl) (by decide +kernel) (by decide)) nx_inc))
  (e_Lok (ld_aload_n_1 (x_dk dn_43_0_2_ok 9 rfl))))))))
def te_43_60 : Nat → eE := (e_T 140 (e_T 126 (e_T 118 (e_T 114 (e_L 114 (0, ei_stk ef_dup 115, 0, 0)) (e_T 115 (e_L 115 (0, ei_getf eft elay 10 3 118, 0, 0)) (e_L 118 (0, ei_push (0, 1) 119, 0, 0)))) (e_T 120 (e_T 119 (e_L 119 (0, ei_bin eF_add 120, 0, 0)) (e_L 120 (0, ei_putf eft elay 10 3 0 123, 0, 0))) (e_T 123 (e_L 123 (0, ei_goto 228, 0, 0)) (e_L 126 (0, ei_load 1 2 127, 0, 0))))) (e_T 132 (e_T 128 (e_T 127 (e_L 127 (0, ei_stk ef_dup 128, 0, 0)) (e_L 128 (0, ei_getf eft elay 10 3 131, 0, 0))) (e_T 131 (e_L 131 (0, ei_push (0, 1) 132, 0, 0)) (e_L 132 (0, ei_bin eF_add 133, 0, 0)))) (e_T 136 (e_T 133 (e_L 133 (0, ei_putf eft elay 10 3 0 136, 0, 0)) (e_L 136 (0, ei_load 5 0 138, 0, 0))) (e_T 138 (e_L 138 (0, ei_push (0, 8) 140, 0, 0)) (e_L 140 (0, ei_if2 4 155 143, 0, 0)))))) (e_T 155 (e_T 145 (e_T 143 (e_L 143 (0, ei_load 0 2 144, 0, 0)) (e_T 144 (e_L 144 (0, ei_load 1 2 145, 0, 0)) (e_L 145 (0, ei_load 5 0 147, 0, 0)))) (e_T 149 (e_T 147 (e_L 147 (0, ei_load 6 0 149, 0, 0)) (e_L 149 (2, e_nof, 54, 4))) (e_T 152 (e_L 152 (0, ei_goto 228, 0, 0)) (e_L 155 (0, ei_load 5 0 157, 0, 0))))) (e_T 163 (e_T 159 (e_T 157 (e_L 157 (0, ei_push (0, 13) 159, 0, 0)) (e_L 159 (0, ei_if2 4 174 162, 0, 0))) (e_T 162 (e_L 162 (0, ei_load 0 2 163, 0, 0)) (e_L 163 (0, ei_load 1 2 164, 0, 0)))) (e_T 166 (e_T 164 (e_L 164 (0, ei_load 5 0 166, 0, 0)) (e_L 166 (0, ei_load 6 0 168, 0, 0))) (e_T 168 (e_L 168 (2, e_nof, 57, 4)) (e_L 171 (0, ei_goto 228, 0, 0)))))))
set_option maxRecDepth 20000 in
set_option maxHeartbeats 4000000 in
theorem te_43_60_ok : ∀ pc, e_EOq eft cls elay eI n_43 pc (te_43_60 pc) :=
  (e_Tok2
  (e_Tok2
  (e_Tok2
  (e_Tok2
  (e_Lok (e_st (I := eI) (er_dup (x_dk dn_43_0_2_ok 10 rfl)) (nx_stk bf_dup)))
  (e_Tok2
  (e_Lok (lk_3_141g ho_43 (x_dk dn_43_0_2_ok 11 rfl)))
  (e_Lok (ps_iconst_1 (x_dk dn_43_0_2_ok 12 rfl)))))
  (e_Tok2
  (e_Tok2
  (e_Lok (sm_iadd (x_dk dn_43_0_2_ok 13 rfl)))
  (e_Lok (lk_3_141p ho_43 (x_dk dn_43_0_2_ok 14 rfl))))
  (e_Tok2
  (e_Lok (e_st (I := eI) (er_goto (off := 105) (tg := 228) (x_dk dn_43_0_2_ok 15 rfl) (by decide)) nx_goto))
  (e_Lok (ld_aload_n_1 (x_dk dn_43_0_2_ok 16 rfl))))))
  (e_Tok2
  (e_Tok2
  (e_Tok2
  (e_Lok (e_st (I := eI) (er_dup (x_dk dn_43_0_2_ok 17 rfl)) (nx_stk bf_dup)))
  (e_Lok (lk_3_141g ho_43 (x_dk dn_43_0_2_ok 18 rfl))))
  (e_Tok2
  (e_Lok (ps_iconst_1 (x_dk dn_43_0_2_ok 19 rfl)))
  (e_Lok (sm_iadd (x_dk dn_43_0_2_ok 20 rfl)))))
  (e_Tok2
  (e_Tok2
  (e_Lok (lk_3_141p ho_43 (x_dk dn_43_0_2_ok 21 rfl)))
  (e_Lok (ld_iload_5 (x_dk dn_43_0_2_ok 22 rfl))))
  (e_Tok2
  (e_Lok (ps_bipush_8 (x_dk dn_43_0_2_ok 23 rfl)))
  (e_Lok (e_st (I := eI) (er_icmpgt (off := 15) (tg := 155) (x_dk dn_43_0_2_ok 24 rfl) (by decide)) nx_if2))))))
  (e_Tok2
  (e_Tok2
  (e_Tok2
  (e_Lok (ld_aload_n_0 (x_dk dn_43_0_3_ok 0 rfl)))
  (e_Tok2
  (e_Lok (ld_aload_n_1 (x_dk dn_43_0_3_ok 1 rfl)))
  (e_Lok (ld_iload_5 (x_dk dn_43_0_3_ok 2 rfl)))))
  (e_Tok2
  (e_Tok2
  (e_Lok (ld_iload_6 (x_dk dn_43_0_3_ok 3 rfl)))
  (e_Lok (lk_3_159 ho_43 (x_dk dn_43_0_3_ok 4 rfl))))
  (e_Tok2
  (e_Lok (e_st (I := eI) (er_goto (off := 76) (tg := 228) (x_dk dn_43_0_3_ok 5 rfl) (by decide)) nx_goto))
  (e_Lok (ld_iload_5 (x_dk dn_43_0_3_ok 6 rfl))))))
  (e_Tok2
  (e_Tok2
  (e_Tok2
  (e_Lok (ps_bipush_13 (x_dk dn_43_0_3_ok 7 rfl)))
  (e_Lok (e_st (I := eI) (er_icmpgt (off := 15) (tg := 174) (x_dk dn_43_0_3_ok 8 rfl) (by decide)) nx_if2)))
  (e_Tok2
  (e_Lok (ld_aload_n_0 (x_dk dn_43_0_3_ok 9 rfl)))
  (e_Lok (ld_aload_n_1 (x_dk dn_43_0_3_ok 10 rfl)))))
  (e_Tok2
  (e_Tok2
  (e_Lok (ld_iload_5 (x_dk dn_43_0_3_ok 11 rfl)))
  (e_Lok (ld_iload_6 (x_dk dn_43_0_3_ok 12 rfl))))
  (e_Tok2
  (e_Lok (lk_3_163 ho_43 (x_dk dn_43_0_3_ok 13 rfl)))
  (e_Lok (e_st (I := eI) (er_goto (off := 57) (tg := 228) (x_dk dn_43_0_3_ok 14 rfl) (by decide)) nx_goto)))))))
def te_43_90 : Nat → eE := (e_T 205 (e_T 185 (e_T 178 (e_T 174 (e_L 174 (0, ei_load 5 0 176, 0, 0)) (e_T 176 (e_L 176 (0, ei_push (0, 24) 178, 0, 0)) (e_L 178 (0, ei_if2 4 198 181, 0, 0)))) (e_T 182 (e_T 181 (e_L 181 (0, ei_load 0 2 182, 0, 0)) (e_L 182 (0, ei_load 5 0 184, 0, 0))) (e_T 184 (e_L 184 (0, ei_load 0 2 185, 0, 0)) (e_L 185 (2, e_nof, 53, 1))))) (e_T 195 (e_T 189 (e_T 188 (e_L 188 (0, ei_load 0 2 189, 0, 0)) (e_L 189 (2, e_nof, 53, 1))) (e_T 192 (e_L 192 (2, e_nof, 58, 4)) (e_L 195 (0, ei_goto 228, 0, 0)))) (e_T 200 (e_T 198 (e_L 198 (0, ei_load 5 0 200, 0, 0)) (e_L 200 (0, ei_push (0, 39) 202, 0, 0))) (e_T 202 (e_L 202 (0, ei_if2 4 218 205, 0, 0)) (e_L 205 (0, ei_load 0 2 206, 0, 0)))))) (e_T 218 (e_T 208 (e_T 206 (e_L 206 (0, ei_load 1 2 207, 0, 0)) (e_T 207 (e_L 207 (0, ei_load 2 2 208, 0, 0)) (e_L 208 (0, ei_load 5 0 210, 0, 0)))) (e_T 212 (e_T 210 (e_L 210 (0, ei_load 6 0 212, 0, 0)) (e_L 212 (2, e_nof, 59, 5))) (e_T 215 (e_L 215 (0, ei_goto 228, 0, 0)) (e_L 218 (0, ei_load 0 2 219, 0, 0))))) (e_T 223 (e_T 220 (e_T 219 (e_L 219 (0, ei_load 1 2 220, 0, 0)) (e_L 220 (0, ei_load 2 2 221, 0, 0))) (e_T 221 (e_L 221 (0, ei_load 5 0 223, 0, 0)) (e_L 223 (0, ei_load 6 0 225, 0, 0)))) (e_T 228 (e_T 225 (e_L 225 (2, e_nof, 71, 5)) (e_L 228 (0, ei_inc 4 1 231, 0, 0))) (e_T 231 (e_L 231 (0, ei_goto 33, 0, 0)) (e_L 234 (1, e_nof, 0, 0)))))))
set_option maxRecDepth 20000 in
set_option maxHeartbeats 4000000 in
theorem te_43_90_ok : ∀ pc, e_EOq eft cls elay eI n_43 pc (te_43_90 pc) :=
  (e_Tok2
  (e_Tok2
  (e_Tok2
  (e_Tok2
  (e_Lok (ld_iload_5 (x_dk dn_43_0_3_ok 15 rfl)))
  (e_Tok2
  (e_Lok (ps_bipush_24 (x_dk dn_43_0_3_ok 16 rfl)))
  (e_Lok (e_st (I := eI) (er_icmpgt (off := 20) (tg := 198) (x_dk dn_43_0_3_ok 17 rfl) (by decide)) nx_if2))))
  (e_Tok2
  (e_Tok2
  (e_Lok (ld_aload_n_0 (x_dk dn_43_0_3_ok 18 rfl)))
  (e_Lok (ld_iload_5 (x_dk dn_43_0_3_ok 19 rfl))))
  (e_Tok2
  (e_Lok (ld_aload_n_0 (x_dk dn_43_0_3_ok 20 rfl)))
  (e_Lok (lk_3_166 ho_43 (x_dk dn_43_0_3_ok 21 rfl))))))
  (e_Tok2
  (e_Tok2
  (e_Tok2
  (e_Lok (ld_aload_n_0 (x_dk dn_43_0_3_ok 22 rfl)))
  (e_Lok (lk_3_166 ho_43 (x_dk dn_43_0_3_ok 23 rfl))))
  (e_Tok2
  (e_Lok (lk_3_169 ho_43 (x_dk dn_43_0_3_ok 24 rfl)))
  (e_Lok (e_st (I := eI) (er_goto (off := 33) (tg := 228) (x_dk dn_43_1_0_ok 0 rfl) (by decide)) nx_goto))))
  (e_Tok2
  (e_Tok2
  (e_Lok (ld_iload_5 (x_dk dn_43_1_0_ok 1 rfl)))
  (e_Lok (ps_bipush_39 (x_dk dn_43_1_0_ok 2 rfl))))
  (e_Tok2
  (e_Lok (e_st (I := eI) (er_icmpgt (off := 16) (tg := 218) (x_dk dn_43_1_0_ok 3 rfl) (by decide)) nx_if2))
  (e_Lok (ld_aload_n_0 (x_dk dn_43_1_0_ok 4 rfl)))))))
  (e_Tok2
  (e_Tok2
  (e_Tok2
  (e_Lok (ld_aload_n_1 (x_dk dn_43_1_0_ok 5 rfl)))
  (e_Tok2
  (e_Lok (ld_aload_n_2 (x_dk dn_43_1_0_ok 6 rfl)))
  (e_Lok (ld_iload_5 (x_dk dn_43_1_0_ok 7 rfl)))))
  (e_Tok2
  (e_Tok2
  (e_Lok (ld_iload_6 (x_dk dn_43_1_0_ok 8 rfl)))
  (e_Lok (lk_3_172 ho_43 (x_dk dn_43_1_0_ok 9 rfl))))
  (e_Tok2
  (e_Lok (e_st (I := eI) (er_goto (off := 13) (tg := 228) (x_dk dn_43_1_0_ok 10 rfl) (by decide)) nx_goto))
  (e_Lok (ld_aload_n_0 (x_dk dn_43_1_0_ok 11 rfl))))))
  (e_Tok2
  (e_Tok2
  (e_Tok2
  (e_Lok (ld_aload_n_1 (x_dk dn_43_1_0_ok 12 rfl)))
  (e_Lok (ld_aload_n_2 (x_dk dn_43_1_0_ok 13 rfl))))
  (e_Tok2
  (e_Lok (ld_iload_5 (x_dk dn_43_1_0_ok 14 rfl)))
  (e_Lok (ld_iload_6 (x_dk dn_43_1_0_ok 15 rfl)))))
  (e_Tok2
  (e_Tok2
  (e_Lok (lk_3_176 ho_43 (x_dk dn_43_1_0_ok 16 rfl)))
  (e_Lok (e_st (I := eI) (er_iinc (i := 4) (n := 1) (x_dk dn_43_1_0_ok 17 rfl) (by decide +kernel) (by decide)) nx_inc)))
  (e_Tok2
  (e_Lok (e_st (I := eI) (er_goto (off := (-198)) (tg := 33) (x_dk dn_43_1_0_ok 18 rfl) (by decide)) nx_goto))
  (e_Lok (e_rt (I := eI) (k := 0) ⟨(x_dk dn_43_1_0_ok 19 rfl), rfl⟩)))))))
def te_43 : Nat → eE := (e_T 113 (e_T 50 te_43_0 te_43_30) (e_T 171 te_43_60 te_43_90))
theorem te_43_ok : ∀ pc, e_EOq eft cls elay eI n_43 pc (te_43 pc) := (e_Tok2 ((e_Tok2 (te_43_0_ok) (te_43_30_ok))) ((e_Tok2 (te_43_60_ok) (te_43_90_ok))))
theorem ho_44 : (xm_y n_44).cls = "RobotCellHouse$Doer" := rfl
def dn_44_0_0 : List (Nat × Instr × Nat) := [(0, .aload_n 0, 1), (1, .iconst 0, 1), (2, .putfield 130, 3), (5, .aload_n 0, 1), (6, .iconst 0, 1), (7, .putfield 133, 3), (10, .aload_n 1, 1), (11, .aload_n 2, 1), (12, .iconst 1, 1), (13, .aload_n 0, 1), (14, .getfield 179, 3), (17, .invokevirtual 182, 3), (20, .ifCond .ne 12, 3), (23, .aload_n 0, 1), (24, .aload_n 1, 1), (25, .aload_n 0, 1), (26, .getfield 179, 3), (29, .invokevirtual 186, 3), (32, .return_, 1)]
set_option maxRecDepth 20000 in
theorem dn_44_0_0_ok : dn_44_0_0.all (fun q => decide (decode (xm_b n_44) q.1 = .ok (q.2.1, q.2.2))) = true := xa_g_ok (by decide +kernel)
def te_44_0 : Nat → eE := (e_T 12 (e_T 5 (e_T 1 (e_T 0 (e_L 0 (0, ei_load 0 2 1, 0, 0)) (e_L 1 (0, ei_push (0, 0) 2, 0, 0))) (e_T 2 (e_L 2 (0, ei_putf eft elay 3 11 1 5, 0, 0)) (e_L 5 (0, ei_load 0 2 6, 0, 0)))) (e_T 7 (e_T 6 (e_L 6 (0, ei_push (0, 0) 7, 0, 0)) (e_L 7 (0, ei_putf eft elay 3 8 0 10, 0, 0))) (e_T 10 (e_L 10 (0, ei_load 1 2 11, 0, 0)) (e_T 11 (e_L 11 (0, ei_load 2 2 12, 0, 0)) (e_L 12 (0, ei_push (0, 1) 13, 0, 0)))))) (e_T 23 (e_T 14 (e_T 13 (e_L 13 (0, ei_load 0 2 14, 0, 0)) (e_L 14 (0, ei_getf eft elay 3 10 17, 0, 0))) (e_T 17 (e_L 17 (2, e_nof, 188, 4)) (e_T 20 (e_L 20 (0, ei_if1 1 32 23, 0, 0)) (e_L 23 (0, ei_load 0 2 24, 0, 0))))) (e_T 25 (e_T 24 (e_L 24 (0, ei_load 1 2 25, 0, 0)) (e_L 25 (0, ei_load 0 2 26, 0, 0))) (e_T 26 (e_L 26 (0, ei_getf eft elay 3 10 29, 0, 0)) (e_T 29 (e_L 29 (2, e_nof, 48, 3)) (e_L 32 (1, e_nof, 0, 0)))))))
set_option maxRecDepth 20000 in
set_option maxHeartbeats 4000000 in
theorem te_44_0_ok : ∀ pc, e_EOq eft cls elay eI n_44 pc (te_44_0 pc) :=
  (e_Tok2
  (e_Tok2
  (e_Tok2
  (e_Tok2
  (e_Lok (ld_aload_n_0 (x_dk dn_44_0_0_ok 0 rfl)))
  (e_Lok (ps_iconst_0 (x_dk dn_44_0_0_ok 1 rfl))))
  (e_Tok2
  (e_Lok (lk_3_130p ho_44 (x_dk dn_44_0_0_ok 2 rfl)))
  (e_Lok (ld_aload_n_0 (x_dk dn_44_0_0_ok 3 rfl)))))
  (e_Tok2
  (e_Tok2
  (e_Lok (ps_iconst_0 (x_dk dn_44_0_0_ok 4 rfl)))
  (e_Lok (lk_3_133p ho_44 (x_dk dn_44_0_0_ok 5 rfl))))
  (e_Tok2
  (e_Lok (ld_aload_n_1 (x_dk dn_44_0_0_ok 6 rfl)))
  (e_Tok2
  (e_Lok (ld_aload_n_2 (x_dk dn_44_0_0_ok 7 rfl)))
  (e_Lok (ps_iconst_1 (x_dk dn_44_0_0_ok 8 rfl)))))))
  (e_Tok2
  (e_Tok2
  (e_Tok2
  (e_Lok (ld_aload_n_0 (x_dk dn_44_0_0_ok 9 rfl)))
  (e_Lok (lk_3_179g ho_44 (x_dk dn_44_0_0_ok 10 rfl))))
  (e_Tok2
  (e_Lok (lk_3_182 ho_44 (x_dk dn_44_0_0_ok 11 rfl)))
  (e_Tok2
  (e_Lok (e_st (I := eI) (er_ifne (off := 12) (tg := 32) (x_dk dn_44_0_0_ok 12 rfl) (by decide)) nx_if1))
  (e_Lok (ld_aload_n_0 (x_dk dn_44_0_0_ok 13 rfl))))))
  (e_Tok2
  (e_Tok2
  (e_Lok (ld_aload_n_1 (x_dk dn_44_0_0_ok 14 rfl)))
  (e_Lok (ld_aload_n_0 (x_dk dn_44_0_0_ok 15 rfl))))
  (e_Tok2
  (e_Lok (lk_3_179g ho_44 (x_dk dn_44_0_0_ok 16 rfl)))
  (e_Tok2
  (e_Lok (lk_3_186 ho_44 (x_dk dn_44_0_0_ok 17 rfl)))
  (e_Lok (e_rt (I := eI) (k := 0) ⟨(x_dk dn_44_0_0_ok 18 rfl), rfl⟩)))))))
def te_44 : Nat → eE := te_44_0
theorem te_44_ok : ∀ pc, e_EOq eft cls elay eI n_44 pc (te_44 pc) := te_44_0_ok
theorem ho_45 : (xm_y n_45).cls = "RobotCellHouse$Doer" := rfl
def dn_45_0_0 : List (Nat × Instr × Nat) := [(0, .iconst 1, 1), (1, .istore_n 2, 1), (2, .aload_n 1, 1), (3, .getfield 71, 3), (6, .tableswitch 107 2 5 #[30, 54, 107, 82], 30), (36, .aload_n 0, 1), (37, .getfield 11, 3), (40, .aload_n 1, 1), (41, .getfield 127, 3), (44, .aaload, 1), (45, .getfield 104, 3), (48, .ifCond .ne 7, 3), (51, .iconst 1, 1), (52, .goto 4, 3), (55, .iconst 0, 1), (56, .istore_n 2, 1), (57, .goto 56, 3), (60, .aload_n 0, 1), (61, .getfield 34, 3), (64, .getfield 87, 3), (67, .aload_n 1, 1), (68, .getfield 190, 3), (71, .isub, 1), (72, .aload_n 1, 1), (73, .getfield 193, 3)]
set_option maxRecDepth 20000 in
theorem dn_45_0_0_ok : dn_45_0_0.all (fun q => decide (decode (xm_b n_45) q.1 = .ok (q.2.1, q.2.2))) = true := xa_g_ok (by decide +kernel)
def dn_45_0_1 : List (Nat × Instr × Nat) := [(76, .if_icmp .lt 7, 3), (79, .iconst 1, 1), (80, .goto 4, 3), (83, .iconst 0, 1), (84, .istore_n 2, 1), (85, .goto 28, 3), (88, .aload_n 0, 1), (89, .getfield 44, 3), (92, .aload_n 1, 1), (93, .getfield 193, 3), (96, .iaload, 1), (97, .aload_n 1, 1), (98, .getfield 196, 3), (101, .if_icmp .ne 7, 3), (104, .iconst 1, 1), (105, .goto 4, 3), (108, .iconst 0, 1), (109, .istore_n 2, 1), (110, .goto 3, 3), (113, .iload_n 2, 1), (114, .ifCond .ne 4, 3), (117, .return_, 1), (118, .aload_n 1, 1), (119, .iconst 1, 1), (120, .putfield 71, 3)]
set_option maxRecDepth 20000 in
theorem dn_45_0_1_ok : dn_45_0_1.all (fun q => decide (decode (xm_b n_45) q.1 = .ok (q.2.1, q.2.2))) = true := xa_g_ok (by decide +kernel)
def dn_45_0_2 : List (Nat × Instr × Nat) := [(123, .aload_n 1, 1), (124, .getfield 114, 3), (127, .ifCond .eq 9, 3), (130, .aload_n 0, 1), (131, .bipush 6, 2), (133, .invokevirtual 199, 3), (136, .aload_n 1, 1), (137, .iconst 0, 1), (138, .putfield 114, 3), (141, .return_, 1)]
set_option maxRecDepth 20000 in
theorem dn_45_0_2_ok : dn_45_0_2.all (fun q => decide (decode (xm_b n_45) q.1 = .ok (q.2.1, q.2.2))) = true := xa_g_ok (by decide +kernel)
def te_45_0 : Nat → eE := (e_T 55 (e_T 37 (e_T 2 (e_T 0 (e_L 0 (0, ei_push (0, 1) 1, 0, 0)) (e_T 1 (e_L 1 (0, ei_stor 2 0 2, 0, 0)) (e_L 2 (0, ei_load 1 2 3, 0, 0)))) (e_T 6 (e_T 3 (e_L 3 (0, ei_getf eft elay 10 1 6, 0, 0)) (e_L 6 (0, ei_sw [((-2147483648), 1, 113), (2, 2, 36), (3, 3, 60), (4, 4, 113), (5, 5, 88), (6, 2147483647, 113)], 0, 0))) (e_T 36 (e_L 36 (0, ei_load 0 2 37, 0, 0)) (e_L 37 (0, ei_getf eft elay 3 0 40, 0, 0))))) (e_T 45 (e_T 41 (e_T 40 (e_L 40 (0, ei_load 1 2 41, 0, 0)) (e_L 41 (0, ei_getf eft elay 10 2 44, 0, 0))) (e_T 44 (e_L 44 (0, ei_aald elay 45, 0, 0)) (e_L 45 (0, ei_getf eft elay 0 11 48, 0, 0)))) (e_T 51 (e_T 48 (e_L 48 (0, ei_if1 1 55 51, 0, 0)) (e_L 51 (0, ei_push (0, 1) 52, 0, 0))) (e_T 52 (e_L 52 (0, ei_goto 56, 0, 0)) (e_L 55 (0, ei_push (0, 0) 56, 0, 0)))))) (e_T 68 (e_T 60 (e_T 56 (e_L 56 (0, ei_stor 2 0 57, 0, 0)) (e_T 57 (e_L 57 (0, ei_goto 113, 0, 0)) (e_L 60 (0, ei_load 0 2 61, 0, 0)))) (e_T 64 (e_T 61 (e_L 61 (0, ei_getf eft elay 3 3 64, 0, 0)) (e_L 64 (0, ei_getf eft elay 2 0 67, 0, 0))) (e_T 67 (e_L 67 (0, ei_load 1 2 68, 0, 0)) (e_L 68 (0, ei_getf eft elay 10 9 71, 0, 0))))) (e_T 76 (e_T 72 (e_T 71 (e_L 71 (0, ei_bin eF_sub 72, 0, 0)) (e_L 72 (0, ei_load 1 2 73, 0, 0))) (e_T 73 (e_L 73 (0, ei_getf eft elay 10 8 76, 0, 0)) (e_L 76 (0, ei_if2 2 83 79, 0, 0)))) (e_T 80 (e_T 79 (e_L 79 (0, ei_push (0, 1) 80, 0, 0)) (e_L 80 (0, ei_goto 84, 0, 0))) (e_T 83 (e_L 83 (0, ei_push (0, 0) 84, 0, 0)) (e_L 84 (0, ei_stor 2 0 85, 0, 0)))))))
set_option maxRecDepth 20000 in
set_option maxHeartbeats 4000000 in
theorem te_45_0_ok : ∀ pc, e_EOq eft cls elay eI n_45 pc (te_45_0 pc) :=
  (e_Tok2
  (e_Tok2
  (e_Tok2
  (e_Tok2
  (e_Lok (ps_iconst_1 (x_dk dn_45_0_0_ok 0 rfl)))
  (e_Tok2
  (e_Lok (e_st (I := eI) (er_istore_n (i := 2) (x_dk dn_45_0_0_ok 1 rfl) (by decide +kernel)) nx_stor))
  (e_Lok (ld_aload_n_1 (x_dk dn_45_0_0_ok 2 rfl)))))
  (e_Tok2
  (e_Tok2
  (e_Lok (lk_3_71g ho_45 (x_dk dn_45_0_0_ok 3 rfl)))
  (e_Lok (e_st (I := eI) (er_tsw (dflt := 107) (lo := 2) (hi := 5) (offs := #[30, 54, 107, 82]) (len := 30) (n := 4) (x_dk dn_45_0_0_ok 4 rfl) (by decide) (by decide +kernel)) nx_sw)))
  (e_Tok2
  (e_Lok (ld_aload_n_0 (x_dk dn_45_0_0_ok 5 rfl)))
  (e_Lok (lk_3_11g ho_45 (x_dk dn_45_0_0_ok 6 rfl))))))
  (e_Tok2
  (e_Tok2
  (e_Tok2
  (e_Lok (ld_aload_n_1 (x_dk dn_45_0_0_ok 7 rfl)))
  (e_Lok (lk_3_127g ho_45 (x_dk dn_45_0_0_ok 8 rfl))))
  (e_Tok2
  (e_Lok (e_st (I := eI) (er_aaload (x_dk dn_45_0_0_ok 9 rfl)) nx_aald))
  (e_Lok (lk_3_104g ho_45 (x_dk dn_45_0_0_ok 10 rfl)))))
  (e_Tok2
  (e_Tok2
  (e_Lok (e_st (I := eI) (er_ifne (off := 7) (tg := 55) (x_dk dn_45_0_0_ok 11 rfl) (by decide)) nx_if1))
  (e_Lok (ps_iconst_1 (x_dk dn_45_0_0_ok 12 rfl))))
  (e_Tok2
  (e_Lok (e_st (I := eI) (er_goto (off := 4) (tg := 56) (x_dk dn_45_0_0_ok 13 rfl) (by decide)) nx_goto))
  (e_Lok (ps_iconst_0 (x_dk dn_45_0_0_ok 14 rfl)))))))
  (e_Tok2
  (e_Tok2
  (e_Tok2
  (e_Lok (e_st (I := eI) (er_istore_n (i := 2) (x_dk dn_45_0_0_ok 15 rfl) (by decide +kernel)) nx_stor))
  (e_Tok2
  (e_Lok (e_st (I := eI) (er_goto (off := 56) (tg := 113) (x_dk dn_45_0_0_ok 16 rfl) (by decide)) nx_goto))
  (e_Lok (ld_aload_n_0 (x_dk dn_45_0_0_ok 17 rfl)))))
  (e_Tok2
  (e_Tok2
  (e_Lok (lk_3_34g ho_45 (x_dk dn_45_0_0_ok 18 rfl)))
  (e_Lok (lk_3_87g ho_45 (x_dk dn_45_0_0_ok 19 rfl))))
  (e_Tok2
  (e_Lok (ld_aload_n_1 (x_dk dn_45_0_0_ok 20 rfl)))
  (e_Lok (lk_3_190g ho_45 (x_dk dn_45_0_0_ok 21 rfl))))))
  (e_Tok2
  (e_Tok2
  (e_Tok2
  (e_Lok (sm_isub (x_dk dn_45_0_0_ok 22 rfl)))
  (e_Lok (ld_aload_n_1 (x_dk dn_45_0_0_ok 23 rfl))))
  (e_Tok2
  (e_Lok (lk_3_193g ho_45 (x_dk dn_45_0_0_ok 24 rfl)))
  (e_Lok (e_st (I := eI) (er_icmplt (off := 7) (tg := 83) (x_dk dn_45_0_1_ok 0 rfl) (by decide)) nx_if2))))
  (e_Tok2
  (e_Tok2
  (e_Lok (ps_iconst_1 (x_dk dn_45_0_1_ok 1 rfl)))
  (e_Lok (e_st (I := eI) (er_goto (off := 4) (tg := 84) (x_dk dn_45_0_1_ok 2 rfl) (by decide)) nx_goto)))
  (e_Tok2
  (e_Lok (ps_iconst_0 (x_dk dn_45_0_1_ok 3 rfl)))
  (e_Lok (e_st (I := eI) (er_istore_n (i := 2) (x_dk dn_45_0_1_ok 4 rfl) (by decide +kernel)) nx_stor)))))))
def te_45_30 : Nat → eE := (e_T 113 (e_T 97 (e_T 89 (e_T 85 (e_L 85 (0, ei_goto 113, 0, 0)) (e_T 88 (e_L 88 (0, ei_load 0 2 89, 0, 0)) (e_L 89 (0, ei_getf eft elay 3 5 92, 0, 0)))) (e_T 93 (e_T 92 (e_L 92 (0, ei_load 1 2 93, 0, 0)) (e_L 93 (0, ei_getf eft elay 10 8 96, 0, 0))) (e_T 96 (e_L 96 (0, ei_ald elay false 97, 0, 0)) (e_L 97 (0, ei_load 1 2 98, 0, 0))))) (e_T 105 (e_T 101 (e_T 98 (e_L 98 (0, ei_getf eft elay 10 0 101, 0, 0)) (e_L 101 (0, ei_if2 1 108 104, 0, 0))) (e_T 104 (e_L 104 (0, ei_push (0, 1) 105, 0, 0)) (e_L 105 (0, ei_goto 109, 0, 0)))) (e_T 109 (e_T 108 (e_L 108 (0, ei_push (0, 0) 109, 0, 0)) (e_L 109 (0, ei_stor 2 0 110, 0, 0))) (e_T 110 (e_L 110 (0, ei_goto 113, 0, 0)) (e_L 113 (0, ei_load 2 0 114, 0, 0)))))) (e_T 124 (e_T 118 (e_T 114 (e_L 114 (0, ei_if1 1 118 117, 0, 0)) (e_T 117 (e_L 117 (1, e_nof, 0, 0)) (e_L 118 (0, ei_load 1 2 119, 0, 0)))) (e_T 120 (e_T 119 (e_L 119 (0, ei_push (0, 1) 120, 0, 0)) (e_L 120 (0, ei_putf eft elay 10 1 0 123, 0, 0))) (e_T 123 (e_L 123 (0, ei_load 1 2 124, 0, 0)) (e_L 124 (0, ei_getf eft elay 10 10 127, 0, 0))))) (e_T 133 (e_T 130 (e_T 127 (e_L 127 (0, ei_if1 0 136 130, 0, 0)) (e_L 130 (0, ei_load 0 2 131, 0, 0))) (e_T 131 (e_L 131 (0, ei_push (0, 6) 133, 0, 0)) (e_L 133 (2, e_nof, 46, 2)))) (e_T 137 (e_T 136 (e_L 136 (0, ei_load 1 2 137, 0, 0)) (e_L 137 (0, ei_push (0, 0) 138, 0, 0))) (e_T 138 (e_L 138 (0, ei_putf eft elay 10 10 1 141, 0, 0)) (e_L 141 (1, e_nof, 0, 0)))))))
set_option maxRecDepth 20000 in
set_option maxHeartbeats 4000000 in
theorem te_45_30_ok : ∀ pc, e_EOq eft cls elay eI n_45 pc (te_45_30 pc) :=
  (e_Tok2
  (e_Tok2
  (e_Tok2
  (e_Tok2
  (e_Lok (e_st (I := eI) (er_goto (off := 28) (tg := 113) (x_dk dn_45_0_1_ok 5 rfl) (by decide)) nx_goto))
  (e_Tok2
  (e_Lok (ld_aload_n_0 (x_dk dn_45_0_1_ok 6 rfl)))
  (e_Lok (lk_3_44g ho_45 (x_dk dn_45_0_1_ok 7 rfl)))))
  (e_Tok2
  (e_Tok2
  (e_Lok (ld_aload_n_1 (x_dk dn_45_0_1_ok 8 rfl)))
  (e_Lok (lk_3_193g ho_45 (x_dk dn_45_0_1_ok 9 rfl))))
  (e_Tok2
  (e_Lok (sm_iaload (x_dk dn_45_0_1_ok 10 rfl)))
  (e_Lok (ld_aload_n_1 (x_dk dn_45_0_1_ok 11 rfl))))))
  (e_Tok2
  (e_Tok2
  (e_Tok2
  (e_Lok (lk_3_196g ho_45 (x_dk dn_45_0_1_ok 12 rfl)))
  (e_Lok (e_st (I := eI) (er_icmpne (off := 7) (tg := 108) (x_dk dn_45_0_1_ok 13 rfl) (by decide)) nx_if2)))
  (e_Tok2
  (e_Lok (ps_iconst_1 (x_dk dn_45_0_1_ok 14 rfl)))
  (e_Lok (e_st (I := eI) (er_goto (off := 4) (tg := 109) (x_dk dn_45_0_1_ok 15 rfl) (by decide)) nx_goto))))
  (e_Tok2
  (e_Tok2
  (e_Lok (ps_iconst_0 (x_dk dn_45_0_1_ok 16 rfl)))
  (e_Lok (e_st (I := eI) (er_istore_n (i := 2) (x_dk dn_45_0_1_ok 17 rfl) (by decide +kernel)) nx_stor)))
  (e_Tok2
  (e_Lok (e_st (I := eI) (er_goto (off := 3) (tg := 113) (x_dk dn_45_0_1_ok 18 rfl) (by decide)) nx_goto))
  (e_Lok (ld_iload_n_2 (x_dk dn_45_0_1_ok 19 rfl)))))))
  (e_Tok2
  (e_Tok2
  (e_Tok2
  (e_Lok (e_st (I := eI) (er_ifne (off := 4) (tg := 118) (x_dk dn_45_0_1_ok 20 rfl) (by decide)) nx_if1))
  (e_Tok2
  (e_Lok (e_rt (I := eI) (k := 0) ⟨(x_dk dn_45_0_1_ok 21 rfl), rfl⟩))
  (e_Lok (ld_aload_n_1 (x_dk dn_45_0_1_ok 22 rfl)))))
  (e_Tok2
  (e_Tok2
  (e_Lok (ps_iconst_1 (x_dk dn_45_0_1_ok 23 rfl)))
  (e_Lok (lk_3_71p ho_45 (x_dk dn_45_0_1_ok 24 rfl))))
  (e_Tok2
  (e_Lok (ld_aload_n_1 (x_dk dn_45_0_2_ok 0 rfl)))
  (e_Lok (lk_3_114g ho_45 (x_dk dn_45_0_2_ok 1 rfl))))))
  (e_Tok2
  (e_Tok2
  (e_Tok2
  (e_Lok (e_st (I := eI) (er_ifeq (off := 9) (tg := 136) (x_dk dn_45_0_2_ok 2 rfl) (by decide)) nx_if1))
  (e_Lok (ld_aload_n_0 (x_dk dn_45_0_2_ok 3 rfl))))
  (e_Tok2
  (e_Lok (ps_bipush_6 (x_dk dn_45_0_2_ok 4 rfl)))
  (e_Lok (lk_3_199 ho_45 (x_dk dn_45_0_2_ok 5 rfl)))))
  (e_Tok2
  (e_Tok2
  (e_Lok (ld_aload_n_1 (x_dk dn_45_0_2_ok 6 rfl)))
  (e_Lok (ps_iconst_0 (x_dk dn_45_0_2_ok 7 rfl))))
  (e_Tok2
  (e_Lok (lk_3_114p ho_45 (x_dk dn_45_0_2_ok 8 rfl)))
  (e_Lok (e_rt (I := eI) (k := 0) ⟨(x_dk dn_45_0_2_ok 9 rfl), rfl⟩)))))))
def te_45 : Nat → eE := (e_T 84 te_45_0 te_45_30)
theorem te_45_ok : ∀ pc, e_EOq eft cls elay eI n_45 pc (te_45 pc) := (e_Tok2 (te_45_0_ok) (te_45_30_ok))
theorem ho_46 : (xm_y n_46).cls = "RobotCellHouse$Doer" := rfl
def dn_46_0_0 : List (Nat × Instr × Nat) := [(0, .aload_n 0, 1), (1, .iconst 1, 1), (2, .putfield 130, 3), (5, .aload_n 0, 1), (6, .iload_n 1, 1), (7, .putfield 179, 3), (10, .return_, 1)]
set_option maxRecDepth 20000 in
theorem dn_46_0_0_ok : dn_46_0_0.all (fun q => decide (decode (xm_b n_46) q.1 = .ok (q.2.1, q.2.2))) = true := xa_g_ok (by decide +kernel)
def te_46_0 : Nat → eE := (e_T 2 (e_T 0 (e_L 0 (0, ei_load 0 2 1, 0, 0)) (e_T 1 (e_L 1 (0, ei_push (0, 1) 2, 0, 0)) (e_L 2 (0, ei_putf eft elay 3 11 1 5, 0, 0)))) (e_T 6 (e_T 5 (e_L 5 (0, ei_load 0 2 6, 0, 0)) (e_L 6 (0, ei_load 1 0 7, 0, 0))) (e_T 7 (e_L 7 (0, ei_putf eft elay 3 10 0 10, 0, 0)) (e_L 10 (1, e_nof, 0, 0)))))
set_option maxRecDepth 20000 in
set_option maxHeartbeats 4000000 in
theorem te_46_0_ok : ∀ pc, e_EOq eft cls elay eI n_46 pc (te_46_0 pc) :=
  (e_Tok2
  (e_Tok2
  (e_Lok (ld_aload_n_0 (x_dk dn_46_0_0_ok 0 rfl)))
  (e_Tok2
  (e_Lok (ps_iconst_1 (x_dk dn_46_0_0_ok 1 rfl)))
  (e_Lok (lk_3_130p ho_46 (x_dk dn_46_0_0_ok 2 rfl)))))
  (e_Tok2
  (e_Tok2
  (e_Lok (ld_aload_n_0 (x_dk dn_46_0_0_ok 3 rfl)))
  (e_Lok (ld_iload_n_1 (x_dk dn_46_0_0_ok 4 rfl))))
  (e_Tok2
  (e_Lok (lk_3_179p ho_46 (x_dk dn_46_0_0_ok 5 rfl)))
  (e_Lok (e_rt (I := eI) (k := 0) ⟨(x_dk dn_46_0_0_ok 6 rfl), rfl⟩)))))
def te_46 : Nat → eE := te_46_0
theorem te_46_ok : ∀ pc, e_EOq eft cls elay eI n_46 pc (te_46 pc) := te_46_0_ok
theorem ho_47 : (xm_y n_47).cls = "RobotCellHouse$Doer" := rfl
def dn_47_0_0 : List (Nat × Instr × Nat) := [(0, .aload_n 1, 1), (1, .getfield 202, 3), (4, .aload_n 1, 1), (5, .getfield 205, 3), (8, .if_icmp .le 8, 3), (11, .aload_n 1, 1), (12, .iconst 0, 1), (13, .putfield 202, 3), (16, .aload_n 1, 1), (17, .getfield 208, 3), (20, .ifCond .lt 10, 3), (23, .aload_n 1, 1), (24, .getfield 202, 3), (27, .ifCond .le 5, 3), (30, .iconst 0, 1), (31, .ireturn, 1), (32, .aload_n 0, 1), (33, .getfield 20, 3), (36, .getfield 211, 3), (39, .aload_n 1, 1), (40, .getfield 208, 3), (43, .iaload, 1), (44, .aload_n 1, 1), (45, .getfield 214, 3), (48, .if_icmp .ne 5, 3)]
set_option maxRecDepth 20000 in
theorem dn_47_0_0_ok : dn_47_0_0.all (fun q => decide (decode (xm_b n_47) q.1 = .ok (q.2.1, q.2.2))) = true := xa_g_ok (by decide +kernel)
def dn_47_0_1 : List (Nat × Instr × Nat) := [(51, .iconst 0, 1), (52, .ireturn, 1), (53, .aload_n 1, 1), (54, .aload_n 0, 1), (55, .getfield 20, 3), (58, .getfield 211, 3), (61, .aload_n 1, 1), (62, .getfield 208, 3), (65, .iaload, 1), (66, .putfield 214, 3), (69, .aload_n 1, 1), (70, .aload_n 2, 1), (71, .getfield 82, 3), (74, .aload_n 1, 1), (75, .getfield 217, 3), (78, .iaload, 1), (79, .invokevirtual 220, 3), (82, .ifCond .eq 14, 3), (85, .aload_n 1, 1), (86, .aload_n 1, 1), (87, .getfield 205, 3), (90, .putfield 202, 3), (93, .goto 9, 3), (96, .aload_n 0, 1), (97, .bipush 8, 2)]
set_option maxRecDepth 20000 in
theorem dn_47_0_1_ok : dn_47_0_1.all (fun q => decide (decode (xm_b n_47) q.1 = .ok (q.2.1, q.2.2))) = true := xa_g_ok (by decide +kernel)
def dn_47_0_2 : List (Nat × Instr × Nat) := [(99, .invokevirtual 199, 3), (102, .iconst 1, 1), (103, .ireturn, 1)]
set_option maxRecDepth 20000 in
theorem dn_47_0_2_ok : dn_47_0_2.all (fun q => decide (decode (xm_b n_47) q.1 = .ok (q.2.1, q.2.2))) = true := xa_g_ok (by decide +kernel)
def te_47_0 : Nat → eE := (e_T 24 (e_T 11 (e_T 4 (e_T 0 (e_L 0 (0, ei_load 1 2 1, 0, 0)) (e_T 1 (e_L 1 (0, ei_getf eft elay 10 14 4, 0, 0)) (e_L 4 (0, ei_load 1 2 5, 0, 0)))) (e_T 5 (e_L 5 (0, ei_getf eft elay 10 4 8, 0, 0)) (e_T 8 (e_L 8 (0, ei_if2 5 16 11, 0, 0)) (e_L 11 (0, ei_load 1 2 12, 0, 0))))) (e_T 16 (e_T 12 (e_L 12 (0, ei_push (0, 0) 13, 0, 0)) (e_T 13 (e_L 13 (0, ei_putf eft elay 10 14 0 16, 0, 0)) (e_L 16 (0, ei_load 1 2 17, 0, 0)))) (e_T 20 (e_T 17 (e_L 17 (0, ei_getf eft elay 10 11 20, 0, 0)) (e_L 20 (0, ei_if1 2 30 23, 0, 0))) (e_T 23 (e_L 23 (0, ei_load 1 2 24, 0, 0)) (e_L 24 (0, ei_getf eft elay 10 14 27, 0, 0)))))) (e_T 36 (e_T 31 (e_T 27 (e_L 27 (0, ei_if1 5 32 30, 0, 0)) (e_T 30 (e_L 30 (0, ei_push (0, 0) 31, 0, 0)) (e_L 31 (1, e_nof, 4, 0)))) (e_T 32 (e_L 32 (0, ei_load 0 2 33, 0, 0)) (e_T 33 (e_L 33 (0, ei_getf eft elay 3 1 36, 0, 0)) (e_L 36 (0, ei_getf eft elay 7 2 39, 0, 0))))) (e_T 43 (e_T 39 (e_L 39 (0, ei_load 1 2 40, 0, 0)) (e_T 40 (e_L 40 (0, ei_getf eft elay 10 11 43, 0, 0)) (e_L 43 (0, ei_ald elay false 44, 0, 0)))) (e_T 45 (e_T 44 (e_L 44 (0, ei_load 1 2 45, 0, 0)) (e_L 45 (0, ei_getf eft elay 10 13 48, 0, 0))) (e_T 48 (e_L 48 (0, ei_if2 1 53 51, 0, 0)) (e_L 51 (0, ei_push (0, 0) 52, 0, 0)))))))
set_option maxRecDepth 20000 in
set_option maxHeartbeats 4000000 in
theorem te_47_0_ok : ∀ pc, e_EOq eft cls elay eI n_47 pc (te_47_0 pc) :=
  (e_Tok2
  (e_Tok2
  (e_Tok2
  (e_Tok2
  (e_Lok (ld_aload_n_1 (x_dk dn_47_0_0_ok 0 rfl)))
  (e_Tok2
  (e_Lok (lk_3_202g ho_47 (x_dk dn_47_0_0_ok 1 rfl)))
  (e_Lok (ld_aload_n_1 (x_dk dn_47_0_0_ok 2 rfl)))))
  (e_Tok2
  (e_Lok (lk_3_205g ho_47 (x_dk dn_47_0_0_ok 3 rfl)))
  (e_Tok2
  (e_Lok (e_st (I := eI) (er_icmple (off := 8) (tg := 16) (x_dk dn_47_0_0_ok 4 rfl) (by decide)) nx_if2))
  (e_Lok (ld_aload_n_1 (x_dk dn_47_0_0_ok 5 rfl))))))
  (e_Tok2
  (e_Tok2
  (e_Lok (ps_iconst_0 (x_dk dn_47_0_0_ok 6 rfl)))
  (e_Tok2
  (e_Lok (lk_3_202p ho_47 (x_dk dn_47_0_0_ok 7 rfl)))
  (e_Lok (ld_aload_n_1 (x_dk dn_47_0_0_ok 8 rfl)))))
  (e_Tok2
  (e_Tok2
  (e_Lok (lk_3_208g ho_47 (x_dk dn_47_0_0_ok 9 rfl)))
  (e_Lok (e_st (I := eI) (er_iflt (off := 10) (tg := 30) (x_dk dn_47_0_0_ok 10 rfl) (by decide)) nx_if1)))
  (e_Tok2
  (e_Lok (ld_aload_n_1 (x_dk dn_47_0_0_ok 11 rfl)))
  (e_Lok (lk_3_202g ho_47 (x_dk dn_47_0_0_ok 12 rfl)))))))
  (e_Tok2
  (e_Tok2
  (e_Tok2
  (e_Lok (e_st (I := eI) (er_ifle (off := 5) (tg := 32) (x_dk dn_47_0_0_ok 13 rfl) (by decide)) nx_if1))
  (e_Tok2
  (e_Lok (ps_iconst_0 (x_dk dn_47_0_0_ok 14 rfl)))
  (e_Lok (e_rt (I := eI) (k := 4) ⟨(x_dk dn_47_0_0_ok 15 rfl), rfl⟩))))
  (e_Tok2
  (e_Lok (ld_aload_n_0 (x_dk dn_47_0_0_ok 16 rfl)))
  (e_Tok2
  (e_Lok (lk_3_20g ho_47 (x_dk dn_47_0_0_ok 17 rfl)))
  (e_Lok (lk_3_211g ho_47 (x_dk dn_47_0_0_ok 18 rfl))))))
  (e_Tok2
  (e_Tok2
  (e_Lok (ld_aload_n_1 (x_dk dn_47_0_0_ok 19 rfl)))
  (e_Tok2
  (e_Lok (lk_3_208g ho_47 (x_dk dn_47_0_0_ok 20 rfl)))
  (e_Lok (sm_iaload (x_dk dn_47_0_0_ok 21 rfl)))))
  (e_Tok2
  (e_Tok2
  (e_Lok (ld_aload_n_1 (x_dk dn_47_0_0_ok 22 rfl)))
  (e_Lok (lk_3_214g ho_47 (x_dk dn_47_0_0_ok 23 rfl))))
  (e_Tok2
  (e_Lok (e_st (I := eI) (er_icmpne (off := 5) (tg := 53) (x_dk dn_47_0_0_ok 24 rfl) (by decide)) nx_if2))
  (e_Lok (ps_iconst_0 (x_dk dn_47_0_1_ok 0 rfl))))))))
def te_47_26 : Nat → eE := (e_T 74 (e_T 61 (e_T 54 (e_T 52 (e_L 52 (1, e_nof, 4, 0)) (e_T 53 (e_L 53 (0, ei_load 1 2 54, 0, 0)) (e_L 54 (0, ei_load 0 2 55, 0, 0)))) (e_T 55 (e_L 55 (0, ei_getf eft elay 3 1 58, 0, 0)) (e_T 58 (e_L 58 (0, ei_getf eft elay 7 2 61, 0, 0)) (e_L 61 (0, ei_load 1 2 62, 0, 0))))) (e_T 66 (e_T 62 (e_L 62 (0, ei_getf eft elay 10 11 65, 0, 0)) (e_T 65 (e_L 65 (0, ei_ald elay false 66, 0, 0)) (e_L 66 (0, ei_putf eft elay 10 13 0 69, 0, 0)))) (e_T 70 (e_T 69 (e_L 69 (0, ei_load 1 2 70, 0, 0)) (e_L 70 (0, ei_load 2 2 71, 0, 0))) (e_T 71 (e_L 71 (0, ei_getf eft elay 1 3 74, 0, 0)) (e_L 74 (0, ei_load 1 2 75, 0, 0)))))) (e_T 87 (e_T 79 (e_T 75 (e_L 75 (0, ei_getf eft elay 10 12 78, 0, 0)) (e_T 78 (e_L 78 (0, ei_ald elay false 79, 0, 0)) (e_L 79 (2, e_nof, 182, 2)))) (e_T 85 (e_T 82 (e_L 82 (0, ei_if1 0 96 85, 0, 0)) (e_L 85 (0, ei_load 1 2 86, 0, 0))) (e_T 86 (e_L 86 (0, ei_load 1 2 87, 0, 0)) (e_L 87 (0, ei_getf eft elay 10 4 90, 0, 0))))) (e_T 96 (e_T 90 (e_L 90 (0, ei_putf eft elay 10 14 0 93, 0, 0)) (e_T 93 (e_L 93 (0, ei_goto 102, 0, 0)) (e_L 96 (0, ei_load 0 2 97, 0, 0)))) (e_T 99 (e_T 97 (e_L 97 (0, ei_push (0, 8) 99, 0, 0)) (e_L 99 (2, e_nof, 46, 2))) (e_T 102 (e_L 102 (0, ei_push (0, 1) 103, 0, 0)) (e_L 103 (1, e_nof, 4, 0)))))))
set_option maxRecDepth 20000 in
set_option maxHeartbeats 4000000 in
theorem te_47_26_ok : ∀ pc, e_EOq eft cls elay eI n_47 pc (te_47_26 pc) :=
  (e_Tok2
  (e_Tok2
  (e_Tok2
  (e_Tok2
  (e_Lok (e_rt (I := eI) (k := 4) ⟨(x_dk dn_47_0_1_ok 1 rfl), rfl⟩))
  (e_Tok2
  (e_Lok (ld_aload_n_1 (x_dk dn_47_0_1_ok 2 rfl)))
  (e_Lok (ld_aload_n_0 (x_dk dn_47_0_1_ok 3 rfl)))))
  (e_Tok2
  (e_Lok (lk_3_20g ho_47 (x_dk dn_47_0_1_ok 4 rfl)))
  (e_Tok2
  (e_Lok (lk_3_211g ho_47 (x_dk dn_47_0_1_ok 5 rfl)))
  (e_Lok (ld_aload_n_1 (x_dk dn_47_0_1_ok 6 rfl))))))
  (e_Tok2
  (e_Tok2
  (e_Lok (lk_3_208g ho_47 (x_dk dn_47_0_1_ok 7 rfl)))
  (e_Tok2
  (e_Lok (sm_iaload (x_dk dn_47_0_1_ok 8 rfl)))
  (e_Lok (lk_3_214p ho_47 (x_dk dn_47_0_1_ok 9 rfl)))))
  (e_Tok2
  (e_Tok2
  (e_Lok (ld_aload_n_1 (x_dk dn_47_0_1_ok 10 rfl)))
  (e_Lok (ld_aload_n_2 (x_dk dn_47_0_1_ok 11 rfl))))
  (e_Tok2
  (e_Lok (lk_3_82g ho_47 (x_dk dn_47_0_1_ok 12 rfl)))
  (e_Lok (ld_aload_n_1 (x_dk dn_47_0_1_ok 13 rfl)))))))
  (e_Tok2
  (e_Tok2
  (e_Tok2
  (e_Lok (lk_3_217g ho_47 (x_dk dn_47_0_1_ok 14 rfl)))
  (e_Tok2
  (e_Lok (sm_iaload (x_dk dn_47_0_1_ok 15 rfl)))
  (e_Lok (lk_3_220 ho_47 (x_dk dn_47_0_1_ok 16 rfl)))))
  (e_Tok2
  (e_Tok2
  (e_Lok (e_st (I := eI) (er_ifeq (off := 14) (tg := 96) (x_dk dn_47_0_1_ok 17 rfl) (by decide)) nx_if1))
  (e_Lok (ld_aload_n_1 (x_dk dn_47_0_1_ok 18 rfl))))
  (e_Tok2
  (e_Lok (ld_aload_n_1 (x_dk dn_47_0_1_ok 19 rfl)))
  (e_Lok (lk_3_205g ho_47 (x_dk dn_47_0_1_ok 20 rfl))))))
  (e_Tok2
  (e_Tok2
  (e_Lok (lk_3_202p ho_47 (x_dk dn_47_0_1_ok 21 rfl)))
  (e_Tok2
  (e_Lok (e_st (I := eI) (er_goto (off := 9) (tg := 102) (x_dk dn_47_0_1_ok 22 rfl) (by decide)) nx_goto))
  (e_Lok (ld_aload_n_0 (x_dk dn_47_0_1_ok 23 rfl)))))
  (e_Tok2
  (e_Tok2
  (e_Lok (ps_bipush_8 (x_dk dn_47_0_1_ok 24 rfl)))
  (e_Lok (lk_3_199 ho_47 (x_dk dn_47_0_2_ok 0 rfl))))
  (e_Tok2
  (e_Lok (ps_iconst_1 (x_dk dn_47_0_2_ok 1 rfl)))
  (e_Lok (e_rt (I := eI) (k := 4) ⟨(x_dk dn_47_0_2_ok 2 rfl), rfl⟩)))))))
def te_47 : Nat → eE := (e_T 51 te_47_0 te_47_26)
theorem te_47_ok : ∀ pc, e_EOq eft cls elay eI n_47 pc (te_47 pc) := (e_Tok2 (te_47_0_ok) (te_47_26_ok))
theorem ho_48 : (xm_y n_48).cls = "RobotCellHouse$Doer" := rfl
def dn_48_0_0 : List (Nat × Instr × Nat) := [(0, .aload_n 1, 1), (1, .bipush 7, 2), (3, .invokevirtual 224, 3), (6, .aload_n 1, 1), (7, .iload_n 2, 1), (8, .putfield 227, 3), (11, .aload_n 0, 1), (12, .getfield 34, 3), (15, .iconst 5, 1), (16, .aload_n 1, 1), (17, .getfield 196, 3), (20, .iload_n 2, 1), (21, .invokevirtual 108, 3), (24, .aload_n 0, 1), (25, .aload_n 1, 1), (26, .invokevirtual 230, 3), (29, .aload_n 0, 1), (30, .aload_n 1, 1), (31, .getfield 127, 3), (34, .invokevirtual 233, 3), (37, .aload_n 0, 1), (38, .getfield 11, 3), (41, .aload_n 1, 1), (42, .getfield 127, 3), (45, .aaload, 1)]
set_option maxRecDepth 20000 in
theorem dn_48_0_0_ok : dn_48_0_0.all (fun q => decide (decode (xm_b n_48) q.1 = .ok (q.2.1, q.2.2))) = true := xa_g_ok (by decide +kernel)
def dn_48_0_1 : List (Nat × Instr × Nat) := [(46, .aload_n 1, 1), (47, .getfield 196, 3), (50, .putfield 94, 3), (53, .return_, 1)]
set_option maxRecDepth 20000 in
theorem dn_48_0_1_ok : dn_48_0_1.all (fun q => decide (decode (xm_b n_48) q.1 = .ok (q.2.1, q.2.2))) = true := xa_g_ok (by decide +kernel)
def te_48_0 : Nat → eE := (e_T 24 (e_T 11 (e_T 3 (e_T 0 (e_L 0 (0, ei_load 1 2 1, 0, 0)) (e_T 1 (e_L 1 (0, ei_push (0, 7) 3, 0, 0)) (e_L 3 (2, e_nof, 181, 2)))) (e_T 7 (e_T 6 (e_L 6 (0, ei_load 1 2 7, 0, 0)) (e_L 7 (0, ei_load 2 0 8, 0, 0))) (e_T 8 (e_L 8 (0, ei_putf eft elay 10 5 0 11, 0, 0)) (e_L 11 (0, ei_load 0 2 12, 0, 0))))) (e_T 16 (e_T 12 (e_L 12 (0, ei_getf eft elay 3 3 15, 0, 0)) (e_T 15 (e_L 15 (0, ei_push (0, 5) 16, 0, 0)) (e_L 16 (0, ei_load 1 2 17, 0, 0)))) (e_T 20 (e_T 17 (e_L 17 (0, ei_getf eft elay 10 0 20, 0, 0)) (e_L 20 (0, ei_load 2 0 21, 0, 0))) (e_T 21 (e_L 21 (2, e_nof, 27, 4)) (e_L 24 (0, ei_load 0 2 25, 0, 0)))))) (e_T 37 (e_T 29 (e_T 25 (e_L 25 (0, ei_load 1 2 26, 0, 0)) (e_T 26 (e_L 26 (2, e_nof, 50, 2)) (e_L 29 (0, ei_load 0 2 30, 0, 0)))) (e_T 31 (e_T 30 (e_L 30 (0, ei_load 1 2 31, 0, 0)) (e_L 31 (0, ei_getf eft elay 10 2 34, 0, 0))) (e_T 34 (e_L 34 (2, e_nof, 40, 2)) (e_L 37 (0, ei_load 0 2 38, 0, 0))))) (e_T 45 (e_T 41 (e_T 38 (e_L 38 (0, ei_getf eft elay 3 0 41, 0, 0)) (e_L 41 (0, ei_load 1 2 42, 0, 0))) (e_T 42 (e_L 42 (0, ei_getf eft elay 10 2 45, 0, 0)) (e_L 45 (0, ei_aald elay 46, 0, 0)))) (e_T 47 (e_T 46 (e_L 46 (0, ei_load 1 2 47, 0, 0)) (e_L 47 (0, ei_getf eft elay 10 0 50, 0, 0))) (e_T 50 (e_L 50 (0, ei_putf eft elay 0 16 0 53, 0, 0)) (e_L 53 (1, e_nof, 0, 0)))))))
set_option maxRecDepth 20000 in
set_option maxHeartbeats 4000000 in
theorem te_48_0_ok : ∀ pc, e_EOq eft cls elay eI n_48 pc (te_48_0 pc) :=
  (e_Tok2
  (e_Tok2
  (e_Tok2
  (e_Tok2
  (e_Lok (ld_aload_n_1 (x_dk dn_48_0_0_ok 0 rfl)))
  (e_Tok2
  (e_Lok (ps_bipush_7 (x_dk dn_48_0_0_ok 1 rfl)))
  (e_Lok (lk_3_224 ho_48 (x_dk dn_48_0_0_ok 2 rfl)))))
  (e_Tok2
  (e_Tok2
  (e_Lok (ld_aload_n_1 (x_dk dn_48_0_0_ok 3 rfl)))
  (e_Lok (ld_iload_n_2 (x_dk dn_48_0_0_ok 4 rfl))))
  (e_Tok2
  (e_Lok (lk_3_227p ho_48 (x_dk dn_48_0_0_ok 5 rfl)))
  (e_Lok (ld_aload_n_0 (x_dk dn_48_0_0_ok 6 rfl))))))
  (e_Tok2
  (e_Tok2
  (e_Lok (lk_3_34g ho_48 (x_dk dn_48_0_0_ok 7 rfl)))
  (e_Tok2
  (e_Lok (ps_iconst_5 (x_dk dn_48_0_0_ok 8 rfl)))
  (e_Lok (ld_aload_n_1 (x_dk dn_48_0_0_ok 9 rfl)))))
  (e_Tok2
  (e_Tok2
  (e_Lok (lk_3_196g ho_48 (x_dk dn_48_0_0_ok 10 rfl)))
  (e_Lok (ld_iload_n_2 (x_dk dn_48_0_0_ok 11 rfl))))
  (e_Tok2
  (e_Lok (lk_3_108 ho_48 (x_dk dn_48_0_0_ok 12 rfl)))
  (e_Lok (ld_aload_n_0 (x_dk dn_48_0_0_ok 13 rfl)))))))
  (e_Tok2
  (e_Tok2
  (e_Tok2
  (e_Lok (ld_aload_n_1 (x_dk dn_48_0_0_ok 14 rfl)))
  (e_Tok2
  (e_Lok (lk_3_230 ho_48 (x_dk dn_48_0_0_ok 15 rfl)))
  (e_Lok (ld_aload_n_0 (x_dk dn_48_0_0_ok 16 rfl)))))
  (e_Tok2
  (e_Tok2
  (e_Lok (ld_aload_n_1 (x_dk dn_48_0_0_ok 17 rfl)))
  (e_Lok (lk_3_127g ho_48 (x_dk dn_48_0_0_ok 18 rfl))))
  (e_Tok2
  (e_Lok (lk_3_233 ho_48 (x_dk dn_48_0_0_ok 19 rfl)))
  (e_Lok (ld_aload_n_0 (x_dk dn_48_0_0_ok 20 rfl))))))
  (e_Tok2
  (e_Tok2
  (e_Tok2
  (e_Lok (lk_3_11g ho_48 (x_dk dn_48_0_0_ok 21 rfl)))
  (e_Lok (ld_aload_n_1 (x_dk dn_48_0_0_ok 22 rfl))))
  (e_Tok2
  (e_Lok (lk_3_127g ho_48 (x_dk dn_48_0_0_ok 23 rfl)))
  (e_Lok (e_st (I := eI) (er_aaload (x_dk dn_48_0_0_ok 24 rfl)) nx_aald))))
  (e_Tok2
  (e_Tok2
  (e_Lok (ld_aload_n_1 (x_dk dn_48_0_1_ok 0 rfl)))
  (e_Lok (lk_3_196g ho_48 (x_dk dn_48_0_1_ok 1 rfl))))
  (e_Tok2
  (e_Lok (lk_3_94p ho_48 (x_dk dn_48_0_1_ok 2 rfl)))
  (e_Lok (e_rt (I := eI) (k := 0) ⟨(x_dk dn_48_0_1_ok 3 rfl), rfl⟩)))))))
def te_48 : Nat → eE := te_48_0
theorem te_48_ok : ∀ pc, e_EOq eft cls elay eI n_48 pc (te_48 pc) := te_48_0_ok
theorem ho_49 : (xm_y n_49).cls = "RobotCellHouse$Doer" := rfl
def dn_49_0_0 : List (Nat × Instr × Nat) := [(0, .aload_n 1, 1), (1, .getfield 205, 3), (4, .ifCond .le 4, 3), (7, .return_, 1), (8, .aload_n 1, 1), (9, .bipush 6, 2), (11, .invokevirtual 224, 3), (14, .aload_n 0, 1), (15, .getfield 34, 3), (18, .iconst 4, 1), (19, .aload_n 1, 1), (20, .getfield 196, 3), (23, .iconst 0, 1), (24, .invokevirtual 108, 3), (27, .aload_n 0, 1), (28, .aload_n 1, 1), (29, .invokevirtual 230, 3), (32, .return_, 1)]
set_option maxRecDepth 20000 in
theorem dn_49_0_0_ok : dn_49_0_0.all (fun q => decide (decode (xm_b n_49) q.1 = .ok (q.2.1, q.2.2))) = true := xa_g_ok (by decide +kernel)
def te_49_0 : Nat → eE := (e_T 15 (e_T 7 (e_T 1 (e_T 0 (e_L 0 (0, ei_load 1 2 1, 0, 0)) (e_L 1 (0, ei_getf eft elay 10 4 4, 0, 0))) (e_T 4 (e_L 4 (0, ei_if1 5 8 7, 0, 0)) (e_L 7 (1, e_nof, 0, 0)))) (e_T 9 (e_T 8 (e_L 8 (0, ei_load 1 2 9, 0, 0)) (e_L 9 (0, ei_push (0, 6) 11, 0, 0))) (e_T 11 (e_L 11 (2, e_nof, 181, 2)) (e_T 14 (e_L 14 (0, ei_load 0 2 15, 0, 0)) (e_L 15 (0, ei_getf eft elay 3 3 18, 0, 0)))))) (e_T 23 (e_T 19 (e_T 18 (e_L 18 (0, ei_push (0, 4) 19, 0, 0)) (e_L 19 (0, ei_load 1 2 20, 0, 0))) (e_T 20 (e_L 20 (0, ei_getf eft elay 10 0 23, 0, 0)) (e_L 23 (0, ei_push (0, 0) 24, 0, 0)))) (e_T 27 (e_T 24 (e_L 24 (2, e_nof, 27, 4)) (e_L 27 (0, ei_load 0 2 28, 0, 0))) (e_T 28 (e_L 28 (0, ei_load 1 2 29, 0, 0)) (e_T 29 (e_L 29 (2, e_nof, 50, 2)) (e_L 32 (1, e_nof, 0, 0)))))))
set_option maxRecDepth 20000 in
set_option maxHeartbeats 4000000 in
theorem te_49_0_ok : ∀ pc, e_EOq eft cls elay eI n_49 pc (te_49_0 pc) :=
  (e_Tok2
  (e_Tok2
  (e_Tok2
  (e_Tok2
  (e_Lok (ld_aload_n_1 (x_dk dn_49_0_0_ok 0 rfl)))
  (e_Lok (lk_3_205g ho_49 (x_dk dn_49_0_0_ok 1 rfl))))
  (e_Tok2
  (e_Lok (e_st (I := eI) (er_ifle (off := 4) (tg := 8) (x_dk dn_49_0_0_ok 2 rfl) (by decide)) nx_if1))
  (e_Lok (e_rt (I := eI) (k := 0) ⟨(x_dk dn_49_0_0_ok 3 rfl), rfl⟩))))
  (e_Tok2
  (e_Tok2
  (e_Lok (ld_aload_n_1 (x_dk dn_49_0_0_ok 4 rfl)))
  (e_Lok (ps_bipush_6 (x_dk dn_49_0_0_ok 5 rfl))))
  (e_Tok2
  (e_Lok (lk_3_224 ho_49 (x_dk dn_49_0_0_ok 6 rfl)))
  (e_Tok2
  (e_Lok (ld_aload_n_0 (x_dk dn_49_0_0_ok 7 rfl)))
  (e_Lok (lk_3_34g ho_49 (x_dk dn_49_0_0_ok 8 rfl)))))))
  (e_Tok2
  (e_Tok2
  (e_Tok2
  (e_Lok (ps_iconst_4 (x_dk dn_49_0_0_ok 9 rfl)))
  (e_Lok (ld_aload_n_1 (x_dk dn_49_0_0_ok 10 rfl))))
  (e_Tok2
  (e_Lok (lk_3_196g ho_49 (x_dk dn_49_0_0_ok 11 rfl)))
  (e_Lok (ps_iconst_0 (x_dk dn_49_0_0_ok 12 rfl)))))
  (e_Tok2
  (e_Tok2
  (e_Lok (lk_3_108 ho_49 (x_dk dn_49_0_0_ok 13 rfl)))
  (e_Lok (ld_aload_n_0 (x_dk dn_49_0_0_ok 14 rfl))))
  (e_Tok2
  (e_Lok (ld_aload_n_1 (x_dk dn_49_0_0_ok 15 rfl)))
  (e_Tok2
  (e_Lok (lk_3_230 ho_49 (x_dk dn_49_0_0_ok 16 rfl)))
  (e_Lok (e_rt (I := eI) (k := 0) ⟨(x_dk dn_49_0_0_ok 17 rfl), rfl⟩)))))))
def te_49 : Nat → eE := te_49_0
theorem te_49_ok : ∀ pc, e_EOq eft cls elay eI n_49 pc (te_49 pc) := te_49_0_ok
theorem ho_50 : (xm_y n_50).cls = "RobotCellHouse$Doer" := rfl
def dn_50_0_0 : List (Nat × Instr × Nat) := [(0, .iconst 0, 1), (1, .istore_n 2, 1), (2, .iload_n 2, 1), (3, .bipush 8, 2), (5, .if_icmp .ge 27, 3), (8, .aload_n 0, 1), (9, .getfield 44, 3), (12, .iload_n 2, 1), (13, .iaload, 1), (14, .aload_n 1, 1), (15, .getfield 196, 3), (18, .if_icmp .ne 8, 3), (21, .aload_n 0, 1), (22, .iload_n 2, 1), (23, .invokevirtual 236, 3), (26, .iinc 2 1, 3), (29, .goto (-27), 3), (32, .return_, 1)]
set_option maxRecDepth 20000 in
theorem dn_50_0_0_ok : dn_50_0_0.all (fun q => decide (decode (xm_b n_50) q.1 = .ok (q.2.1, q.2.2))) = true := xa_g_ok (by decide +kernel)
def te_50_0 : Nat → eE := (e_T 13 (e_T 3 (e_T 1 (e_T 0 (e_L 0 (0, ei_push (0, 0) 1, 0, 0)) (e_L 1 (0, ei_stor 2 0 2, 0, 0))) (e_T 2 (e_L 2 (0, ei_load 2 0 3, 0, 0)) (e_L 3 (0, ei_push (0, 8) 5, 0, 0)))) (e_T 8 (e_T 5 (e_L 5 (0, ei_if2 3 32 8, 0, 0)) (e_L 8 (0, ei_load 0 2 9, 0, 0))) (e_T 9 (e_L 9 (0, ei_getf eft elay 3 5 12, 0, 0)) (e_T 12 (e_L 12 (0, ei_load 2 0 13, 0, 0)) (e_L 13 (0, ei_ald elay false 14, 0, 0)))))) (e_T 21 (e_T 15 (e_T 14 (e_L 14 (0, ei_load 1 2 15, 0, 0)) (e_L 15 (0, ei_getf eft elay 10 0 18, 0, 0))) (e_T 18 (e_L 18 (0, ei_if2 1 26 21, 0, 0)) (e_L 21 (0, ei_load 0 2 22, 0, 0)))) (e_T 23 (e_T 22 (e_L 22 (0, ei_load 2 0 23, 0, 0)) (e_L 23 (2, e_nof, 51, 2))) (e_T 26 (e_L 26 (0, ei_inc 2 1 29, 0, 0)) (e_T 29 (e_L 29 (0, ei_goto 2, 0, 0)) (e_L 32 (1, e_nof, 0, 0)))))))
set_option maxRecDepth 20000 in
set_option maxHeartbeats 4000000 in
theorem te_50_0_ok : ∀ pc, e_EOq eft cls elay eI n_50 pc (te_50_0 pc) :=
  (e_Tok2
  (e_Tok2
  (e_Tok2
  (e_Tok2
  (e_Lok (ps_iconst_0 (x_dk dn_50_0_0_ok 0 rfl)))
  (e_Lok (e_st (I := eI) (er_istore_n (i := 2) (x_dk dn_50_0_0_ok 1 rfl) (by decide +kernel)) nx_stor)))
  (e_Tok2
  (e_Lok (ld_iload_n_2 (x_dk dn_50_0_0_ok 2 rfl)))
  (e_Lok (ps_bipush_8 (x_dk dn_50_0_0_ok 3 rfl)))))
  (e_Tok2
  (e_Tok2
  (e_Lok (e_st (I := eI) (er_icmpge (off := 27) (tg := 32) (x_dk dn_50_0_0_ok 4 rfl) (by decide)) nx_if2))
  (e_Lok (ld_aload_n_0 (x_dk dn_50_0_0_ok 5 rfl))))
  (e_Tok2
  (e_Lok (lk_3_44g ho_50 (x_dk dn_50_0_0_ok 6 rfl)))
  (e_Tok2
  (e_Lok (ld_iload_n_2 (x_dk dn_50_0_0_ok 7 rfl)))
  (e_Lok (sm_iaload (x_dk dn_50_0_0_ok 8 rfl)))))))
  (e_Tok2
  (e_Tok2
  (e_Tok2
  (e_Lok (ld_aload_n_1 (x_dk dn_50_0_0_ok 9 rfl)))
  (e_Lok (lk_3_196g ho_50 (x_dk dn_50_0_0_ok 10 rfl))))
  (e_Tok2
  (e_Lok (e_st (I := eI) (er_icmpne (off := 8) (tg := 26) (x_dk dn_50_0_0_ok 11 rfl) (by decide)) nx_if2))
  (e_Lok (ld_aload_n_0 (x_dk dn_50_0_0_ok 12 rfl)))))
  (e_Tok2
  (e_Tok2
  (e_Lok (ld_iload_n_2 (x_dk dn_50_0_0_ok 13 rfl)))
  (e_Lok (lk_3_236 ho_50 (x_dk dn_50_0_0_ok 14 rfl))))
  (e_Tok2
  (e_Lok (e_st (I := eI) (er_iinc (i := 2) (n := 1) (x_dk dn_50_0_0_ok 15 rfl) (by decide +kernel) (by decide)) nx_inc))
  (e_Tok2
  (e_Lok (e_st (I := eI) (er_goto (off := (-27)) (tg := 2) (x_dk dn_50_0_0_ok 16 rfl) (by decide)) nx_goto))
  (e_Lok (e_rt (I := eI) (k := 0) ⟨(x_dk dn_50_0_0_ok 17 rfl), rfl⟩)))))))
def te_50 : Nat → eE := te_50_0
theorem te_50_ok : ∀ pc, e_EOq eft cls elay eI n_50 pc (te_50 pc) := te_50_0_ok
theorem ho_51 : (xm_y n_51).cls = "RobotCellHouse$Doer" := rfl
def dn_51_0_0 : List (Nat × Instr × Nat) := [(0, .iconst (-1), 1), (1, .istore_n 2, 1), (2, .iconst 0, 1), (3, .istore_n 3, 1), (4, .iload_n 3, 1), (5, .bipush 16, 2), (7, .if_icmp .ge 65, 3), (10, .aload_n 0, 1), (11, .getfield 40, 3), (14, .iload_n 3, 1), (15, .aaload, 1), (16, .getfield 71, 3), (19, .iconst 5, 1), (20, .if_icmp .ne 46, 3), (23, .aload_n 0, 1), (24, .getfield 40, 3), (27, .iload_n 3, 1), (28, .aaload, 1), (29, .getfield 193, 3), (32, .iload_n 1, 1), (33, .if_icmp .eq 6, 3), (36, .goto 30, 3), (39, .iload_n 2, 1), (40, .ifCond .lt 24, 3), (43, .aload_n 0, 1)]
set_option maxRecDepth 20000 in
theorem dn_51_0_0_ok : dn_51_0_0.all (fun q => decide (decode (xm_b n_51) q.1 = .ok (q.2.1, q.2.2))) = true := xa_g_ok (by decide +kernel)
def dn_51_0_1 : List (Nat × Instr × Nat) := [(44, .getfield 40, 3), (47, .iload_n 3, 1), (48, .aaload, 1), (49, .getfield 190, 3), (52, .aload_n 0, 1), (53, .getfield 40, 3), (56, .iload_n 2, 1), (57, .aaload, 1), (58, .getfield 190, 3), (61, .if_icmp .ge 5, 3), (64, .iload_n 3, 1), (65, .istore_n 2, 1), (66, .iinc 3 1, 3), (69, .goto (-65), 3), (72, .aload_n 0, 1), (73, .getfield 44, 3), (76, .iload_n 1, 1), (77, .iload_n 2, 1), (78, .iastore, 1), (79, .return_, 1)]
set_option maxRecDepth 20000 in
theorem dn_51_0_1_ok : dn_51_0_1.all (fun q => decide (decode (xm_b n_51) q.1 = .ok (q.2.1, q.2.2))) = true := xa_g_ok (by decide +kernel)
def te_51_0 : Nat → eE := (e_T 15 (e_T 4 (e_T 1 (e_T 0 (e_L 0 (0, ei_push (0, (-1)) 1, 0, 0)) (e_L 1 (0, ei_stor 2 0 2, 0, 0))) (e_T 2 (e_L 2 (0, ei_push (0, 0) 3, 0, 0)) (e_T 3 (e_L 3 (0, ei_stor 3 0 4, 0, 0)) (e_L 4 (0, ei_load 3 0 5, 0, 0))))) (e_T 10 (e_T 5 (e_L 5 (0, ei_push (0, 16) 7, 0, 0)) (e_T 7 (e_L 7 (0, ei_if2 3 72 10, 0, 0)) (e_L 10 (0, ei_load 0 2 11, 0, 0)))) (e_T 11 (e_L 11 (0, ei_getf eft elay 3 4 14, 0, 0)) (e_T 14 (e_L 14 (0, ei_load 3 0 15, 0, 0)) (e_L 15 (0, ei_aald elay 16, 0, 0)))))) (e_T 24 (e_T 19 (e_T 16 (e_L 16 (0, ei_getf eft elay 10 1 19, 0, 0)) (e_L 19 (0, ei_push (0, 5) 20, 0, 0))) (e_T 20 (e_L 20 (0, ei_if2 1 66 23, 0, 0)) (e_T 23 (e_L 23 (0, ei_load 0 2 24, 0, 0)) (e_L 24 (0, ei_getf eft elay 3 4 27, 0, 0))))) (e_T 29 (e_T 27 (e_L 27 (0, ei_load 3 0 28, 0, 0)) (e_T 28 (e_L 28 (0, ei_aald elay 29, 0, 0)) (e_L 29 (0, ei_getf eft elay 10 8 32, 0, 0)))) (e_T 32 (e_L 32 (0, ei_load 1 0 33, 0, 0)) (e_T 33 (e_L 33 (0, ei_if2 0 39 36, 0, 0)) (e_L 36 (0, ei_goto 66, 0, 0)))))))
set_option maxRecDepth 20000 in
set_option maxHeartbeats 4000000 in
theorem te_51_0_ok : ∀ pc, e_EOq eft cls elay eI n_51 pc (te_51_0 pc) :=
  (e_Tok2
  (e_Tok2
  (e_Tok2
  (e_Tok2
  (e_Lok (ps_iconst_m1 (x_dk dn_51_0_0_ok 0 rfl)))
  (e_Lok (e_st (I := eI) (er_istore_n (i := 2) (x_dk dn_51_0_0_ok 1 rfl) (by decide +kernel)) nx_stor)))
  (e_Tok2
  (e_Lok (ps_iconst_0 (x_dk dn_51_0_0_ok 2 rfl)))
  (e_Tok2
  (e_Lok (e_st (I := eI) (er_istore_n (i := 3) (x_dk dn_51_0_0_ok 3 rfl) (by decide +kernel)) nx_stor))
  (e_Lok (ld_iload_n_3 (x_dk dn_51_0_0_ok 4 rfl))))))
  (e_Tok2
  (e_Tok2
  (e_Lok (ps_bipush_16 (x_dk dn_51_0_0_ok 5 rfl)))
  (e_Tok2
  (e_Lok (e_st (I := eI) (er_icmpge (off := 65) (tg := 72) (x_dk dn_51_0_0_ok 6 rfl) (by decide)) nx_if2))
  (e_Lok (ld_aload_n_0 (x_dk dn_51_0_0_ok 7 rfl)))))
  (e_Tok2
  (e_Lok (lk_3_40g ho_51 (x_dk dn_51_0_0_ok 8 rfl)))
  (e_Tok2
  (e_Lok (ld_iload_n_3 (x_dk dn_51_0_0_ok 9 rfl)))
  (e_Lok (e_st (I := eI) (er_aaload (x_dk dn_51_0_0_ok 10 rfl)) nx_aald))))))
  (e_Tok2
  (e_Tok2
  (e_Tok2
  (e_Lok (lk_3_71g ho_51 (x_dk dn_51_0_0_ok 11 rfl)))
  (e_Lok (ps_iconst_5 (x_dk dn_51_0_0_ok 12 rfl))))
  (e_Tok2
  (e_Lok (e_st (I := eI) (er_icmpne (off := 46) (tg := 66) (x_dk dn_51_0_0_ok 13 rfl) (by decide)) nx_if2))
  (e_Tok2
  (e_Lok (ld_aload_n_0 (x_dk dn_51_0_0_ok 14 rfl)))
  (e_Lok (lk_3_40g ho_51 (x_dk dn_51_0_0_ok 15 rfl))))))
  (e_Tok2
  (e_Tok2
  (e_Lok (ld_iload_n_3 (x_dk dn_51_0_0_ok 16 rfl)))
  (e_Tok2
  (e_Lok (e_st (I := eI) (er_aaload (x_dk dn_51_0_0_ok 17 rfl)) nx_aald))
  (e_Lok (lk_3_193g ho_51 (x_dk dn_51_0_0_ok 18 rfl)))))
  (e_Tok2
  (e_Lok (ld_iload_n_1 (x_dk dn_51_0_0_ok 19 rfl)))
  (e_Tok2
  (e_Lok (e_st (I := eI) (er_icmpeq (off := 6) (tg := 39) (x_dk dn_51_0_0_ok 20 rfl) (by decide)) nx_if2))
  (e_Lok (e_st (I := eI) (er_goto (off := 30) (tg := 66) (x_dk dn_51_0_0_ok 21 rfl) (by decide)) nx_goto)))))))
def te_51_22 : Nat → eE := (e_T 57 (e_T 47 (e_T 40 (e_T 39 (e_L 39 (0, ei_load 2 0 40, 0, 0)) (e_L 40 (0, ei_if1 2 64 43, 0, 0))) (e_T 43 (e_L 43 (0, ei_load 0 2 44, 0, 0)) (e_T 44 (e_L 44 (0, ei_getf eft elay 3 4 47, 0, 0)) (e_L 47 (0, ei_load 3 0 48, 0, 0))))) (e_T 52 (e_T 48 (e_L 48 (0, ei_aald elay 49, 0, 0)) (e_T 49 (e_L 49 (0, ei_getf eft elay 10 9 52, 0, 0)) (e_L 52 (0, ei_load 0 2 53, 0, 0)))) (e_T 53 (e_L 53 (0, ei_getf eft elay 3 4 56, 0, 0)) (e_T 56 (e_L 56 (0, ei_load 2 0 57, 0, 0)) (e_L 57 (0, ei_aald elay 58, 0, 0)))))) (e_T 69 (e_T 64 (e_T 58 (e_L 58 (0, ei_getf eft elay 10 9 61, 0, 0)) (e_T 61 (e_L 61 (0, ei_if2 3 66 64, 0, 0)) (e_L 64 (0, ei_load 3 0 65, 0, 0)))) (e_T 65 (e_L 65 (0, ei_stor 2 0 66, 0, 0)) (e_T 66 (e_L 66 (0, ei_inc 3 1 69, 0, 0)) (e_L 69 (0, ei_goto 4, 0, 0))))) (e_T 76 (e_T 72 (e_L 72 (0, ei_load 0 2 73, 0, 0)) (e_T 73 (e_L 73 (0, ei_getf eft elay 3 5 76, 0, 0)) (e_L 76 (0, ei_load 1 0 77, 0, 0)))) (e_T 77 (e_L 77 (0, ei_load 2 0 78, 0, 0)) (e_T 78 (e_L 78 (0, ei_ast elay false 79, 0, 0)) (e_L 79 (1, e_nof, 0, 0)))))))
set_option maxRecDepth 20000 in
set_option maxHeartbeats 4000000 in
theorem te_51_22_ok : ∀ pc, e_EOq eft cls elay eI n_51 pc (te_51_22 pc) :=
  (e_Tok2
  (e_Tok2
  (e_Tok2
  (e_Tok2
  (e_Lok (ld_iload_n_2 (x_dk dn_51_0_0_ok 22 rfl)))
  (e_Lok (e_st (I := eI) (er_iflt (off := 24) (tg := 64) (x_dk dn_51_0_0_ok 23 rfl) (by decide)) nx_if1)))
  (e_Tok2
  (e_Lok (ld_aload_n_0 (x_dk dn_51_0_0_ok 24 rfl)))
  (e_Tok2
  (e_Lok (lk_3_40g ho_51 (x_dk dn_51_0_1_ok 0 rfl)))
  (e_Lok (ld_iload_n_3 (x_dk dn_51_0_1_ok 1 rfl))))))
  (e_Tok2
  (e_Tok2
  (e_Lok (e_st (I := eI) (er_aaload (x_dk dn_51_0_1_ok 2 rfl)) nx_aald))
  (e_Tok2
  (e_Lok (lk_3_190g ho_51 (x_dk dn_51_0_1_ok 3 rfl)))
  (e_Lok (ld_aload_n_0 (x_dk dn_51_0_1_ok 4 rfl)))))
  (e_Tok2
  (e_Lok (lk_3_40g ho_51 (x_dk dn_51_0_1_ok 5 rfl)))
  (e_Tok2
  (e_Lok (ld_iload_n_2 (x_dk dn_51_0_1_ok 6 rfl)))
  (e_Lok (e_st (I := eI) (er_aaload (x_dk dn_51_0_1_ok 7 rfl)) nx_aald))))))
  (e_Tok2
  (e_Tok2
  (e_Tok2
  (e_Lok (lk_3_190g ho_51 (x_dk dn_51_0_1_ok 8 rfl)))
  (e_Tok2
  (e_Lok (e_st (I := eI) (er_icmpge (off := 5) (tg := 66) (x_dk dn_51_0_1_ok 9 rfl) (by decide)) nx_if2))
  (e_Lok (ld_iload_n_3 (x_dk dn_51_0_1_ok 10 rfl)))))
  (e_Tok2
  (e_Lok (e_st (I := eI) (er_istore_n (i := 2) (x_dk dn_51_0_1_ok 11 rfl) (by decide +kernel)) nx_stor))
  (e_Tok2
  (e_Lok (e_st (I := eI) (er_iinc (i := 3) (n := 1) (x_dk dn_51_0_1_ok 12 rfl) (by decide +kernel) (by decide)) nx_inc))
  (e_Lok (e_st (I := eI) (er_goto (off := (-65)) (tg := 4) (x_dk dn_51_0_1_ok 13 rfl) (by decide)) nx_goto)))))
  (e_Tok2
  (e_Tok2
  (e_Lok (ld_aload_n_0 (x_dk dn_51_0_1_ok 14 rfl)))
  (e_Tok2
  (e_Lok (lk_3_44g ho_51 (x_dk dn_51_0_1_ok 15 rfl)))
  (e_Lok (ld_iload_n_1 (x_dk dn_51_0_1_ok 16 rfl)))))
  (e_Tok2
  (e_Lok (ld_iload_n_2 (x_dk dn_51_0_1_ok 17 rfl)))
  (e_Tok2
  (e_Lok (sm_iastore (x_dk dn_51_0_1_ok 18 rfl)))
  (e_Lok (e_rt (I := eI) (k := 0) ⟨(x_dk dn_51_0_1_ok 19 rfl), rfl⟩)))))))
def te_51 : Nat → eE := (e_T 36 te_51_0 te_51_22)
theorem te_51_ok : ∀ pc, e_EOq eft cls elay eI n_51 pc (te_51 pc) := (e_Tok2 (te_51_0_ok) (te_51_22_ok))
theorem ho_52 : (xm_y n_52).cls = "RobotCellHouse$Doer" := rfl
def dn_52_0_0 : List (Nat × Instr × Nat) := [(0, .aload_n 0, 1), (1, .getfield 133, 3), (4, .aload_n 0, 1), (5, .getfield 48, 3), (8, .arraylength, 1), (9, .if_icmp .lt 4, 3), (12, .return_, 1), (13, .aload_n 0, 1), (14, .getfield 48, 3), (17, .aload_n 0, 1), (18, .getfield 133, 3), (21, .iload_n 1, 1), (22, .iastore, 1), (23, .aload_n 0, 1), (24, .dup, 1), (25, .getfield 133, 3), (28, .iconst 1, 1), (29, .iadd, 1), (30, .putfield 133, 3), (33, .return_, 1)]
set_option maxRecDepth 20000 in
theorem dn_52_0_0_ok : dn_52_0_0.all (fun q => decide (decode (xm_b n_52) q.1 = .ok (q.2.1, q.2.2))) = true := xa_g_ok (by decide +kernel)
def te_52_0 : Nat → eE := (e_T 17 (e_T 8 (e_T 1 (e_T 0 (e_L 0 (0, ei_load 0 2 1, 0, 0)) (e_L 1 (0, ei_getf eft elay 3 8 4, 0, 0))) (e_T 4 (e_L 4 (0, ei_load 0 2 5, 0, 0)) (e_T 5 (e_L 5 (0, ei_getf eft elay 3 6 8, 0, 0)) (e_L 8 (0, ei_alen elay 9, 0, 0))))) (e_T 12 (e_T 9 (e_L 9 (0, ei_if2 2 13 12, 0, 0)) (e_L 12 (1, e_nof, 0, 0))) (e_T 13 (e_L 13 (0, ei_load 0 2 14, 0, 0)) (e_T 14 (e_L 14 (0, ei_getf eft elay 3 6 17, 0, 0)) (e_L 17 (0, ei_load 0 2 18, 0, 0)))))) (e_T 24 (e_T 21 (e_T 18 (e_L 18 (0, ei_getf eft elay 3 8 21, 0, 0)) (e_L 21 (0, ei_load 1 0 22, 0, 0))) (e_T 22 (e_L 22 (0, ei_ast elay false 23, 0, 0)) (e_T 23 (e_L 23 (0, ei_load 0 2 24, 0, 0)) (e_L 24 (0, ei_stk ef_dup 25, 0, 0))))) (e_T 28 (e_T 25 (e_L 25 (0, ei_getf eft elay 3 8 28, 0, 0)) (e_L 28 (0, ei_push (0, 1) 29, 0, 0))) (e_T 29 (e_L 29 (0, ei_bin eF_add 30, 0, 0)) (e_T 30 (e_L 30 (0, ei_putf eft elay 3 8 0 33, 0, 0)) (e_L 33 (1, e_nof, 0, 0)))))))
set_option maxRecDepth 20000 in
set_option maxHeartbeats 4000000 in
theorem te_52_0_ok : ∀ pc, e_EOq eft cls elay eI n_52 pc (te_52_0 pc) :=
  (e_Tok2
  (e_Tok2
  (e_Tok2
  (e_Tok2
  (e_Lok (ld_aload_n_0 (x_dk dn_52_0_0_ok 0 rfl)))
  (e_Lok (lk_3_133g ho_52 (x_dk dn_52_0_0_ok 1 rfl))))
  (e_Tok2
  (e_Lok (ld_aload_n_0 (x_dk dn_52_0_0_ok 2 rfl)))
  (e_Tok2
  (e_Lok (lk_3_48g ho_52 (x_dk dn_52_0_0_ok 3 rfl)))
  (e_Lok (e_st (I := eI) (er_alen (x_dk dn_52_0_0_ok 4 rfl)) nx_alen)))))
  (e_Tok2
  (e_Tok2
  (e_Lok (e_st (I := eI) (er_icmplt (off := 4) (tg := 13) (x_dk dn_52_0_0_ok 5 rfl) (by decide)) nx_if2))
  (e_Lok (e_rt (I := eI) (k := 0) ⟨(x_dk dn_52_0_0_ok 6 rfl), rfl⟩)))
  (e_Tok2
  (e_Lok (ld_aload_n_0 (x_dk dn_52_0_0_ok 7 rfl)))
  (e_Tok2
  (e_Lok (lk_3_48g ho_52 (x_dk dn_52_0_0_ok 8 rfl)))
  (e_Lok (ld_aload_n_0 (x_dk dn_52_0_0_ok 9 rfl)))))))
  (e_Tok2
  (e_Tok2
  (e_Tok2
  (e_Lok (lk_3_133g ho_52 (x_dk dn_52_0_0_ok 10 rfl)))
  (e_Lok (ld_iload_n_1 (x_dk dn_52_0_0_ok 11 rfl))))
  (e_Tok2
  (e_Lok (sm_iastore (x_dk dn_52_0_0_ok 12 rfl)))
  (e_Tok2
  (e_Lok (ld_aload_n_0 (x_dk dn_52_0_0_ok 13 rfl)))
  (e_Lok (e_st (I := eI) (er_dup (x_dk dn_52_0_0_ok 14 rfl)) (nx_stk bf_dup))))))
  (e_Tok2
  (e_Tok2
  (e_Lok (lk_3_133g ho_52 (x_dk dn_52_0_0_ok 15 rfl)))
  (e_Lok (ps_iconst_1 (x_dk dn_52_0_0_ok 16 rfl))))
  (e_Tok2
  (e_Lok (sm_iadd (x_dk dn_52_0_0_ok 17 rfl)))
  (e_Tok2
  (e_Lok (lk_3_133p ho_52 (x_dk dn_52_0_0_ok 18 rfl)))
  (e_Lok (e_rt (I := eI) (k := 0) ⟨(x_dk dn_52_0_0_ok 19 rfl), rfl⟩)))))))
def te_52 : Nat → eE := te_52_0
theorem te_52_ok : ∀ pc, e_EOq eft cls elay eI n_52 pc (te_52 pc) := te_52_0_ok
theorem ho_53 : (xm_y n_53).cls = "RobotCellHouse$Doer" := rfl
def dn_53_0_0 : List (Nat × Instr × Nat) := [(0, .aload_n 0, 1), (1, .getfield 133, 3), (4, .iconst 1, 1), (5, .if_icmp .ge 5, 3), (8, .iconst 0, 1), (9, .ireturn, 1), (10, .aload_n 0, 1), (11, .dup, 1), (12, .getfield 133, 3), (15, .iconst 1, 1), (16, .isub, 1), (17, .putfield 133, 3), (20, .aload_n 0, 1), (21, .getfield 48, 3), (24, .aload_n 0, 1), (25, .getfield 133, 3), (28, .iaload, 1), (29, .ireturn, 1)]
set_option maxRecDepth 20000 in
theorem dn_53_0_0_ok : dn_53_0_0.all (fun q => decide (decode (xm_b n_53) q.1 = .ok (q.2.1, q.2.2))) = true := xa_g_ok (by decide +kernel)
def te_53_0 : Nat → eE := (e_T 12 (e_T 5 (e_T 1 (e_T 0 (e_L 0 (0, ei_load 0 2 1, 0, 0)) (e_L 1 (0, ei_getf eft elay 3 8 4, 0, 0))) (e_T 4 (e_L 4 (0, ei_push (0, 1) 5, 0, 0)) (e_L 5 (0, ei_if2 3 10 8, 0, 0)))) (e_T 9 (e_T 8 (e_L 8 (0, ei_push (0, 0) 9, 0, 0)) (e_L 9 (1, e_nof, 1, 0))) (e_T 10 (e_L 10 (0, ei_load 0 2 11, 0, 0)) (e_T 11 (e_L 11 (0, ei_stk ef_dup 12, 0, 0)) (e_L 12 (0, ei_getf eft elay 3 8 15, 0, 0)))))) (e_T 20 (e_T 16 (e_T 15 (e_L 15 (0, ei_push (0, 1) 16, 0, 0)) (e_L 16 (0, ei_bin eF_sub 17, 0, 0))) (e_T 17 (e_L 17 (0, ei_putf eft elay 3 8 0 20, 0, 0)) (e_L 20 (0, ei_load 0 2 21, 0, 0)))) (e_T 24 (e_T 21 (e_L 21 (0, ei_getf eft elay 3 6 24, 0, 0)) (e_L 24 (0, ei_load 0 2 25, 0, 0))) (e_T 25 (e_L 25 (0, ei_getf eft elay 3 8 28, 0, 0)) (e_T 28 (e_L 28 (0, ei_ald elay false 29, 0, 0)) (e_L 29 (1, e_nof, 1, 0)))))))
set_option maxRecDepth 20000 in
set_option maxHeartbeats 4000000 in
theorem te_53_0_ok : ∀ pc, e_EOq eft cls elay eI n_53 pc (te_53_0 pc) :=
  (e_Tok2
  (e_Tok2
  (e_Tok2
  (e_Tok2
  (e_Lok (ld_aload_n_0 (x_dk dn_53_0_0_ok 0 rfl)))
  (e_Lok (lk_3_133g ho_53 (x_dk dn_53_0_0_ok 1 rfl))))
  (e_Tok2
  (e_Lok (ps_iconst_1 (x_dk dn_53_0_0_ok 2 rfl)))
  (e_Lok (e_st (I := eI) (er_icmpge (off := 5) (tg := 10) (x_dk dn_53_0_0_ok 3 rfl) (by decide)) nx_if2))))
  (e_Tok2
  (e_Tok2
  (e_Lok (ps_iconst_0 (x_dk dn_53_0_0_ok 4 rfl)))
  (e_Lok (e_rt (I := eI) (k := 1) ⟨(x_dk dn_53_0_0_ok 5 rfl), rfl⟩)))
  (e_Tok2
  (e_Lok (ld_aload_n_0 (x_dk dn_53_0_0_ok 6 rfl)))
  (e_Tok2
  (e_Lok (e_st (I := eI) (er_dup (x_dk dn_53_0_0_ok 7 rfl)) (nx_stk bf_dup)))
  (e_Lok (lk_3_133g ho_53 (x_dk dn_53_0_0_ok 8 rfl)))))))
  (e_Tok2
  (e_Tok2
  (e_Tok2
  (e_Lok (ps_iconst_1 (x_dk dn_53_0_0_ok 9 rfl)))
  (e_Lok (sm_isub (x_dk dn_53_0_0_ok 10 rfl))))
  (e_Tok2
  (e_Lok (lk_3_133p ho_53 (x_dk dn_53_0_0_ok 11 rfl)))
  (e_Lok (ld_aload_n_0 (x_dk dn_53_0_0_ok 12 rfl)))))
  (e_Tok2
  (e_Tok2
  (e_Lok (lk_3_48g ho_53 (x_dk dn_53_0_0_ok 13 rfl)))
  (e_Lok (ld_aload_n_0 (x_dk dn_53_0_0_ok 14 rfl))))
  (e_Tok2
  (e_Lok (lk_3_133g ho_53 (x_dk dn_53_0_0_ok 15 rfl)))
  (e_Tok2
  (e_Lok (sm_iaload (x_dk dn_53_0_0_ok 16 rfl)))
  (e_Lok (e_rt (I := eI) (k := 1) ⟨(x_dk dn_53_0_0_ok 17 rfl), rfl⟩)))))))
def te_53 : Nat → eE := te_53_0
theorem te_53_ok : ∀ pc, e_EOq eft cls elay eI n_53 pc (te_53 pc) := te_53_0_ok
theorem ho_54 : (xm_y n_54).cls = "RobotCellHouse$Doer" := rfl
def dn_54_0_0 : List (Nat × Instr × Nat) := [(0, .aload_n 0, 1), (1, .getfield 11, 3), (4, .aload_n 1, 1), (5, .getfield 127, 3), (8, .aaload, 1), (9, .astore 4, 2), (11, .iload_n 2, 1), (12, .tableswitch 157 0 7 #[48, 56, 72, 86, 97, 110, 124, 135], 48), (60, .aload_n 0, 1), (61, .iload_n 3, 1), (62, .invokevirtual 239, 3), (65, .goto 121, 3), (68, .aload_n 0, 1), (69, .aload_n 0, 1), (70, .invokevirtual 166, 3), (73, .bipush 16, 2), (75, .ishl, 1), (76, .iload_n 3, 1), (77, .ior, 1), (78, .invokevirtual 239, 3), (81, .goto 105, 3), (84, .aload_n 0, 1), (85, .aload 4, 2), (87, .getfield 242, 3), (90, .iload_n 3, 1)]
set_option maxRecDepth 20000 in
theorem dn_54_0_0_ok : dn_54_0_0.all (fun q => decide (decode (xm_b n_54) q.1 = .ok (q.2.1, q.2.2))) = true := xa_g_ok (by decide +kernel)
def dn_54_0_1 : List (Nat × Instr × Nat) := [(91, .iaload, 1), (92, .invokevirtual 239, 3), (95, .goto 91, 3), (98, .aload_n 0, 1), (99, .aload_n 0, 1), (100, .invokevirtual 166, 3), (103, .invokevirtual 245, 3), (106, .goto 80, 3), (109, .aload_n 0, 1), (110, .aload 4, 2), (112, .aload_n 0, 1), (113, .invokevirtual 166, 3), (116, .invokevirtual 248, 3), (119, .goto 67, 3), (122, .aload_n 0, 1), (123, .aload_n 0, 1), (124, .getfield 34, 3), (127, .getfield 87, 3), (130, .invokevirtual 239, 3), (133, .goto 53, 3), (136, .aload_n 0, 1), (137, .aload_n 1, 1), (138, .getfield 252, 3), (141, .invokevirtual 239, 3), (144, .goto 42, 3)]
set_option maxRecDepth 20000 in
theorem dn_54_0_1_ok : dn_54_0_1.all (fun q => decide (decode (xm_b n_54) q.1 = .ok (q.2.1, q.2.2))) = true := xa_g_ok (by decide +kernel)
def dn_54_0_2 : List (Nat × Instr × Nat) := [(147, .aload_n 0, 1), (148, .aload_n 0, 1), (149, .getfield 34, 3), (152, .getfield 255, 3), (155, .ifCond .eq 7, 3), (158, .iconst 1, 1), (159, .goto 4, 3), (162, .iconst 0, 1), (163, .invokevirtual 239, 3), (166, .goto 20, 3), (169, .aload_n 0, 1), (170, .aload 4, 2), (172, .getfield 258, 3), (175, .ifCond .lt 7, 3), (178, .iconst 1, 1), (179, .goto 4, 3), (182, .iconst 0, 1), (183, .invokevirtual 239, 3), (186, .return_, 1)]
set_option maxRecDepth 20000 in
theorem dn_54_0_2_ok : dn_54_0_2.all (fun q => decide (decode (xm_b n_54) q.1 = .ok (q.2.1, q.2.2))) = true := xa_g_ok (by decide +kernel)
def te_54_0 : Nat → eE := (e_T 75 (e_T 12 (e_T 5 (e_T 1 (e_T 0 (e_L 0 (0, ei_load 0 2 1, 0, 0)) (e_L 1 (0, ei_getf eft elay 3 0 4, 0, 0))) (e_T 4 (e_L 4 (0, ei_load 1 2 5, 0, 0)) (e_L 5 (0, ei_getf eft elay 10 2 8, 0, 0)))) (e_T 9 (e_T 8 (e_L 8 (0, ei_aald elay 9, 0, 0)) (e_L 9 (0, ei_stor 4 2 11, 0, 0))) (e_T 11 (e_L 11 (0, ei_load 2 0 12, 0, 0)) (e_L 12 (0, ei_sw [((-2147483648), (-1), 169), (0, 0, 60), (1, 1, 68), (2, 2, 84), (3, 3, 98), (4, 4, 109), (5, 5, 122), (6, 6, 136), (7, 7, 147), (8, 2147483647, 169)], 0, 0))))) (e_T 65 (e_T 61 (e_T 60 (e_L 60 (0, ei_load 0 2 61, 0, 0)) (e_L 61 (0, ei_load 3 0 62, 0, 0))) (e_T 62 (e_L 62 (2, e_nof, 52, 2)) (e_L 65 (0, ei_goto 186, 0, 0)))) (e_T 69 (e_T 68 (e_L 68 (0, ei_load 0 2 69, 0, 0)) (e_L 69 (0, ei_load 0 2 70, 0, 0))) (e_T 70 (e_L 70 (2, e_nof, 53, 1)) (e_T 73 (e_L 73 (0, ei_push (0, 16) 75, 0, 0)) (e_L 75 (0, ei_bin (eB (fun x y => x <<< (y &&& 31))) 76, 0, 0))))))) (e_T 90 (e_T 81 (e_T 77 (e_T 76 (e_L 76 (0, ei_load 3 0 77, 0, 0)) (e_L 77 (0, ei_bin (eB (fun x y => x ||| y)) 78, 0, 0))) (e_T 78 (e_L 78 (2, e_nof, 52, 2)) (e_L 81 (0, ei_goto 186, 0, 0)))) (e_T 85 (e_T 84 (e_L 84 (0, ei_load 0 2 85, 0, 0)) (e_L 85 (0, ei_load 4 2 87, 0, 0))) (e_T 87 (e_L 87 (0, ei_getf eft elay 0 6 90, 0, 0)) (e_L 90 (0, ei_load 3 0 91, 0, 0))))) (e_T 98 (e_T 92 (e_T 91 (e_L 91 (0, ei_ald elay false 92, 0, 0)) (e_L 92 (2, e_nof, 52, 2))) (e_T 95 (e_L 95 (0, ei_goto 186, 0, 0)) (e_L 98 (0, ei_load 0 2 99, 0, 0)))) (e_T 100 (e_T 99 (e_L 99 (0, ei_load 0 2 100, 0, 0)) (e_L 100 (2, e_nof, 53, 1))) (e_T 103 (e_L 103 (2, e_nof, 55, 2)) (e_T 106 (e_L 106 (0, ei_goto 186, 0, 0)) (e_L 109 (0, ei_load 0 2 110, 0, 0))))))))
set_option maxRecDepth 20000 in
set_option maxHeartbeats 4000000 in
theorem te_54_0_ok : ∀ pc, e_EOq eft cls elay eI n_54 pc (te_54_0 pc) :=
  (e_Tok2
  (e_Tok2
  (e_Tok2
  (e_Tok2
  (e_Tok2
  (e_Lok (ld_aload_n_0 (x_dk dn_54_0_0_ok 0 rfl)))
  (e_Lok (lk_3_11g ho_54 (x_dk dn_54_0_0_ok 1 rfl))))
  (e_Tok2
  (e_Lok (ld_aload_n_1 (x_dk dn_54_0_0_ok 2 rfl)))
  (e_Lok (lk_3_127g ho_54 (x_dk dn_54_0_0_ok 3 rfl)))))
  (e_Tok2
  (e_Tok2
  (e_Lok (e_st (I := eI) (er_aaload (x_dk dn_54_0_0_ok 4 rfl)) nx_aald))
  (e_Lok (e_st (I := eI) (er_astore (i := 4) (x_dk dn_54_0_0_ok 5 rfl) (by decide +kernel)) nx_stor)))
  (e_Tok2
  (e_Lok (ld_iload_n_2 (x_dk dn_54_0_0_ok 6 rfl)))
  (e_Lok (e_st (I := eI) (er_tsw (dflt := 157) (lo := 0) (hi := 7) (offs := #[48, 56, 72, 86, 97, 110, 124, 135]) (len := 48) (n := 8) (x_dk dn_54_0_0_ok 7 rfl) (by decide) (by decide +kernel)) nx_sw)))))
  (e_Tok2
  (e_Tok2
  (e_Tok2
  (e_Lok (ld_aload_n_0 (x_dk dn_54_0_0_ok 8 rfl)))
  (e_Lok (ld_iload_n_3 (x_dk dn_54_0_0_ok 9 rfl))))
  (e_Tok2
  (e_Lok (lk_3_239 ho_54 (x_dk dn_54_0_0_ok 10 rfl)))
  (e_Lok (e_st (I := eI) (er_goto (off := 121) (tg := 186) (x_dk dn_54_0_0_ok 11 rfl) (by decide)) nx_goto))))
  (e_Tok2
  (e_Tok2
  (e_Lok (ld_aload_n_0 (x_dk dn_54_0_0_ok 12 rfl)))
  (e_Lok (ld_aload_n_0 (x_dk dn_54_0_0_ok 13 rfl))))
  (e_Tok2
  (e_Lok (lk_3_166 ho_54 (x_dk dn_54_0_0_ok 14 rfl)))
  (e_Tok2
  (e_Lok (ps_bipush_16 (x_dk dn_54_0_0_ok 15 rfl)))
  (e_Lok (e_st (I := eI) (er_ishl (x_dk dn_54_0_0_ok 16 rfl)) nx_bin)))))))
  (e_Tok2
  (e_Tok2
  (e_Tok2
  (e_Tok2
  (e_Lok (ld_iload_n_3 (x_dk dn_54_0_0_ok 17 rfl)))
  (e_Lok (e_st (I := eI) (er_ior (x_dk dn_54_0_0_ok 18 rfl)) nx_bin)))
  (e_Tok2
  (e_Lok (lk_3_239 ho_54 (x_dk dn_54_0_0_ok 19 rfl)))
  (e_Lok (e_st (I := eI) (er_goto (off := 105) (tg := 186) (x_dk dn_54_0_0_ok 20 rfl) (by decide)) nx_goto))))
  (e_Tok2
  (e_Tok2
  (e_Lok (ld_aload_n_0 (x_dk dn_54_0_0_ok 21 rfl)))
  (e_Lok (ld_aload_4 (x_dk dn_54_0_0_ok 22 rfl))))
  (e_Tok2
  (e_Lok (lk_3_242g ho_54 (x_dk dn_54_0_0_ok 23 rfl)))
  (e_Lok (ld_iload_n_3 (x_dk dn_54_0_0_ok 24 rfl))))))
  (e_Tok2
  (e_Tok2
  (e_Tok2
  (e_Lok (sm_iaload (x_dk dn_54_0_1_ok 0 rfl)))
  (e_Lok (lk_3_239 ho_54 (x_dk dn_54_0_1_ok 1 rfl))))
  (e_Tok2
  (e_Lok (e_st (I := eI) (er_goto (off := 91) (tg := 186) (x_dk dn_54_0_1_ok 2 rfl) (by decide)) nx_goto))
  (e_Lok (ld_aload_n_0 (x_dk dn_54_0_1_ok 3 rfl)))))
  (e_Tok2
  (e_Tok2
  (e_Lok (ld_aload_n_0 (x_dk dn_54_0_1_ok 4 rfl)))
  (e_Lok (lk_3_166 ho_54 (x_dk dn_54_0_1_ok 5 rfl))))
  (e_Tok2
  (e_Lok (lk_3_245 ho_54 (x_dk dn_54_0_1_ok 6 rfl)))
  (e_Tok2
  (e_Lok (e_st (I := eI) (er_goto (off := 80) (tg := 186) (x_dk dn_54_0_1_ok 7 rfl) (by decide)) nx_goto))
  (e_Lok (ld_aload_n_0 (x_dk dn_54_0_1_ok 8 rfl)))))))))
def te_54_34 : Nat → eE := (e_T 147 (e_T 124 (e_T 116 (e_T 112 (e_T 110 (e_L 110 (0, ei_load 4 2 112, 0, 0)) (e_L 112 (0, ei_load 0 2 113, 0, 0))) (e_T 113 (e_L 113 (2, e_nof, 53, 1)) (e_L 116 (2, e_nof, 56, 3)))) (e_T 122 (e_T 119 (e_L 119 (0, ei_goto 186, 0, 0)) (e_L 122 (0, ei_load 0 2 123, 0, 0))) (e_T 123 (e_L 123 (0, ei_load 0 2 124, 0, 0)) (e_L 124 (0, ei_getf eft elay 3 3 127, 0, 0))))) (e_T 136 (e_T 130 (e_T 127 (e_L 127 (0, ei_getf eft elay 2 0 130, 0, 0)) (e_L 130 (2, e_nof, 52, 2))) (e_T 133 (e_L 133 (0, ei_goto 186, 0, 0)) (e_L 136 (0, ei_load 0 2 137, 0, 0)))) (e_T 138 (e_T 137 (e_L 137 (0, ei_load 1 2 138, 0, 0)) (e_L 138 (0, ei_getf eft elay 10 6 141, 0, 0))) (e_T 141 (e_L 141 (2, e_nof, 52, 2)) (e_T 144 (e_L 144 (0, ei_goto 186, 0, 0)) (e_L 147 (0, ei_load 0 2 148, 0, 0))))))) (e_T 166 (e_T 155 (e_T 149 (e_T 148 (e_L 148 (0, ei_load 0 2 149, 0, 0)) (e_L 149 (0, ei_getf eft elay 3 3 152, 0, 0))) (e_T 152 (e_L 152 (0, ei_getf eft elay 2 3 155, 0, 0)) (e_L 155 (0, ei_if1 0 162 158, 0, 0)))) (e_T 159 (e_T 158 (e_L 158 (0, ei_push (0, 1) 159, 0, 0)) (e_L 159 (0, ei_goto 163, 0, 0))) (e_T 162 (e_L 162 (0, ei_push (0, 0) 163, 0, 0)) (e_T 163 (e_L 163 (2, e_nof, 52, 2)) (e_L 166 (0, ei_goto 186, 0, 0)))))) (e_T 175 (e_T 170 (e_T 169 (e_L 169 (0, ei_load 0 2 170, 0, 0)) (e_L 170 (0, ei_load 4 2 172, 0, 0))) (e_T 172 (e_L 172 (0, ei_getf eft elay 0 14 175, 0, 0)) (e_L 175 (0, ei_if1 2 182 178, 0, 0)))) (e_T 179 (e_T 178 (e_L 178 (0, ei_push (0, 1) 179, 0, 0)) (e_L 179 (0, ei_goto 183, 0, 0))) (e_T 182 (e_L 182 (0, ei_push (0, 0) 183, 0, 0)) (e_T 183 (e_L 183 (2, e_nof, 52, 2)) (e_L 186 (1, e_nof, 0, 0))))))))
set_option maxRecDepth 20000 in
set_option maxHeartbeats 4000000 in
theorem te_54_34_ok : ∀ pc, e_EOq eft cls elay eI n_54 pc (te_54_34 pc) :=
  (e_Tok2
  (e_Tok2
  (e_Tok2
  (e_Tok2
  (e_Tok2
  (e_Lok (ld_aload_4 (x_dk dn_54_0_1_ok 9 rfl)))
  (e_Lok (ld_aload_n_0 (x_dk dn_54_0_1_ok 10 rfl))))
  (e_Tok2
  (e_Lok (lk_3_166 ho_54 (x_dk dn_54_0_1_ok 11 rfl)))
  (e_Lok (lk_3_248 ho_54 (x_dk dn_54_0_1_ok 12 rfl)))))
  (e_Tok2
  (e_Tok2
  (e_Lok (e_st (I := eI) (er_goto (off := 67) (tg := 186) (x_dk dn_54_0_1_ok 13 rfl) (by decide)) nx_goto))
  (e_Lok (ld_aload_n_0 (x_dk dn_54_0_1_ok 14 rfl))))
  (e_Tok2
  (e_Lok (ld_aload_n_0 (x_dk dn_54_0_1_ok 15 rfl)))
  (e_Lok (lk_3_34g ho_54 (x_dk dn_54_0_1_ok 16 rfl))))))
  (e_Tok2
  (e_Tok2
  (e_Tok2
  (e_Lok (lk_3_87g ho_54 (x_dk dn_54_0_1_ok 17 rfl)))
  (e_Lok (lk_3_239 ho_54 (x_dk dn_54_0_1_ok 18 rfl))))
  (e_Tok2
  (e_Lok (e_st (I := eI) (er_goto (off := 53) (tg := 186) (x_dk dn_54_0_1_ok 19 rfl) (by decide)) nx_goto))
  (e_Lok (ld_aload_n_0 (x_dk dn_54_0_1_ok 20 rfl)))))
  (e_Tok2
  (e_Tok2
  (e_Lok (ld_aload_n_1 (x_dk dn_54_0_1_ok 21 rfl)))
  (e_Lok (lk_3_252g ho_54 (x_dk dn_54_0_1_ok 22 rfl))))
  (e_Tok2
  (e_Lok (lk_3_239 ho_54 (x_dk dn_54_0_1_ok 23 rfl)))
  (e_Tok2
  (e_Lok (e_st (I := eI) (er_goto (off := 42) (tg := 186) (x_dk dn_54_0_1_ok 24 rfl) (by decide)) nx_goto))
  (e_Lok (ld_aload_n_0 (x_dk dn_54_0_2_ok 0 rfl))))))))
  (e_Tok2
  (e_Tok2
  (e_Tok2
  (e_Tok2
  (e_Lok (ld_aload_n_0 (x_dk dn_54_0_2_ok 1 rfl)))
  (e_Lok (lk_3_34g ho_54 (x_dk dn_54_0_2_ok 2 rfl))))
  (e_Tok2
  (e_Lok (lk_3_255g ho_54 (x_dk dn_54_0_2_ok 3 rfl)))
  (e_Lok (e_st (I := eI) (er_ifeq (off := 7) (tg := 162) (x_dk dn_54_0_2_ok 4 rfl) (by decide)) nx_if1))))
  (e_Tok2
  (e_Tok2
  (e_Lok (ps_iconst_1 (x_dk dn_54_0_2_ok 5 rfl)))
  (e_Lok (e_st (I := eI) (er_goto (off := 4) (tg := 163) (x_dk dn_54_0_2_ok 6 rfl) (by decide)) nx_goto)))
  (e_Tok2
  (e_Lok (ps_iconst_0 (x_dk dn_54_0_2_ok 7 rfl)))
  (e_Tok2
  (e_Lok (lk_3_239 ho_54 (x_dk dn_54_0_2_ok 8 rfl)))
  (e_Lok (e_st (I := eI) (er_goto (off := 20) (tg := 186) (x_dk dn_54_0_2_ok 9 rfl) (by decide)) nx_goto))))))
  (e_Tok2
  (e_Tok2
  (e_Tok2
  (e_Lok (ld_aload_n_0 (x_dk dn_54_0_2_ok 10 rfl)))
  (e_Lok (ld_aload_4 (x_dk dn_54_0_2_ok 11 rfl))))
  (e_Tok2
  (e_Lok (lk_3_258g ho_54 (x_dk dn_54_0_2_ok 12 rfl)))
  (e_Lok (e_st (I := eI) (er_iflt (off := 7) (tg := 182) (x_dk dn_54_0_2_ok 13 rfl) (by decide)) nx_if1))))
  (e_Tok2
  (e_Tok2
  (e_Lok (ps_iconst_1 (x_dk dn_54_0_2_ok 14 rfl)))
  (e_Lok (e_st (I := eI) (er_goto (off := 4) (tg := 183) (x_dk dn_54_0_2_ok 15 rfl) (by decide)) nx_goto)))
  (e_Tok2
  (e_Lok (ps_iconst_0 (x_dk dn_54_0_2_ok 16 rfl)))
  (e_Tok2
  (e_Lok (lk_3_239 ho_54 (x_dk dn_54_0_2_ok 17 rfl)))
  (e_Lok (e_rt (I := eI) (k := 0) ⟨(x_dk dn_54_0_2_ok 18 rfl), rfl⟩))))))))
def te_54 : Nat → eE := (e_T 109 te_54_0 te_54_34)
theorem te_54_ok : ∀ pc, e_EOq eft cls elay eI n_54 pc (te_54 pc) := (e_Tok2 (te_54_0_ok) (te_54_34_ok))
end
end
-- part 41ad
section
noncomputable section
theorem ho_55 : (xm_y n_55).cls = "RobotCellHouse$Doer" := rfl
def dn_55_0_0 : List (Nat × Instr × Nat) := [(0, .iload_n 1, 1), (1, .invokestatic 261, 3), (4, .ifCond .eq 19, 3), (7, .aload_n 0, 1), (8, .aload_n 0, 1), (9, .getfield 20, 3), (12, .getfield 264, 3), (15, .iload_n 1, 1), (16, .iaload, 1), (17, .invokevirtual 239, 3), (20, .goto 8, 3), (23, .aload_n 0, 1), (24, .iconst 2, 1), (25, .invokevirtual 199, 3), (28, .return_, 1)]
set_option maxRecDepth 20000 in
theorem dn_55_0_0_ok : dn_55_0_0.all (fun q => decide (decode (xm_b n_55) q.1 = .ok (q.2.1, q.2.2))) = true := xa_g_ok (by decide +kernel)
def te_55_0 : Nat → eE := (e_T 12 (e_T 4 (e_T 0 (e_L 0 (0, ei_load 1 0 1, 0, 0)) (e_T 1 (e_L 1 (2, e_nof, 245, 1)) (e_L 4 (0, ei_if1 0 23 7, 0, 0)))) (e_T 8 (e_T 7 (e_L 7 (0, ei_load 0 2 8, 0, 0)) (e_L 8 (0, ei_load 0 2 9, 0, 0))) (e_T 9 (e_L 9 (0, ei_getf eft elay 3 1 12, 0, 0)) (e_L 12 (0, ei_getf eft elay 7 1 15, 0, 0))))) (e_T 20 (e_T 16 (e_T 15 (e_L 15 (0, ei_load 1 0 16, 0, 0)) (e_L 16 (0, ei_ald elay false 17, 0, 0))) (e_T 17 (e_L 17 (2, e_nof, 52, 2)) (e_L 20 (0, ei_goto 28, 0, 0)))) (e_T 24 (e_T 23 (e_L 23 (0, ei_load 0 2 24, 0, 0)) (e_L 24 (0, ei_push (0, 2) 25, 0, 0))) (e_T 25 (e_L 25 (2, e_nof, 46, 2)) (e_L 28 (1, e_nof, 0, 0))))))
set_option maxRecDepth 20000 in
set_option maxHeartbeats 4000000 in
theorem te_55_0_ok : ∀ pc, e_EOq eft cls elay eI n_55 pc (te_55_0 pc) :=
  (e_Tok2
  (e_Tok2
  (e_Tok2
  (e_Lok (ld_iload_n_1 (x_dk dn_55_0_0_ok 0 rfl)))
  (e_Tok2
  (e_Lok (lk_3_261 ho_55 (x_dk dn_55_0_0_ok 1 rfl)))
  (e_Lok (e_st (I := eI) (er_ifeq (off := 19) (tg := 23) (x_dk dn_55_0_0_ok 2 rfl) (by decide)) nx_if1))))
  (e_Tok2
  (e_Tok2
  (e_Lok (ld_aload_n_0 (x_dk dn_55_0_0_ok 3 rfl)))
  (e_Lok (ld_aload_n_0 (x_dk dn_55_0_0_ok 4 rfl))))
  (e_Tok2
  (e_Lok (lk_3_20g ho_55 (x_dk dn_55_0_0_ok 5 rfl)))
  (e_Lok (lk_3_264g ho_55 (x_dk dn_55_0_0_ok 6 rfl))))))
  (e_Tok2
  (e_Tok2
  (e_Tok2
  (e_Lok (ld_iload_n_1 (x_dk dn_55_0_0_ok 7 rfl)))
  (e_Lok (sm_iaload (x_dk dn_55_0_0_ok 8 rfl))))
  (e_Tok2
  (e_Lok (lk_3_239 ho_55 (x_dk dn_55_0_0_ok 9 rfl)))
  (e_Lok (e_st (I := eI) (er_goto (off := 8) (tg := 28) (x_dk dn_55_0_0_ok 10 rfl) (by decide)) nx_goto))))
  (e_Tok2
  (e_Tok2
  (e_Lok (ld_aload_n_0 (x_dk dn_55_0_0_ok 11 rfl)))
  (e_Lok (ps_iconst_2 (x_dk dn_55_0_0_ok 12 rfl))))
  (e_Tok2
  (e_Lok (lk_3_199 ho_55 (x_dk dn_55_0_0_ok 13 rfl)))
  (e_Lok (e_rt (I := eI) (k := 0) ⟨(x_dk dn_55_0_0_ok 14 rfl), rfl⟩))))))
def te_55 : Nat → eE := te_55_0
theorem te_55_ok : ∀ pc, e_EOq eft cls elay eI n_55 pc (te_55 pc) := te_55_0_ok
theorem ho_56 : (xm_y n_56).cls = "RobotCellHouse$Doer" := rfl
def dn_56_0_0 : List (Nat × Instr × Nat) := [(0, .iload_n 2, 1), (1, .iconst 0, 1), (2, .aload_n 1, 1), (3, .getfield 267, 3), (6, .iconst 1, 1), (7, .isub, 1), (8, .invokestatic 120, 3), (11, .ifCond .eq 19, 3), (14, .aload_n 0, 1), (15, .aload_n 1, 1), (16, .getfield 270, 3), (19, .iload_n 2, 1), (20, .aaload, 1), (21, .getfield 274, 3), (24, .invokevirtual 239, 3), (27, .goto 8, 3), (30, .aload_n 0, 1), (31, .iconst 2, 1), (32, .invokevirtual 199, 3), (35, .return_, 1)]
set_option maxRecDepth 20000 in
theorem dn_56_0_0_ok : dn_56_0_0.all (fun q => decide (decode (xm_b n_56) q.1 = .ok (q.2.1, q.2.2))) = true := xa_g_ok (by decide +kernel)
def te_56_0 : Nat → eE := (e_T 15 (e_T 6 (e_T 1 (e_T 0 (e_L 0 (0, ei_load 2 0 1, 0, 0)) (e_L 1 (0, ei_push (0, 0) 2, 0, 0))) (e_T 2 (e_L 2 (0, ei_load 1 2 3, 0, 0)) (e_T 3 (e_L 3 (0, ei_getf eft elay 0 8 6, 0, 0)) (e_L 6 (0, ei_push (0, 1) 7, 0, 0))))) (e_T 8 (e_T 7 (e_L 7 (0, ei_bin eF_sub 8, 0, 0)) (e_L 8 (2, e_nof, 242, 3))) (e_T 11 (e_L 11 (0, ei_if1 0 30 14, 0, 0)) (e_T 14 (e_L 14 (0, ei_load 0 2 15, 0, 0)) (e_L 15 (0, ei_load 1 2 16, 0, 0)))))) (e_T 24 (e_T 19 (e_T 16 (e_L 16 (0, ei_getf eft elay 0 0 19, 0, 0)) (e_L 19 (0, ei_load 2 0 20, 0, 0))) (e_T 20 (e_L 20 (0, ei_aald elay 21, 0, 0)) (e_T 21 (e_L 21 (0, ei_getf eft elay 5 7 24, 0, 0)) (e_L 24 (2, e_nof, 52, 2))))) (e_T 30 (e_T 27 (e_L 27 (0, ei_goto 35, 0, 0)) (e_L 30 (0, ei_load 0 2 31, 0, 0))) (e_T 31 (e_L 31 (0, ei_push (0, 2) 32, 0, 0)) (e_T 32 (e_L 32 (2, e_nof, 46, 2)) (e_L 35 (1, e_nof, 0, 0)))))))
set_option maxRecDepth 20000 in
set_option maxHeartbeats 4000000 in
theorem te_56_0_ok : ∀ pc, e_EOq eft cls elay eI n_56 pc (te_56_0 pc) :=
  (e_Tok2
  (e_Tok2
  (e_Tok2
  (e_Tok2
  (e_Lok (ld_iload_n_2 (x_dk dn_56_0_0_ok 0 rfl)))
  (e_Lok (ps_iconst_0 (x_dk dn_56_0_0_ok 1 rfl))))
  (e_Tok2
  (e_Lok (ld_aload_n_1 (x_dk dn_56_0_0_ok 2 rfl)))
  (e_Tok2
  (e_Lok (lk_3_267g ho_56 (x_dk dn_56_0_0_ok 3 rfl)))
  (e_Lok (ps_iconst_1 (x_dk dn_56_0_0_ok 4 rfl))))))
  (e_Tok2
  (e_Tok2
  (e_Lok (sm_isub (x_dk dn_56_0_0_ok 5 rfl)))
  (e_Lok (lk_3_120 ho_56 (x_dk dn_56_0_0_ok 6 rfl))))
  (e_Tok2
  (e_Lok (e_st (I := eI) (er_ifeq (off := 19) (tg := 30) (x_dk dn_56_0_0_ok 7 rfl) (by decide)) nx_if1))
  (e_Tok2
  (e_Lok (ld_aload_n_0 (x_dk dn_56_0_0_ok 8 rfl)))
  (e_Lok (ld_aload_n_1 (x_dk dn_56_0_0_ok 9 rfl)))))))
  (e_Tok2
  (e_Tok2
  (e_Tok2
  (e_Lok (lk_3_270g ho_56 (x_dk dn_56_0_0_ok 10 rfl)))
  (e_Lok (ld_iload_n_2 (x_dk dn_56_0_0_ok 11 rfl))))
  (e_Tok2
  (e_Lok (e_st (I := eI) (er_aaload (x_dk dn_56_0_0_ok 12 rfl)) nx_aald))
  (e_Tok2
  (e_Lok (lk_3_274g ho_56 (x_dk dn_56_0_0_ok 13 rfl)))
  (e_Lok (lk_3_239 ho_56 (x_dk dn_56_0_0_ok 14 rfl))))))
  (e_Tok2
  (e_Tok2
  (e_Lok (e_st (I := eI) (er_goto (off := 8) (tg := 35) (x_dk dn_56_0_0_ok 15 rfl) (by decide)) nx_goto))
  (e_Lok (ld_aload_n_0 (x_dk dn_56_0_0_ok 16 rfl))))
  (e_Tok2
  (e_Lok (ps_iconst_2 (x_dk dn_56_0_0_ok 17 rfl)))
  (e_Tok2
  (e_Lok (lk_3_199 ho_56 (x_dk dn_56_0_0_ok 18 rfl)))
  (e_Lok (e_rt (I := eI) (k := 0) ⟨(x_dk dn_56_0_0_ok 19 rfl), rfl⟩)))))))
def te_56 : Nat → eE := te_56_0
theorem te_56_ok : ∀ pc, e_EOq eft cls elay eI n_56 pc (te_56 pc) := te_56_0_ok
theorem ho_57 : (xm_y n_57).cls = "RobotCellHouse$Doer" := rfl
def dn_57_0_0 : List (Nat × Instr × Nat) := [(0, .aload_n 0, 1), (1, .invokevirtual 166, 3), (4, .istore 4, 2), (6, .iload_n 2, 1), (7, .tableswitch 94 9 12 #[29, 39, 56, 73], 29), (36, .aload_n 0, 1), (37, .iload 4, 2), (39, .ineg, 1), (40, .invokevirtual 239, 3), (43, .goto 76, 3), (46, .aload_n 0, 1), (47, .iload 4, 2), (49, .ifCond .ne 7, 3), (52, .iconst 1, 1), (53, .goto 4, 3), (56, .iconst 0, 1), (57, .invokevirtual 239, 3), (60, .goto 59, 3), (63, .aload_n 0, 1), (64, .iload 4, 2), (66, .ifCond .ne 7, 3), (69, .iconst 0, 1), (70, .goto 4, 3), (73, .iconst 1, 1), (74, .invokevirtual 239, 3)]
set_option maxRecDepth 20000 in
theorem dn_57_0_0_ok : dn_57_0_0.all (fun q => decide (decode (xm_b n_57) q.1 = .ok (q.2.1, q.2.2))) = true := xa_g_ok (by decide +kernel)
def dn_57_0_1 : List (Nat × Instr × Nat) := [(77, .goto 42, 3), (80, .iload 4, 2), (82, .ifCond .ne 6, 3), (85, .goto 34, 3), (88, .aload_n 0, 1), (89, .iconst 1, 1), (90, .invokevirtual 239, 3), (93, .aload_n 1, 1), (94, .iload_n 3, 1), (95, .putfield 141, 3), (98, .goto 21, 3), (101, .iload 4, 2), (103, .ifCond .eq 6, 3), (106, .goto 13, 3), (109, .aload_n 0, 1), (110, .iconst 0, 1), (111, .invokevirtual 239, 3), (114, .aload_n 1, 1), (115, .iload_n 3, 1), (116, .putfield 141, 3), (119, .return_, 1)]
set_option maxRecDepth 20000 in
theorem dn_57_0_1_ok : dn_57_0_1.all (fun q => decide (decode (xm_b n_57) q.1 = .ok (q.2.1, q.2.2))) = true := xa_g_ok (by decide +kernel)
def te_57_0 : Nat → eE := (e_T 46 (e_T 7 (e_T 1 (e_T 0 (e_L 0 (0, ei_load 0 2 1, 0, 0)) (e_L 1 (2, e_nof, 53, 1))) (e_T 4 (e_L 4 (0, ei_stor 4 0 6, 0, 0)) (e_T 6 (e_L 6 (0, ei_load 2 0 7, 0, 0)) (e_L 7 (0, ei_sw [((-2147483648), 8, 101), (9, 9, 36), (10, 10, 46), (11, 11, 63), (12, 12, 80), (13, 2147483647, 101)], 0, 0))))) (e_T 39 (e_T 36 (e_L 36 (0, ei_load 0 2 37, 0, 0)) (e_T 37 (e_L 37 (0, ei_load 4 0 39, 0, 0)) (e_L 39 (0, ei_un (fun x => (0, e32 (-x))) 40, 0, 0)))) (e_T 40 (e_L 40 (2, e_nof, 52, 2)) (e_T 43 (e_L 43 (0, ei_goto 119, 0, 0)) (e_L 46 (0, ei_load 0 2 47, 0, 0)))))) (e_T 57 (e_T 52 (e_T 47 (e_L 47 (0, ei_load 4 0 49, 0, 0)) (e_T 49 (e_L 49 (0, ei_if1 1 56 52, 0, 0)) (e_L 52 (0, ei_push (0, 1) 53, 0, 0)))) (e_T 53 (e_L 53 (0, ei_goto 57, 0, 0)) (e_T 56 (e_L 56 (0, ei_push (0, 0) 57, 0, 0)) (e_L 57 (2, e_nof, 52, 2))))) (e_T 64 (e_T 60 (e_L 60 (0, ei_goto 119, 0, 0)) (e_T 63 (e_L 63 (0, ei_load 0 2 64, 0, 0)) (e_L 64 (0, ei_load 4 0 66, 0, 0)))) (e_T 66 (e_L 66 (0, ei_if1 1 73 69, 0, 0)) (e_T 69 (e_L 69 (0, ei_push (0, 0) 70, 0, 0)) (e_L 70 (0, ei_goto 74, 0, 0)))))))
set_option maxRecDepth 20000 in
set_option maxHeartbeats 4000000 in
theorem te_57_0_ok : ∀ pc, e_EOq eft cls elay eI n_57 pc (te_57_0 pc) :=
  (e_Tok2
  (e_Tok2
  (e_Tok2
  (e_Tok2
  (e_Lok (ld_aload_n_0 (x_dk dn_57_0_0_ok 0 rfl)))
  (e_Lok (lk_3_166 ho_57 (x_dk dn_57_0_0_ok 1 rfl))))
  (e_Tok2
  (e_Lok (e_st (I := eI) (er_istore (i := 4) (x_dk dn_57_0_0_ok 2 rfl) (by decide +kernel)) nx_stor))
  (e_Tok2
  (e_Lok (ld_iload_n_2 (x_dk dn_57_0_0_ok 3 rfl)))
  (e_Lok (e_st (I := eI) (er_tsw (dflt := 94) (lo := 9) (hi := 12) (offs := #[29, 39, 56, 73]) (len := 29) (n := 4) (x_dk dn_57_0_0_ok 4 rfl) (by decide) (by decide +kernel)) nx_sw)))))
  (e_Tok2
  (e_Tok2
  (e_Lok (ld_aload_n_0 (x_dk dn_57_0_0_ok 5 rfl)))
  (e_Tok2
  (e_Lok (ld_iload_4 (x_dk dn_57_0_0_ok 6 rfl)))
  (e_Lok (e_st (I := eI) (er_ineg (x_dk dn_57_0_0_ok 7 rfl)) (nx_un (fun _ => rfl))))))
  (e_Tok2
  (e_Lok (lk_3_239 ho_57 (x_dk dn_57_0_0_ok 8 rfl)))
  (e_Tok2
  (e_Lok (e_st (I := eI) (er_goto (off := 76) (tg := 119) (x_dk dn_57_0_0_ok 9 rfl) (by decide)) nx_goto))
  (e_Lok (ld_aload_n_0 (x_dk dn_57_0_0_ok 10 rfl)))))))
  (e_Tok2
  (e_Tok2
  (e_Tok2
  (e_Lok (ld_iload_4 (x_dk dn_57_0_0_ok 11 rfl)))
  (e_Tok2
  (e_Lok (e_st (I := eI) (er_ifne (off := 7) (tg := 56) (x_dk dn_57_0_0_ok 12 rfl) (by decide)) nx_if1))
  (e_Lok (ps_iconst_1 (x_dk dn_57_0_0_ok 13 rfl)))))
  (e_Tok2
  (e_Lok (e_st (I := eI) (er_goto (off := 4) (tg := 57) (x_dk dn_57_0_0_ok 14 rfl) (by decide)) nx_goto))
  (e_Tok2
  (e_Lok (ps_iconst_0 (x_dk dn_57_0_0_ok 15 rfl)))
  (e_Lok (lk_3_239 ho_57 (x_dk dn_57_0_0_ok 16 rfl))))))
  (e_Tok2
  (e_Tok2
  (e_Lok (e_st (I := eI) (er_goto (off := 59) (tg := 119) (x_dk dn_57_0_0_ok 17 rfl) (by decide)) nx_goto))
  (e_Tok2
  (e_Lok (ld_aload_n_0 (x_dk dn_57_0_0_ok 18 rfl)))
  (e_Lok (ld_iload_4 (x_dk dn_57_0_0_ok 19 rfl)))))
  (e_Tok2
  (e_Lok (e_st (I := eI) (er_ifne (off := 7) (tg := 73) (x_dk dn_57_0_0_ok 20 rfl) (by decide)) nx_if1))
  (e_Tok2
  (e_Lok (ps_iconst_0 (x_dk dn_57_0_0_ok 21 rfl)))
  (e_Lok (e_st (I := eI) (er_goto (off := 4) (tg := 74) (x_dk dn_57_0_0_ok 22 rfl) (by decide)) nx_goto)))))))
def te_57_23 : Nat → eE := (e_T 94 (e_T 82 (e_T 74 (e_T 73 (e_L 73 (0, ei_push (0, 1) 74, 0, 0)) (e_L 74 (2, e_nof, 52, 2))) (e_T 77 (e_L 77 (0, ei_goto 119, 0, 0)) (e_T 80 (e_L 80 (0, ei_load 4 0 82, 0, 0)) (e_L 82 (0, ei_if1 1 88 85, 0, 0))))) (e_T 89 (e_T 85 (e_L 85 (0, ei_goto 119, 0, 0)) (e_T 88 (e_L 88 (0, ei_load 0 2 89, 0, 0)) (e_L 89 (0, ei_push (0, 1) 90, 0, 0)))) (e_T 90 (e_L 90 (2, e_nof, 52, 2)) (e_T 93 (e_L 93 (0, ei_load 1 2 94, 0, 0)) (e_L 94 (0, ei_load 3 0 95, 0, 0)))))) (e_T 109 (e_T 101 (e_T 95 (e_L 95 (0, ei_putf eft elay 10 3 0 98, 0, 0)) (e_T 98 (e_L 98 (0, ei_goto 119, 0, 0)) (e_L 101 (0, ei_load 4 0 103, 0, 0)))) (e_T 103 (e_L 103 (0, ei_if1 0 109 106, 0, 0)) (e_T 106 (e_L 106 (0, ei_goto 119, 0, 0)) (e_L 109 (0, ei_load 0 2 110, 0, 0))))) (e_T 114 (e_T 110 (e_L 110 (0, ei_push (0, 0) 111, 0, 0)) (e_T 111 (e_L 111 (2, e_nof, 52, 2)) (e_L 114 (0, ei_load 1 2 115, 0, 0)))) (e_T 115 (e_L 115 (0, ei_load 3 0 116, 0, 0)) (e_T 116 (e_L 116 (0, ei_putf eft elay 10 3 0 119, 0, 0)) (e_L 119 (1, e_nof, 0, 0)))))))
set_option maxRecDepth 20000 in
set_option maxHeartbeats 4000000 in
theorem te_57_23_ok : ∀ pc, e_EOq eft cls elay eI n_57 pc (te_57_23 pc) :=
  (e_Tok2
  (e_Tok2
  (e_Tok2
  (e_Tok2
  (e_Lok (ps_iconst_1 (x_dk dn_57_0_0_ok 23 rfl)))
  (e_Lok (lk_3_239 ho_57 (x_dk dn_57_0_0_ok 24 rfl))))
  (e_Tok2
  (e_Lok (e_st (I := eI) (er_goto (off := 42) (tg := 119) (x_dk dn_57_0_1_ok 0 rfl) (by decide)) nx_goto))
  (e_Tok2
  (e_Lok (ld_iload_4 (x_dk dn_57_0_1_ok 1 rfl)))
  (e_Lok (e_st (I := eI) (er_ifne (off := 6) (tg := 88) (x_dk dn_57_0_1_ok 2 rfl) (by decide)) nx_if1)))))
  (e_Tok2
  (e_Tok2
  (e_Lok (e_st (I := eI) (er_goto (off := 34) (tg := 119) (x_dk dn_57_0_1_ok 3 rfl) (by decide)) nx_goto))
  (e_Tok2
  (e_Lok (ld_aload_n_0 (x_dk dn_57_0_1_ok 4 rfl)))
  (e_Lok (ps_iconst_1 (x_dk dn_57_0_1_ok 5 rfl)))))
  (e_Tok2
  (e_Lok (lk_3_239 ho_57 (x_dk dn_57_0_1_ok 6 rfl)))
  (e_Tok2
  (e_Lok (ld_aload_n_1 (x_dk dn_57_0_1_ok 7 rfl)))
  (e_Lok (ld_iload_n_3 (x_dk dn_57_0_1_ok 8 rfl)))))))
  (e_Tok2
  (e_Tok2
  (e_Tok2
  (e_Lok (lk_3_141p ho_57 (x_dk dn_57_0_1_ok 9 rfl)))
  (e_Tok2
  (e_Lok (e_st (I := eI) (er_goto (off := 21) (tg := 119) (x_dk dn_57_0_1_ok 10 rfl) (by decide)) nx_goto))
  (e_Lok (ld_iload_4 (x_dk dn_57_0_1_ok 11 rfl)))))
  (e_Tok2
  (e_Lok (e_st (I := eI) (er_ifeq (off := 6) (tg := 109) (x_dk dn_57_0_1_ok 12 rfl) (by decide)) nx_if1))
  (e_Tok2
  (e_Lok (e_st (I := eI) (er_goto (off := 13) (tg := 119) (x_dk dn_57_0_1_ok 13 rfl) (by decide)) nx_goto))
  (e_Lok (ld_aload_n_0 (x_dk dn_57_0_1_ok 14 rfl))))))
  (e_Tok2
  (e_Tok2
  (e_Lok (ps_iconst_0 (x_dk dn_57_0_1_ok 15 rfl)))
  (e_Tok2
  (e_Lok (lk_3_239 ho_57 (x_dk dn_57_0_1_ok 16 rfl)))
  (e_Lok (ld_aload_n_1 (x_dk dn_57_0_1_ok 17 rfl)))))
  (e_Tok2
  (e_Lok (ld_iload_n_3 (x_dk dn_57_0_1_ok 18 rfl)))
  (e_Tok2
  (e_Lok (lk_3_141p ho_57 (x_dk dn_57_0_1_ok 19 rfl)))
  (e_Lok (e_rt (I := eI) (k := 0) ⟨(x_dk dn_57_0_1_ok 20 rfl), rfl⟩)))))))
def te_57 : Nat → eE := (e_T 70 te_57_0 te_57_23)
theorem te_57_ok : ∀ pc, e_EOq eft cls elay eI n_57 pc (te_57 pc) := (e_Tok2 (te_57_0_ok) (te_57_23_ok))
theorem ho_58 : (xm_y n_58).cls = "RobotCellHouse$Doer" := rfl
def dn_58_0_0 : List (Nat × Instr × Nat) := [(0, .iload_n 1, 1), (1, .bipush 17, 2), (3, .if_icmp .eq 9, 3), (6, .iload_n 1, 1), (7, .bipush 18, 2), (9, .if_icmp .ne 13, 3), (12, .iload_n 2, 1), (13, .ifCond .ne 9, 3), (16, .aload_n 0, 1), (17, .iconst 1, 1), (18, .invokevirtual 199, 3), (21, .return_, 1), (22, .iload_n 1, 1), (23, .tableswitch 204 14 23 #[53, 63, 73, 83, 101, 119, 136, 153, 170, 187], 53), (76, .aload_n 0, 1), (77, .iload_n 3, 1), (78, .iload_n 2, 1), (79, .iadd, 1), (80, .invokevirtual 239, 3), (83, .goto 158, 3), (86, .aload_n 0, 1), (87, .iload_n 3, 1), (88, .iload_n 2, 1), (89, .isub, 1), (90, .invokevirtual 239, 3)]
set_option maxRecDepth 20000 in
theorem dn_58_0_0_ok : dn_58_0_0.all (fun q => decide (decode (xm_b n_58) q.1 = .ok (q.2.1, q.2.2))) = true := xa_g_ok (by decide +kernel)
def dn_58_0_1 : List (Nat × Instr × Nat) := [(93, .goto 148, 3), (96, .aload_n 0, 1), (97, .iload_n 3, 1), (98, .iload_n 2, 1), (99, .imul, 1), (100, .invokevirtual 239, 3), (103, .goto 138, 3), (106, .aload_n 0, 1), (107, .iload_n 2, 1), (108, .ifCond .ne 7, 3), (111, .iconst 0, 1), (112, .goto 6, 3), (115, .iload_n 3, 1), (116, .iload_n 2, 1), (117, .idiv, 1), (118, .invokevirtual 239, 3), (121, .goto 120, 3), (124, .aload_n 0, 1), (125, .iload_n 2, 1), (126, .ifCond .ne 7, 3), (129, .iconst 0, 1), (130, .goto 6, 3), (133, .iload_n 3, 1), (134, .iload_n 2, 1), (135, .irem, 1)]
set_option maxRecDepth 20000 in
theorem dn_58_0_1_ok : dn_58_0_1.all (fun q => decide (decode (xm_b n_58) q.1 = .ok (q.2.1, q.2.2))) = true := xa_g_ok (by decide +kernel)
def dn_58_0_2 : List (Nat × Instr × Nat) := [(136, .invokevirtual 239, 3), (139, .goto 102, 3), (142, .aload_n 0, 1), (143, .iload_n 3, 1), (144, .iload_n 2, 1), (145, .if_icmp .ne 7, 3), (148, .iconst 1, 1), (149, .goto 4, 3), (152, .iconst 0, 1), (153, .invokevirtual 239, 3), (156, .goto 85, 3), (159, .aload_n 0, 1), (160, .iload_n 3, 1), (161, .iload_n 2, 1), (162, .if_icmp .eq 7, 3), (165, .iconst 1, 1), (166, .goto 4, 3), (169, .iconst 0, 1), (170, .invokevirtual 239, 3), (173, .goto 68, 3), (176, .aload_n 0, 1), (177, .iload_n 3, 1), (178, .iload_n 2, 1), (179, .if_icmp .ge 7, 3), (182, .iconst 1, 1)]
set_option maxRecDepth 20000 in
theorem dn_58_0_2_ok : dn_58_0_2.all (fun q => decide (decode (xm_b n_58) q.1 = .ok (q.2.1, q.2.2))) = true := xa_g_ok (by decide +kernel)
def dn_58_0_3 : List (Nat × Instr × Nat) := [(183, .goto 4, 3), (186, .iconst 0, 1), (187, .invokevirtual 239, 3), (190, .goto 51, 3), (193, .aload_n 0, 1), (194, .iload_n 3, 1), (195, .iload_n 2, 1), (196, .if_icmp .gt 7, 3), (199, .iconst 1, 1), (200, .goto 4, 3), (203, .iconst 0, 1), (204, .invokevirtual 239, 3), (207, .goto 34, 3), (210, .aload_n 0, 1), (211, .iload_n 3, 1), (212, .iload_n 2, 1), (213, .if_icmp .le 7, 3), (216, .iconst 1, 1), (217, .goto 4, 3), (220, .iconst 0, 1), (221, .invokevirtual 239, 3), (224, .goto 17, 3), (227, .aload_n 0, 1), (228, .iload_n 3, 1), (229, .iload_n 2, 1)]
set_option maxRecDepth 20000 in
theorem dn_58_0_3_ok : dn_58_0_3.all (fun q => decide (decode (xm_b n_58) q.1 = .ok (q.2.1, q.2.2))) = true := xa_g_ok (by decide +kernel)
def dn_58_1_0 : List (Nat × Instr × Nat) := [(230, .if_icmp .lt 7, 3), (233, .iconst 1, 1), (234, .goto 4, 3), (237, .iconst 0, 1), (238, .invokevirtual 239, 3), (241, .return_, 1)]
set_option maxRecDepth 20000 in
theorem dn_58_1_0_ok : dn_58_1_0.all (fun q => decide (decode (xm_b n_58) q.1 = .ok (q.2.1, q.2.2))) = true := xa_g_ok (by decide +kernel)
def te_58_0 : Nat → eE := (e_T 22 (e_T 9 (e_T 3 (e_T 0 (e_L 0 (0, ei_load 1 0 1, 0, 0)) (e_T 1 (e_L 1 (0, ei_push (0, 17) 3, 0, 0)) (e_L 3 (0, ei_if2 0 12 6, 0, 0)))) (e_T 6 (e_L 6 (0, ei_load 1 0 7, 0, 0)) (e_T 7 (e_L 7 (0, ei_push (0, 18) 9, 0, 0)) (e_L 9 (0, ei_if2 1 22 12, 0, 0))))) (e_T 16 (e_T 12 (e_L 12 (0, ei_load 2 0 13, 0, 0)) (e_T 13 (e_L 13 (0, ei_if1 1 22 16, 0, 0)) (e_L 16 (0, ei_load 0 2 17, 0, 0)))) (e_T 18 (e_T 17 (e_L 17 (0, ei_push (0, 1) 18, 0, 0)) (e_L 18 (2, e_nof, 46, 2))) (e_T 21 (e_L 21 (1, e_nof, 0, 0)) (e_L 22 (0, ei_load 1 0 23, 0, 0)))))) (e_T 80 (e_T 77 (e_T 23 (e_L 23 (0, ei_sw [((-2147483648), 13, 227), (14, 14, 76), (15, 15, 86), (16, 16, 96), (17, 17, 106), (18, 18, 124), (19, 19, 142), (20, 20, 159), (21, 21, 176), (22, 22, 193), (23, 23, 210), (24, 2147483647, 227)], 0, 0)) (e_T 76 (e_L 76 (0, ei_load 0 2 77, 0, 0)) (e_L 77 (0, ei_load 3 0 78, 0, 0)))) (e_T 78 (e_L 78 (0, ei_load 2 0 79, 0, 0)) (e_T 79 (e_L 79 (0, ei_bin eF_add 80, 0, 0)) (e_L 80 (2, e_nof, 52, 2))))) (e_T 87 (e_T 83 (e_L 83 (0, ei_goto 241, 0, 0)) (e_T 86 (e_L 86 (0, ei_load 0 2 87, 0, 0)) (e_L 87 (0, ei_load 3 0 88, 0, 0)))) (e_T 89 (e_T 88 (e_L 88 (0, ei_load 2 0 89, 0, 0)) (e_L 89 (0, ei_bin eF_sub 90, 0, 0))) (e_T 90 (e_L 90 (2, e_nof, 52, 2)) (e_L 93 (0, ei_goto 241, 0, 0)))))))
set_option maxRecDepth 20000 in
set_option maxHeartbeats 4000000 in
theorem te_58_0_ok : ∀ pc, e_EOq eft cls elay eI n_58 pc (te_58_0 pc) :=
  (e_Tok2
  (e_Tok2
  (e_Tok2
  (e_Tok2
  (e_Lok (ld_iload_n_1 (x_dk dn_58_0_0_ok 0 rfl)))
  (e_Tok2
  (e_Lok (ps_bipush_17 (x_dk dn_58_0_0_ok 1 rfl)))
  (e_Lok (e_st (I := eI) (er_icmpeq (off := 9) (tg := 12) (x_dk dn_58_0_0_ok 2 rfl) (by decide)) nx_if2))))
  (e_Tok2
  (e_Lok (ld_iload_n_1 (x_dk dn_58_0_0_ok 3 rfl)))
  (e_Tok2
  (e_Lok (ps_bipush_18 (x_dk dn_58_0_0_ok 4 rfl)))
  (e_Lok (e_st (I := eI) (er_icmpne (off := 13) (tg := 22) (x_dk dn_58_0_0_ok 5 rfl) (by decide)) nx_if2)))))
  (e_Tok2
  (e_Tok2
  (e_Lok (ld_iload_n_2 (x_dk dn_58_0_0_ok 6 rfl)))
  (e_Tok2
  (e_Lok (e_st (I := eI) (er_ifne (off := 9) (tg := 22) (x_dk dn_58_0_0_ok 7 rfl) (by decide)) nx_if1))
  (e_Lok (ld_aload_n_0 (x_dk dn_58_0_0_ok 8 rfl)))))
  (e_Tok2
  (e_Tok2
  (e_Lok (ps_iconst_1 (x_dk dn_58_0_0_ok 9 rfl)))
  (e_Lok (lk_3_199 ho_58 (x_dk dn_58_0_0_ok 10 rfl))))
  (e_Tok2
  (e_Lok (e_rt (I := eI) (k := 0) ⟨(x_dk dn_58_0_0_ok 11 rfl), rfl⟩))
  (e_Lok (ld_iload_n_1 (x_dk dn_58_0_0_ok 12 rfl)))))))
  (e_Tok2
  (e_Tok2
  (e_Tok2
  (e_Lok (e_st (I := eI) (er_tsw (dflt := 204) (lo := 14) (hi := 23) (offs := #[53, 63, 73, 83, 101, 119, 136, 153, 170, 187]) (len := 53) (n := 10) (x_dk dn_58_0_0_ok 13 rfl) (by decide) (by decide +kernel)) nx_sw))
  (e_Tok2
  (e_Lok (ld_aload_n_0 (x_dk dn_58_0_0_ok 14 rfl)))
  (e_Lok (ld_iload_n_3 (x_dk dn_58_0_0_ok 15 rfl)))))
  (e_Tok2
  (e_Lok (ld_iload_n_2 (x_dk dn_58_0_0_ok 16 rfl)))
  (e_Tok2
  (e_Lok (sm_iadd (x_dk dn_58_0_0_ok 17 rfl)))
  (e_Lok (lk_3_239 ho_58 (x_dk dn_58_0_0_ok 18 rfl))))))
  (e_Tok2
  (e_Tok2
  (e_Lok (e_st (I := eI) (er_goto (off := 158) (tg := 241) (x_dk dn_58_0_0_ok 19 rfl) (by decide)) nx_goto))
  (e_Tok2
  (e_Lok (ld_aload_n_0 (x_dk dn_58_0_0_ok 20 rfl)))
  (e_Lok (ld_iload_n_3 (x_dk dn_58_0_0_ok 21 rfl)))))
  (e_Tok2
  (e_Tok2
  (e_Lok (ld_iload_n_2 (x_dk dn_58_0_0_ok 22 rfl)))
  (e_Lok (sm_isub (x_dk dn_58_0_0_ok 23 rfl))))
  (e_Tok2
  (e_Lok (lk_3_239 ho_58 (x_dk dn_58_0_0_ok 24 rfl)))
  (e_Lok (e_st (I := eI) (er_goto (off := 148) (tg := 241) (x_dk dn_58_0_1_ok 0 rfl) (by decide)) nx_goto)))))))
def te_58_26 : Nat → eE := (e_T 116 (e_T 103 (e_T 98 (e_T 96 (e_L 96 (0, ei_load 0 2 97, 0, 0)) (e_T 97 (e_L 97 (0, ei_load 3 0 98, 0, 0)) (e_L 98 (0, ei_load 2 0 99, 0, 0)))) (e_T 99 (e_L 99 (0, ei_bin eF_mul 100, 0, 0)) (e_T 100 (e_L 100 (2, e_nof, 52, 2)) (e_L 103 (0, ei_goto 241, 0, 0))))) (e_T 108 (e_T 106 (e_L 106 (0, ei_load 0 2 107, 0, 0)) (e_T 107 (e_L 107 (0, ei_load 2 0 108, 0, 0)) (e_L 108 (0, ei_if1 1 115 111, 0, 0)))) (e_T 112 (e_T 111 (e_L 111 (0, ei_push (0, 0) 112, 0, 0)) (e_L 112 (0, ei_goto 118, 0, 0))) (e_T 115 (e_L 115 (0, ei_load 3 0 116, 0, 0)) (e_L 116 (0, ei_load 2 0 117, 0, 0)))))) (e_T 129 (e_T 121 (e_T 117 (e_L 117 (0, ei_bin eF_div 118, 0, 0)) (e_T 118 (e_L 118 (2, e_nof, 52, 2)) (e_L 121 (0, ei_goto 241, 0, 0)))) (e_T 125 (e_T 124 (e_L 124 (0, ei_load 0 2 125, 0, 0)) (e_L 125 (0, ei_load 2 0 126, 0, 0))) (e_T 126 (e_L 126 (0, ei_if1 1 133 129, 0, 0)) (e_L 129 (0, ei_push (0, 0) 130, 0, 0))))) (e_T 134 (e_T 130 (e_L 130 (0, ei_goto 136, 0, 0)) (e_T 133 (e_L 133 (0, ei_load 3 0 134, 0, 0)) (e_L 134 (0, ei_load 2 0 135, 0, 0)))) (e_T 136 (e_T 135 (e_L 135 (0, ei_bin eF_rem 136, 0, 0)) (e_L 136 (2, e_nof, 52, 2))) (e_T 139 (e_L 139 (0, ei_goto 241, 0, 0)) (e_L 142 (0, ei_load 0 2 143, 0, 0)))))))
set_option maxRecDepth 20000 in
set_option maxHeartbeats 4000000 in
theorem te_58_26_ok : ∀ pc, e_EOq eft cls elay eI n_58 pc (te_58_26 pc) :=
  (e_Tok2
  (e_Tok2
  (e_Tok2
  (e_Tok2
  (e_Lok (ld_aload_n_0 (x_dk dn_58_0_1_ok 1 rfl)))
  (e_Tok2
  (e_Lok (ld_iload_n_3 (x_dk dn_58_0_1_ok 2 rfl)))
  (e_Lok (ld_iload_n_2 (x_dk dn_58_0_1_ok 3 rfl)))))
  (e_Tok2
  (e_Lok (sm_imul (x_dk dn_58_0_1_ok 4 rfl)))
  (e_Tok2
  (e_Lok (lk_3_239 ho_58 (x_dk dn_58_0_1_ok 5 rfl)))
  (e_Lok (e_st (I := eI) (er_goto (off := 138) (tg := 241) (x_dk dn_58_0_1_ok 6 rfl) (by decide)) nx_goto)))))
  (e_Tok2
  (e_Tok2
  (e_Lok (ld_aload_n_0 (x_dk dn_58_0_1_ok 7 rfl)))
  (e_Tok2
  (e_Lok (ld_iload_n_2 (x_dk dn_58_0_1_ok 8 rfl)))
  (e_Lok (e_st (I := eI) (er_ifne (off := 7) (tg := 115) (x_dk dn_58_0_1_ok 9 rfl) (by decide)) nx_if1))))
  (e_Tok2
  (e_Tok2
  (e_Lok (ps_iconst_0 (x_dk dn_58_0_1_ok 10 rfl)))
  (e_Lok (e_st (I := eI) (er_goto (off := 6) (tg := 118) (x_dk dn_58_0_1_ok 11 rfl) (by decide)) nx_goto)))
  (e_Tok2
  (e_Lok (ld_iload_n_3 (x_dk dn_58_0_1_ok 12 rfl)))
  (e_Lok (ld_iload_n_2 (x_dk dn_58_0_1_ok 13 rfl)))))))
  (e_Tok2
  (e_Tok2
  (e_Tok2
  (e_Lok (e_st (I := eI) (er_idiv (x_dk dn_58_0_1_ok 14 rfl)) nx_bin))
  (e_Tok2
  (e_Lok (lk_3_239 ho_58 (x_dk dn_58_0_1_ok 15 rfl)))
  (e_Lok (e_st (I := eI) (er_goto (off := 120) (tg := 241) (x_dk dn_58_0_1_ok 16 rfl) (by decide)) nx_goto))))
  (e_Tok2
  (e_Tok2
  (e_Lok (ld_aload_n_0 (x_dk dn_58_0_1_ok 17 rfl)))
  (e_Lok (ld_iload_n_2 (x_dk dn_58_0_1_ok 18 rfl))))
  (e_Tok2
  (e_Lok (e_st (I := eI) (er_ifne (off := 7) (tg := 133) (x_dk dn_58_0_1_ok 19 rfl) (by decide)) nx_if1))
  (e_Lok (ps_iconst_0 (x_dk dn_58_0_1_ok 20 rfl))))))
  (e_Tok2
  (e_Tok2
  (e_Lok (e_st (I := eI) (er_goto (off := 6) (tg := 136) (x_dk dn_58_0_1_ok 21 rfl) (by decide)) nx_goto))
  (e_Tok2
  (e_Lok (ld_iload_n_3 (x_dk dn_58_0_1_ok 22 rfl)))
  (e_Lok (ld_iload_n_2 (x_dk dn_58_0_1_ok 23 rfl)))))
  (e_Tok2
  (e_Tok2
  (e_Lok (e_st (I := eI) (er_irem (x_dk dn_58_0_1_ok 24 rfl)) nx_bin))
  (e_Lok (lk_3_239 ho_58 (x_dk dn_58_0_2_ok 0 rfl))))
  (e_Tok2
  (e_Lok (e_st (I := eI) (er_goto (off := 102) (tg := 241) (x_dk dn_58_0_2_ok 1 rfl) (by decide)) nx_goto))
  (e_Lok (ld_aload_n_0 (x_dk dn_58_0_2_ok 2 rfl))))))))
def te_58_53 : Nat → eE := (e_T 165 (e_T 152 (e_T 145 (e_T 143 (e_L 143 (0, ei_load 3 0 144, 0, 0)) (e_T 144 (e_L 144 (0, ei_load 2 0 145, 0, 0)) (e_L 145 (0, ei_if2 1 152 148, 0, 0)))) (e_T 148 (e_L 148 (0, ei_push (0, 1) 149, 0, 0)) (e_T 149 (e_L 149 (0, ei_goto 153, 0, 0)) (e_L 152 (0, ei_push (0, 0) 153, 0, 0))))) (e_T 159 (e_T 153 (e_L 153 (2, e_nof, 52, 2)) (e_T 156 (e_L 156 (0, ei_goto 241, 0, 0)) (e_L 159 (0, ei_load 0 2 160, 0, 0)))) (e_T 161 (e_T 160 (e_L 160 (0, ei_load 3 0 161, 0, 0)) (e_L 161 (0, ei_load 2 0 162, 0, 0))) (e_T 162 (e_L 162 (0, ei_if2 0 169 165, 0, 0)) (e_L 165 (0, ei_push (0, 1) 166, 0, 0)))))) (e_T 177 (e_T 170 (e_T 166 (e_L 166 (0, ei_goto 170, 0, 0)) (e_T 169 (e_L 169 (0, ei_push (0, 0) 170, 0, 0)) (e_L 170 (2, e_nof, 52, 2)))) (e_T 173 (e_L 173 (0, ei_goto 241, 0, 0)) (e_T 176 (e_L 176 (0, ei_load 0 2 177, 0, 0)) (e_L 177 (0, ei_load 3 0 178, 0, 0))))) (e_T 182 (e_T 178 (e_L 178 (0, ei_load 2 0 179, 0, 0)) (e_T 179 (e_L 179 (0, ei_if2 3 186 182, 0, 0)) (e_L 182 (0, ei_push (0, 1) 183, 0, 0)))) (e_T 186 (e_T 183 (e_L 183 (0, ei_goto 187, 0, 0)) (e_L 186 (0, ei_push (0, 0) 187, 0, 0))) (e_T 187 (e_L 187 (2, e_nof, 52, 2)) (e_L 190 (0, ei_goto 241, 0, 0)))))))
set_option maxRecDepth 20000 in
set_option maxHeartbeats 4000000 in
theorem te_58_53_ok : ∀ pc, e_EOq eft cls elay eI n_58 pc (te_58_53 pc) :=
  (e_Tok2
  (e_Tok2
  (e_Tok2
  (e_Tok2
  (e_Lok (ld_iload_n_3 (x_dk dn_58_0_2_ok 3 rfl)))
  (e_Tok2
  (e_Lok (ld_iload_n_2 (x_dk dn_58_0_2_ok 4 rfl)))
  (e_Lok (e_st (I := eI) (er_icmpne (off := 7) (tg := 152) (x_dk dn_58_0_2_ok 5 rfl) (by decide)) nx_if2))))
  (e_Tok2
  (e_Lok (ps_iconst_1 (x_dk dn_58_0_2_ok 6 rfl)))
  (e_Tok2
  (e_Lok (e_st (I := eI) (er_goto (off := 4) (tg := 153) (x_dk dn_58_0_2_ok 7 rfl) (by decide)) nx_goto))
  (e_Lok (ps_iconst_0 (x_dk dn_58_0_2_ok 8 rfl))))))
  (e_Tok2
  (e_Tok2
  (e_Lok (lk_3_239 ho_58 (x_dk dn_58_0_2_ok 9 rfl)))
  (e_Tok2
  (e_Lok (e_st (I := eI) (er_goto (off := 85) (tg := 241) (x_dk dn_58_0_2_ok 10 rfl) (by decide)) nx_goto))
  (e_Lok (ld_aload_n_0 (x_dk dn_58_0_2_ok 11 rfl)))))
  (e_Tok2
  (e_Tok2
  (e_Lok (ld_iload_n_3 (x_dk dn_58_0_2_ok 12 rfl)))
  (e_Lok (ld_iload_n_2 (x_dk dn_58_0_2_ok 13 rfl))))
  (e_Tok2
  (e_Lok (e_st (I := eI) (er_icmpeq (off := 7) (tg := 169) (x_dk dn_58_0_2_ok 14 rfl) (by decide)) nx_if2))
  (e_Lok (ps_iconst_1 (x_dk dn_58_0_2_ok 15 rfl)))))))
  (e_Tok2
  (e_Tok2
  (e_Tok2
  (e_Lok (e_st (I := eI) (er_goto (off := 4) (tg := 170) (x_dk dn_58_0_2_ok 16 rfl) (by decide)) nx_goto))
  (e_Tok2
  (e_Lok (ps_iconst_0 (x_dk dn_58_0_2_ok 17 rfl)))
  (e_Lok (lk_3_239 ho_58 (x_dk dn_58_0_2_ok 18 rfl)))))
  (e_Tok2
  (e_Lok (e_st (I := eI) (er_goto (off := 68) (tg := 241) (x_dk dn_58_0_2_ok 19 rfl) (by decide)) nx_goto))
  (e_Tok2
  (e_Lok (ld_aload_n_0 (x_dk dn_58_0_2_ok 20 rfl)))
  (e_Lok (ld_iload_n_3 (x_dk dn_58_0_2_ok 21 rfl))))))
  (e_Tok2
  (e_Tok2
  (e_Lok (ld_iload_n_2 (x_dk dn_58_0_2_ok 22 rfl)))
  (e_Tok2
  (e_Lok (e_st (I := eI) (er_icmpge (off := 7) (tg := 186) (x_dk dn_58_0_2_ok 23 rfl) (by decide)) nx_if2))
  (e_Lok (ps_iconst_1 (x_dk dn_58_0_2_ok 24 rfl)))))
  (e_Tok2
  (e_Tok2
  (e_Lok (e_st (I := eI) (er_goto (off := 4) (tg := 187) (x_dk dn_58_0_3_ok 0 rfl) (by decide)) nx_goto))
  (e_Lok (ps_iconst_0 (x_dk dn_58_0_3_ok 1 rfl))))
  (e_Tok2
  (e_Lok (lk_3_239 ho_58 (x_dk dn_58_0_3_ok 2 rfl)))
  (e_Lok (e_st (I := eI) (er_goto (off := 51) (tg := 241) (x_dk dn_58_0_3_ok 3 rfl) (by decide)) nx_goto)))))))
def te_58_79 : Nat → eE := (e_T 213 (e_T 200 (e_T 195 (e_T 193 (e_L 193 (0, ei_load 0 2 194, 0, 0)) (e_T 194 (e_L 194 (0, ei_load 3 0 195, 0, 0)) (e_L 195 (0, ei_load 2 0 196, 0, 0)))) (e_T 196 (e_L 196 (0, ei_if2 4 203 199, 0, 0)) (e_T 199 (e_L 199 (0, ei_push (0, 1) 200, 0, 0)) (e_L 200 (0, ei_goto 204, 0, 0))))) (e_T 207 (e_T 203 (e_L 203 (0, ei_push (0, 0) 204, 0, 0)) (e_T 204 (e_L 204 (2, e_nof, 52, 2)) (e_L 207 (0, ei_goto 241, 0, 0)))) (e_T 211 (e_T 210 (e_L 210 (0, ei_load 0 2 211, 0, 0)) (e_L 211 (0, ei_load 3 0 212, 0, 0))) (e_T 212 (e_L 212 (0, ei_load 2 0 213, 0, 0)) (e_L 213 (0, ei_if2 5 220 216, 0, 0)))))) (e_T 228 (e_T 220 (e_T 216 (e_L 216 (0, ei_push (0, 1) 217, 0, 0)) (e_T 217 (e_L 217 (0, ei_goto 221, 0, 0)) (e_L 220 (0, ei_push (0, 0) 221, 0, 0)))) (e_T 224 (e_T 221 (e_L 221 (2, e_nof, 52, 2)) (e_L 224 (0, ei_goto 241, 0, 0))) (e_T 227 (e_L 227 (0, ei_load 0 2 228, 0, 0)) (e_L 228 (0, ei_load 3 0 229, 0, 0))))) (e_T 233 (e_T 229 (e_L 229 (0, ei_load 2 0 230, 0, 0)) (e_T 230 (e_L 230 (0, ei_if2 2 237 233, 0, 0)) (e_L 233 (0, ei_push (0, 1) 234, 0, 0)))) (e_T 237 (e_T 234 (e_L 234 (0, ei_goto 238, 0, 0)) (e_L 237 (0, ei_push (0, 0) 238, 0, 0))) (e_T 238 (e_L 238 (2, e_nof, 52, 2)) (e_L 241 (1, e_nof, 0, 0)))))))
set_option maxRecDepth 20000 in
set_option maxHeartbeats 4000000 in
theorem te_58_79_ok : ∀ pc, e_EOq eft cls elay eI n_58 pc (te_58_79 pc) :=
  (e_Tok2
  (e_Tok2
  (e_Tok2
  (e_Tok2
  (e_Lok (ld_aload_n_0 (x_dk dn_58_0_3_ok 4 rfl)))
  (e_Tok2
  (e_Lok (ld_iload_n_3 (x_dk dn_58_0_3_ok 5 rfl)))
  (e_Lok (ld_iload_n_2 (x_dk dn_58_0_3_ok 6 rfl)))))
  (e_Tok2
  (e_Lok (e_st (I := eI) (er_icmpgt (off := 7) (tg := 203) (x_dk dn_58_0_3_ok 7 rfl) (by decide)) nx_if2))
  (e_Tok2
  (e_Lok (ps_iconst_1 (x_dk dn_58_0_3_ok 8 rfl)))
  (e_Lok (e_st (I := eI) (er_goto (off := 4) (tg := 204) (x_dk dn_58_0_3_ok 9 rfl) (by decide)) nx_goto)))))
  (e_Tok2
  (e_Tok2
  (e_Lok (ps_iconst_0 (x_dk dn_58_0_3_ok 10 rfl)))
  (e_Tok2
  (e_Lok (lk_3_239 ho_58 (x_dk dn_58_0_3_ok 11 rfl)))
  (e_Lok (e_st (I := eI) (er_goto (off := 34) (tg := 241) (x_dk dn_58_0_3_ok 12 rfl) (by decide)) nx_goto))))
  (e_Tok2
  (e_Tok2
  (e_Lok (ld_aload_n_0 (x_dk dn_58_0_3_ok 13 rfl)))
  (e_Lok (ld_iload_n_3 (x_dk dn_58_0_3_ok 14 rfl))))
  (e_Tok2
  (e_Lok (ld_iload_n_2 (x_dk dn_58_0_3_ok 15 rfl)))
  (e_Lok (e_st (I := eI) (er_icmple (off := 7) (tg := 220) (x_dk dn_58_0_3_ok 16 rfl) (by decide)) nx_if2))))))
  (e_Tok2
  (e_Tok2
  (e_Tok2
  (e_Lok (ps_iconst_1 (x_dk dn_58_0_3_ok 17 rfl)))
  (e_Tok2
  (e_Lok (e_st (I := eI) (er_goto (off := 4) (tg := 221) (x_dk dn_58_0_3_ok 18 rfl) (by decide)) nx_goto))
  (e_Lok (ps_iconst_0 (x_dk dn_58_0_3_ok 19 rfl)))))
  (e_Tok2
  (e_Tok2
  (e_Lok (lk_3_239 ho_58 (x_dk dn_58_0_3_ok 20 rfl)))
  (e_Lok (e_st (I := eI) (er_goto (off := 17) (tg := 241) (x_dk dn_58_0_3_ok 21 rfl) (by decide)) nx_goto)))
  (e_Tok2
  (e_Lok (ld_aload_n_0 (x_dk dn_58_0_3_ok 22 rfl)))
  (e_Lok (ld_iload_n_3 (x_dk dn_58_0_3_ok 23 rfl))))))
  (e_Tok2
  (e_Tok2
  (e_Lok (ld_iload_n_2 (x_dk dn_58_0_3_ok 24 rfl)))
  (e_Tok2
  (e_Lok (e_st (I := eI) (er_icmplt (off := 7) (tg := 237) (x_dk dn_58_1_0_ok 0 rfl) (by decide)) nx_if2))
  (e_Lok (ps_iconst_1 (x_dk dn_58_1_0_ok 1 rfl)))))
  (e_Tok2
  (e_Tok2
  (e_Lok (e_st (I := eI) (er_goto (off := 4) (tg := 238) (x_dk dn_58_1_0_ok 2 rfl) (by decide)) nx_goto))
  (e_Lok (ps_iconst_0 (x_dk dn_58_1_0_ok 3 rfl))))
  (e_Tok2
  (e_Lok (lk_3_239 ho_58 (x_dk dn_58_1_0_ok 4 rfl)))
  (e_Lok (e_rt (I := eI) (k := 0) ⟨(x_dk dn_58_1_0_ok 5 rfl), rfl⟩)))))))
def te_58 : Nat → eE := (e_T 142 (e_T 93 te_58_0 te_58_26) (e_T 190 te_58_53 te_58_79))
theorem te_58_ok : ∀ pc, e_EOq eft cls elay eI n_58 pc (te_58 pc) := (e_Tok2 ((e_Tok2 (te_58_0_ok) (te_58_26_ok))) ((e_Tok2 (te_58_53_ok) (te_58_79_ok))))
theorem ho_59 : (xm_y n_59).cls = "RobotCellHouse$Doer" := rfl
def dn_59_0_0 : List (Nat × Instr × Nat) := [(0, .iload_n 3, 1), (1, .tableswitch 278 25 38 #[71, 93, 106, 116, 128, 142, 157, 169, 181, 204, 226, 237, 256, 267], 71), (72, .aload_n 0, 1), (73, .getfield 11, 3), (76, .aload_n 1, 1), (77, .getfield 127, 3), (80, .aaload, 1), (81, .getfield 242, 3), (84, .iload 4, 2), (86, .aload_n 0, 1), (87, .invokevirtual 166, 3), (90, .iastore, 1), (91, .goto 199, 3), (94, .aload_n 0, 1), (95, .iload 4, 2), (97, .aload_n 0, 1), (98, .invokevirtual 166, 3), (101, .invokevirtual 278, 3), (104, .goto 186, 3), (107, .aload_n 0, 1), (108, .aload_n 1, 1), (109, .iload 4, 2), (111, .invokevirtual 282, 3), (114, .goto 176, 3), (117, .aload_n 0, 1)]
set_option maxRecDepth 20000 in
theorem dn_59_0_0_ok : dn_59_0_0.all (fun q => decide (decode (xm_b n_59) q.1 = .ok (q.2.1, q.2.2))) = true := xa_g_ok (by decide +kernel)
def dn_59_0_1 : List (Nat × Instr × Nat) := [(118, .aload_n 1, 1), (119, .aload_n 0, 1), (120, .invokevirtual 166, 3), (123, .invokevirtual 285, 3), (126, .goto 164, 3), (129, .aload_n 0, 1), (130, .aload_n 1, 1), (131, .aload_n 0, 1), (132, .invokevirtual 166, 3), (135, .iload 4, 2), (137, .invokevirtual 288, 3), (140, .goto 150, 3), (143, .aload_n 0, 1), (144, .aload_n 0, 1), (145, .invokevirtual 166, 3), (148, .aload_n 0, 1), (149, .invokevirtual 166, 3), (152, .invokevirtual 291, 3), (155, .goto 135, 3), (158, .aload_n 0, 1), (159, .aload_n 1, 1), (160, .aload_n 0, 1), (161, .invokevirtual 166, 3), (164, .invokevirtual 294, 3), (167, .goto 123, 3)]
set_option maxRecDepth 20000 in
theorem dn_59_0_1_ok : dn_59_0_1.all (fun q => decide (decode (xm_b n_59) q.1 = .ok (q.2.1, q.2.2))) = true := xa_g_ok (by decide +kernel)
def dn_59_0_2 : List (Nat × Instr × Nat) := [(170, .aload_n 0, 1), (171, .aload_n 1, 1), (172, .aload_n 0, 1), (173, .invokevirtual 166, 3), (176, .invokevirtual 297, 3), (179, .goto 111, 3), (182, .aload_n 1, 1), (183, .aload_n 2, 1), (184, .getfield 82, 3), (187, .iload 4, 2), (189, .iaload, 1), (190, .invokevirtual 220, 3), (193, .ifCond .ne 97, 3), (196, .aload_n 0, 1), (197, .bipush 8, 2), (199, .invokevirtual 199, 3), (202, .goto 88, 3), (205, .aload_n 0, 1), (206, .aload_n 1, 1), (207, .getfield 127, 3), (210, .iload 4, 2), (212, .invokevirtual 300, 3), (215, .ifCond .ge 75, 3), (218, .aload_n 0, 1), (219, .bipush 10, 2)]
set_option maxRecDepth 20000 in
theorem dn_59_0_2_ok : dn_59_0_2.all (fun q => decide (decode (xm_b n_59) q.1 = .ok (q.2.1, q.2.2))) = true := xa_g_ok (by decide +kernel)
def dn_59_0_3 : List (Nat × Instr × Nat) := [(221, .invokevirtual 199, 3), (224, .goto 66, 3), (227, .aload_n 0, 1), (228, .aload_n 0, 1), (229, .invokevirtual 166, 3), (232, .invokevirtual 199, 3), (235, .goto 55, 3), (238, .aload_n 0, 1), (239, .getfield 34, 3), (242, .iconst 1, 1), (243, .aload_n 1, 1), (244, .getfield 196, 3), (247, .aload_n 0, 1), (248, .invokevirtual 166, 3), (251, .invokevirtual 108, 3), (254, .goto 36, 3), (257, .aload_n 0, 1), (258, .aload_n 1, 1), (259, .getfield 127, 3), (262, .invokevirtual 303, 3), (265, .goto 25, 3), (268, .aload_n 0, 1), (269, .aload_n 1, 1), (270, .getfield 127, 3), (273, .invokevirtual 306, 3)]
set_option maxRecDepth 20000 in
theorem dn_59_0_3_ok : dn_59_0_3.all (fun q => decide (decode (xm_b n_59) q.1 = .ok (q.2.1, q.2.2))) = true := xa_g_ok (by decide +kernel)
def dn_59_1_0 : List (Nat × Instr × Nat) := [(276, .goto 14, 3), (279, .aload_n 0, 1), (280, .aload_n 1, 1), (281, .aload_n 0, 1), (282, .invokevirtual 166, 3), (285, .iload 4, 2), (287, .invokevirtual 309, 3), (290, .return_, 1)]
set_option maxRecDepth 20000 in
theorem dn_59_1_0_ok : dn_59_1_0.all (fun q => decide (decode (xm_b n_59) q.1 = .ok (q.2.1, q.2.2))) = true := xa_g_ok (by decide +kernel)
def te_59_0 : Nat → eE := (e_T 91 (e_T 77 (e_T 72 (e_T 0 (e_L 0 (0, ei_load 3 0 1, 0, 0)) (e_T 1 (e_L 1 (0, ei_sw [((-2147483648), 24, 279), (25, 25, 72), (26, 26, 94), (27, 27, 107), (28, 28, 117), (29, 29, 129), (30, 30, 143), (31, 31, 158), (32, 32, 170), (33, 33, 182), (34, 34, 205), (35, 35, 227), (36, 36, 238), (37, 37, 257), (38, 38, 268), (39, 2147483647, 279)], 0, 0)) (e_L 72 (0, ei_load 0 2 73, 0, 0)))) (e_T 73 (e_L 73 (0, ei_getf eft elay 3 0 76, 0, 0)) (e_T 76 (e_L 76 (0, ei_load 1 2 77, 0, 0)) (e_L 77 (0, ei_getf eft elay 10 2 80, 0, 0))))) (e_T 84 (e_T 80 (e_L 80 (0, ei_aald elay 81, 0, 0)) (e_T 81 (e_L 81 (0, ei_getf eft elay 0 6 84, 0, 0)) (e_L 84 (0, ei_load 4 0 86, 0, 0)))) (e_T 87 (e_T 86 (e_L 86 (0, ei_load 0 2 87, 0, 0)) (e_L 87 (2, e_nof, 53, 1))) (e_T 90 (e_L 90 (0, ei_ast elay false 91, 0, 0)) (e_L 91 (0, ei_goto 290, 0, 0)))))) (e_T 107 (e_T 97 (e_T 94 (e_L 94 (0, ei_load 0 2 95, 0, 0)) (e_T 95 (e_L 95 (0, ei_load 4 0 97, 0, 0)) (e_L 97 (0, ei_load 0 2 98, 0, 0)))) (e_T 101 (e_T 98 (e_L 98 (2, e_nof, 53, 1)) (e_L 101 (2, e_nof, 60, 3))) (e_T 104 (e_L 104 (0, ei_goto 290, 0, 0)) (e_L 107 (0, ei_load 0 2 108, 0, 0))))) (e_T 111 (e_T 108 (e_L 108 (0, ei_load 1 2 109, 0, 0)) (e_T 109 (e_L 109 (0, ei_load 4 0 111, 0, 0)) (e_L 111 (2, e_nof, 61, 3)))) (e_T 117 (e_T 114 (e_L 114 (0, ei_goto 290, 0, 0)) (e_L 117 (0, ei_load 0 2 118, 0, 0))) (e_T 118 (e_L 118 (0, ei_load 1 2 119, 0, 0)) (e_L 119 (0, ei_load 0 2 120, 0, 0)))))))
set_option maxRecDepth 20000 in
set_option maxHeartbeats 4000000 in
theorem te_59_0_ok : ∀ pc, e_EOq eft cls elay eI n_59 pc (te_59_0 pc) :=
  (e_Tok2
  (e_Tok2
  (e_Tok2
  (e_Tok2
  (e_Lok (ld_iload_n_3 (x_dk dn_59_0_0_ok 0 rfl)))
  (e_Tok2
  (e_Lok (e_st (I := eI) (er_tsw (dflt := 278) (lo := 25) (hi := 38) (offs := #[71, 93, 106, 116, 128, 142, 157, 169, 181, 204, 226, 237, 256, 267]) (len := 71) (n := 14) (x_dk dn_59_0_0_ok 1 rfl) (by decide) (by decide +kernel)) nx_sw))
  (e_Lok (ld_aload_n_0 (x_dk dn_59_0_0_ok 2 rfl)))))
  (e_Tok2
  (e_Lok (lk_3_11g ho_59 (x_dk dn_59_0_0_ok 3 rfl)))
  (e_Tok2
  (e_Lok (ld_aload_n_1 (x_dk dn_59_0_0_ok 4 rfl)))
  (e_Lok (lk_3_127g ho_59 (x_dk dn_59_0_0_ok 5 rfl))))))
  (e_Tok2
  (e_Tok2
  (e_Lok (e_st (I := eI) (er_aaload (x_dk dn_59_0_0_ok 6 rfl)) nx_aald))
  (e_Tok2
  (e_Lok (lk_3_242g ho_59 (x_dk dn_59_0_0_ok 7 rfl)))
  (e_Lok (ld_iload_4 (x_dk dn_59_0_0_ok 8 rfl)))))
  (e_Tok2
  (e_Tok2
  (e_Lok (ld_aload_n_0 (x_dk dn_59_0_0_ok 9 rfl)))
  (e_Lok (lk_3_166 ho_59 (x_dk dn_59_0_0_ok 10 rfl))))
  (e_Tok2
  (e_Lok (sm_iastore (x_dk dn_59_0_0_ok 11 rfl)))
  (e_Lok (e_st (I := eI) (er_goto (off := 199) (tg := 290) (x_dk dn_59_0_0_ok 12 rfl) (by decide)) nx_goto))))))
  (e_Tok2
  (e_Tok2
  (e_Tok2
  (e_Lok (ld_aload_n_0 (x_dk dn_59_0_0_ok 13 rfl)))
  (e_Tok2
  (e_Lok (ld_iload_4 (x_dk dn_59_0_0_ok 14 rfl)))
  (e_Lok (ld_aload_n_0 (x_dk dn_59_0_0_ok 15 rfl)))))
  (e_Tok2
  (e_Tok2
  (e_Lok (lk_3_166 ho_59 (x_dk dn_59_0_0_ok 16 rfl)))
  (e_Lok (lk_3_278 ho_59 (x_dk dn_59_0_0_ok 17 rfl))))
  (e_Tok2
  (e_Lok (e_st (I := eI) (er_goto (off := 186) (tg := 290) (x_dk dn_59_0_0_ok 18 rfl) (by decide)) nx_goto))
  (e_Lok (ld_aload_n_0 (x_dk dn_59_0_0_ok 19 rfl))))))
  (e_Tok2
  (e_Tok2
  (e_Lok (ld_aload_n_1 (x_dk dn_59_0_0_ok 20 rfl)))
  (e_Tok2
  (e_Lok (ld_iload_4 (x_dk dn_59_0_0_ok 21 rfl)))
  (e_Lok (lk_3_282 ho_59 (x_dk dn_59_0_0_ok 22 rfl)))))
  (e_Tok2
  (e_Tok2
  (e_Lok (e_st (I := eI) (er_goto (off := 176) (tg := 290) (x_dk dn_59_0_0_ok 23 rfl) (by decide)) nx_goto))
  (e_Lok (ld_aload_n_0 (x_dk dn_59_0_0_ok 24 rfl))))
  (e_Tok2
  (e_Lok (ld_aload_n_1 (x_dk dn_59_0_1_ok 0 rfl)))
  (e_Lok (ld_aload_n_0 (x_dk dn_59_0_1_ok 1 rfl))))))))
def te_59_27 : Nat → eE := (e_T 145 (e_T 131 (e_T 126 (e_T 120 (e_L 120 (2, e_nof, 53, 1)) (e_T 123 (e_L 123 (2, e_nof, 63, 3)) (e_L 126 (0, ei_goto 290, 0, 0)))) (e_T 129 (e_L 129 (0, ei_load 0 2 130, 0, 0)) (e_T 130 (e_L 130 (0, ei_load 1 2 131, 0, 0)) (e_L 131 (0, ei_load 0 2 132, 0, 0))))) (e_T 137 (e_T 132 (e_L 132 (2, e_nof, 53, 1)) (e_T 135 (e_L 135 (0, ei_load 4 0 137, 0, 0)) (e_L 137 (2, e_nof, 64, 4)))) (e_T 143 (e_T 140 (e_L 140 (0, ei_goto 290, 0, 0)) (e_L 143 (0, ei_load 0 2 144, 0, 0))) (e_T 144 (e_L 144 (0, ei_load 0 2 145, 0, 0)) (e_L 145 (2, e_nof, 53, 1)))))) (e_T 160 (e_T 152 (e_T 148 (e_L 148 (0, ei_load 0 2 149, 0, 0)) (e_T 149 (e_L 149 (2, e_nof, 53, 1)) (e_L 152 (2, e_nof, 65, 3)))) (e_T 158 (e_T 155 (e_L 155 (0, ei_goto 290, 0, 0)) (e_L 158 (0, ei_load 0 2 159, 0, 0))) (e_T 159 (e_L 159 (0, ei_load 1 2 160, 0, 0)) (e_L 160 (0, ei_load 0 2 161, 0, 0))))) (e_T 167 (e_T 161 (e_L 161 (2, e_nof, 53, 1)) (e_T 164 (e_L 164 (2, e_nof, 66, 3)) (e_L 167 (0, ei_goto 290, 0, 0)))) (e_T 171 (e_T 170 (e_L 170 (0, ei_load 0 2 171, 0, 0)) (e_L 171 (0, ei_load 1 2 172, 0, 0))) (e_T 172 (e_L 172 (0, ei_load 0 2 173, 0, 0)) (e_L 173 (2, e_nof, 53, 1)))))))
set_option maxRecDepth 20000 in
set_option maxHeartbeats 4000000 in
theorem te_59_27_ok : ∀ pc, e_EOq eft cls elay eI n_59 pc (te_59_27 pc) :=
  (e_Tok2
  (e_Tok2
  (e_Tok2
  (e_Tok2
  (e_Lok (lk_3_166 ho_59 (x_dk dn_59_0_1_ok 2 rfl)))
  (e_Tok2
  (e_Lok (lk_3_285 ho_59 (x_dk dn_59_0_1_ok 3 rfl)))
  (e_Lok (e_st (I := eI) (er_goto (off := 164) (tg := 290) (x_dk dn_59_0_1_ok 4 rfl) (by decide)) nx_goto))))
  (e_Tok2
  (e_Lok (ld_aload_n_0 (x_dk dn_59_0_1_ok 5 rfl)))
  (e_Tok2
  (e_Lok (ld_aload_n_1 (x_dk dn_59_0_1_ok 6 rfl)))
  (e_Lok (ld_aload_n_0 (x_dk dn_59_0_1_ok 7 rfl))))))
  (e_Tok2
  (e_Tok2
  (e_Lok (lk_3_166 ho_59 (x_dk dn_59_0_1_ok 8 rfl)))
  (e_Tok2
  (e_Lok (ld_iload_4 (x_dk dn_59_0_1_ok 9 rfl)))
  (e_Lok (lk_3_288 ho_59 (x_dk dn_59_0_1_ok 10 rfl)))))
  (e_Tok2
  (e_Tok2
  (e_Lok (e_st (I := eI) (er_goto (off := 150) (tg := 290) (x_dk dn_59_0_1_ok 11 rfl) (by decide)) nx_goto))
  (e_Lok (ld_aload_n_0 (x_dk dn_59_0_1_ok 12 rfl))))
  (e_Tok2
  (e_Lok (ld_aload_n_0 (x_dk dn_59_0_1_ok 13 rfl)))
  (e_Lok (lk_3_166 ho_59 (x_dk dn_59_0_1_ok 14 rfl)))))))
  (e_Tok2
  (e_Tok2
  (e_Tok2
  (e_Lok (ld_aload_n_0 (x_dk dn_59_0_1_ok 15 rfl)))
  (e_Tok2
  (e_Lok (lk_3_166 ho_59 (x_dk dn_59_0_1_ok 16 rfl)))
  (e_Lok (lk_3_291 ho_59 (x_dk dn_59_0_1_ok 17 rfl)))))
  (e_Tok2
  (e_Tok2
  (e_Lok (e_st (I := eI) (er_goto (off := 135) (tg := 290) (x_dk dn_59_0_1_ok 18 rfl) (by decide)) nx_goto))
  (e_Lok (ld_aload_n_0 (x_dk dn_59_0_1_ok 19 rfl))))
  (e_Tok2
  (e_Lok (ld_aload_n_1 (x_dk dn_59_0_1_ok 20 rfl)))
  (e_Lok (ld_aload_n_0 (x_dk dn_59_0_1_ok 21 rfl))))))
  (e_Tok2
  (e_Tok2
  (e_Lok (lk_3_166 ho_59 (x_dk dn_59_0_1_ok 22 rfl)))
  (e_Tok2
  (e_Lok (lk_3_294 ho_59 (x_dk dn_59_0_1_ok 23 rfl)))
  (e_Lok (e_st (I := eI) (er_goto (off := 123) (tg := 290) (x_dk dn_59_0_1_ok 24 rfl) (by decide)) nx_goto))))
  (e_Tok2
  (e_Tok2
  (e_Lok (ld_aload_n_0 (x_dk dn_59_0_2_ok 0 rfl)))
  (e_Lok (ld_aload_n_1 (x_dk dn_59_0_2_ok 1 rfl))))
  (e_Tok2
  (e_Lok (ld_aload_n_0 (x_dk dn_59_0_2_ok 2 rfl)))
  (e_Lok (lk_3_166 ho_59 (x_dk dn_59_0_2_ok 3 rfl))))))))
def te_59_54 : Nat → eE := (e_T 202 (e_T 187 (e_T 182 (e_T 176 (e_L 176 (2, e_nof, 67, 3)) (e_T 179 (e_L 179 (0, ei_goto 290, 0, 0)) (e_L 182 (0, ei_load 1 2 183, 0, 0)))) (e_T 183 (e_L 183 (0, ei_load 2 2 184, 0, 0)) (e_T 184 (e_L 184 (0, ei_getf eft elay 1 3 187, 0, 0)) (e_L 187 (0, ei_load 4 0 189, 0, 0))))) (e_T 193 (e_T 189 (e_L 189 (0, ei_ald elay false 190, 0, 0)) (e_T 190 (e_L 190 (2, e_nof, 182, 2)) (e_L 193 (0, ei_if1 1 290 196, 0, 0)))) (e_T 197 (e_T 196 (e_L 196 (0, ei_load 0 2 197, 0, 0)) (e_L 197 (0, ei_push (0, 8) 199, 0, 0))) (e_T 199 (e_L 199 (2, e_nof, 46, 2)) (e_L 202 (0, ei_goto 290, 0, 0)))))) (e_T 218 (e_T 207 (e_T 205 (e_L 205 (0, ei_load 0 2 206, 0, 0)) (e_T 206 (e_L 206 (0, ei_load 1 2 207, 0, 0)) (e_L 207 (0, ei_getf eft elay 10 2 210, 0, 0)))) (e_T 212 (e_T 210 (e_L 210 (0, ei_load 4 0 212, 0, 0)) (e_L 212 (2, e_nof, 37, 3))) (e_T 215 (e_L 215 (0, ei_if1 3 290 218, 0, 0)) (e_L 218 (0, ei_load 0 2 219, 0, 0))))) (e_T 224 (e_T 219 (e_L 219 (0, ei_push (0, 10) 221, 0, 0)) (e_T 221 (e_L 221 (2, e_nof, 46, 2)) (e_L 224 (0, ei_goto 290, 0, 0)))) (e_T 228 (e_T 227 (e_L 227 (0, ei_load 0 2 228, 0, 0)) (e_L 228 (0, ei_load 0 2 229, 0, 0))) (e_T 229 (e_L 229 (2, e_nof, 53, 1)) (e_L 232 (2, e_nof, 46, 2)))))))
set_option maxRecDepth 20000 in
set_option maxHeartbeats 4000000 in
theorem te_59_54_ok : ∀ pc, e_EOq eft cls elay eI n_59 pc (te_59_54 pc) :=
  (e_Tok2
  (e_Tok2
  (e_Tok2
  (e_Tok2
  (e_Lok (lk_3_297 ho_59 (x_dk dn_59_0_2_ok 4 rfl)))
  (e_Tok2
  (e_Lok (e_st (I := eI) (er_goto (off := 111) (tg := 290) (x_dk dn_59_0_2_ok 5 rfl) (by decide)) nx_goto))
  (e_Lok (ld_aload_n_1 (x_dk dn_59_0_2_ok 6 rfl)))))
  (e_Tok2
  (e_Lok (ld_aload_n_2 (x_dk dn_59_0_2_ok 7 rfl)))
  (e_Tok2
  (e_Lok (lk_3_82g ho_59 (x_dk dn_59_0_2_ok 8 rfl)))
  (e_Lok (ld_iload_4 (x_dk dn_59_0_2_ok 9 rfl))))))
  (e_Tok2
  (e_Tok2
  (e_Lok (sm_iaload (x_dk dn_59_0_2_ok 10 rfl)))
  (e_Tok2
  (e_Lok (lk_3_220 ho_59 (x_dk dn_59_0_2_ok 11 rfl)))
  (e_Lok (e_st (I := eI) (er_ifne (off := 97) (tg := 290) (x_dk dn_59_0_2_ok 12 rfl) (by decide)) nx_if1))))
  (e_Tok2
  (e_Tok2
  (e_Lok (ld_aload_n_0 (x_dk dn_59_0_2_ok 13 rfl)))
  (e_Lok (ps_bipush_8 (x_dk dn_59_0_2_ok 14 rfl))))
  (e_Tok2
  (e_Lok (lk_3_199 ho_59 (x_dk dn_59_0_2_ok 15 rfl)))
  (e_Lok (e_st (I := eI) (er_goto (off := 88) (tg := 290) (x_dk dn_59_0_2_ok 16 rfl) (by decide)) nx_goto))))))
  (e_Tok2
  (e_Tok2
  (e_Tok2
  (e_Lok (ld_aload_n_0 (x_dk dn_59_0_2_ok 17 rfl)))
  (e_Tok2
  (e_Lok (ld_aload_n_1 (x_dk dn_59_0_2_ok 18 rfl)))
  (e_Lok (lk_3_127g ho_59 (x_dk dn_59_0_2_ok 19 rfl)))))
  (e_Tok2
  (e_Tok2
  (e_Lok (ld_iload_4 (x_dk dn_59_0_2_ok 20 rfl)))
  (e_Lok (lk_3_300 ho_59 (x_dk dn_59_0_2_ok 21 rfl))))
  (e_Tok2
  (e_Lok (e_st (I := eI) (er_ifge (off := 75) (tg := 290) (x_dk dn_59_0_2_ok 22 rfl) (by decide)) nx_if1))
  (e_Lok (ld_aload_n_0 (x_dk dn_59_0_2_ok 23 rfl))))))
  (e_Tok2
  (e_Tok2
  (e_Lok (ps_bipush_10 (x_dk dn_59_0_2_ok 24 rfl)))
  (e_Tok2
  (e_Lok (lk_3_199 ho_59 (x_dk dn_59_0_3_ok 0 rfl)))
  (e_Lok (e_st (I := eI) (er_goto (off := 66) (tg := 290) (x_dk dn_59_0_3_ok 1 rfl) (by decide)) nx_goto))))
  (e_Tok2
  (e_Tok2
  (e_Lok (ld_aload_n_0 (x_dk dn_59_0_3_ok 2 rfl)))
  (e_Lok (ld_aload_n_0 (x_dk dn_59_0_3_ok 3 rfl))))
  (e_Tok2
  (e_Lok (lk_3_166 ho_59 (x_dk dn_59_0_3_ok 4 rfl)))
  (e_Lok (lk_3_199 ho_59 (x_dk dn_59_0_3_ok 5 rfl))))))))
def te_59_81 : Nat → eE := (e_T 259 (e_T 244 (e_T 239 (e_T 235 (e_L 235 (0, ei_goto 290, 0, 0)) (e_T 238 (e_L 238 (0, ei_load 0 2 239, 0, 0)) (e_L 239 (0, ei_getf eft elay 3 3 242, 0, 0)))) (e_T 242 (e_L 242 (0, ei_push (0, 1) 243, 0, 0)) (e_T 243 (e_L 243 (0, ei_load 1 2 244, 0, 0)) (e_L 244 (0, ei_getf eft elay 10 0 247, 0, 0))))) (e_T 251 (e_T 247 (e_L 247 (0, ei_load 0 2 248, 0, 0)) (e_T 248 (e_L 248 (2, e_nof, 53, 1)) (e_L 251 (2, e_nof, 27, 4)))) (e_T 257 (e_T 254 (e_L 254 (0, ei_goto 290, 0, 0)) (e_L 257 (0, ei_load 0 2 258, 0, 0))) (e_T 258 (e_L 258 (0, ei_load 1 2 259, 0, 0)) (e_L 259 (0, ei_getf eft elay 10 2 262, 0, 0)))))) (e_T 276 (e_T 268 (e_T 262 (e_L 262 (2, e_nof, 68, 2)) (e_T 265 (e_L 265 (0, ei_goto 290, 0, 0)) (e_L 268 (0, ei_load 0 2 269, 0, 0)))) (e_T 270 (e_T 269 (e_L 269 (0, ei_load 1 2 270, 0, 0)) (e_L 270 (0, ei_getf eft elay 10 2 273, 0, 0))) (e_T 273 (e_L 273 (2, e_nof, 69, 2)) (e_L 276 (0, ei_goto 290, 0, 0))))) (e_T 281 (e_T 279 (e_L 279 (0, ei_load 0 2 280, 0, 0)) (e_T 280 (e_L 280 (0, ei_load 1 2 281, 0, 0)) (e_L 281 (0, ei_load 0 2 282, 0, 0)))) (e_T 285 (e_T 282 (e_L 282 (2, e_nof, 53, 1)) (e_L 285 (0, ei_load 4 0 287, 0, 0))) (e_T 287 (e_L 287 (2, e_nof, 70, 4)) (e_L 290 (1, e_nof, 0, 0)))))))
set_option maxRecDepth 20000 in
set_option maxHeartbeats 4000000 in
theorem te_59_81_ok : ∀ pc, e_EOq eft cls elay eI n_59 pc (te_59_81 pc) :=
  (e_Tok2
  (e_Tok2
  (e_Tok2
  (e_Tok2
  (e_Lok (e_st (I := eI) (er_goto (off := 55) (tg := 290) (x_dk dn_59_0_3_ok 6 rfl) (by decide)) nx_goto))
  (e_Tok2
  (e_Lok (ld_aload_n_0 (x_dk dn_59_0_3_ok 7 rfl)))
  (e_Lok (lk_3_34g ho_59 (x_dk dn_59_0_3_ok 8 rfl)))))
  (e_Tok2
  (e_Lok (ps_iconst_1 (x_dk dn_59_0_3_ok 9 rfl)))
  (e_Tok2
  (e_Lok (ld_aload_n_1 (x_dk dn_59_0_3_ok 10 rfl)))
  (e_Lok (lk_3_196g ho_59 (x_dk dn_59_0_3_ok 11 rfl))))))
  (e_Tok2
  (e_Tok2
  (e_Lok (ld_aload_n_0 (x_dk dn_59_0_3_ok 12 rfl)))
  (e_Tok2
  (e_Lok (lk_3_166 ho_59 (x_dk dn_59_0_3_ok 13 rfl)))
  (e_Lok (lk_3_108 ho_59 (x_dk dn_59_0_3_ok 14 rfl)))))
  (e_Tok2
  (e_Tok2
  (e_Lok (e_st (I := eI) (er_goto (off := 36) (tg := 290) (x_dk dn_59_0_3_ok 15 rfl) (by decide)) nx_goto))
  (e_Lok (ld_aload_n_0 (x_dk dn_59_0_3_ok 16 rfl))))
  (e_Tok2
  (e_Lok (ld_aload_n_1 (x_dk dn_59_0_3_ok 17 rfl)))
  (e_Lok (lk_3_127g ho_59 (x_dk dn_59_0_3_ok 18 rfl)))))))
  (e_Tok2
  (e_Tok2
  (e_Tok2
  (e_Lok (lk_3_303 ho_59 (x_dk dn_59_0_3_ok 19 rfl)))
  (e_Tok2
  (e_Lok (e_st (I := eI) (er_goto (off := 25) (tg := 290) (x_dk dn_59_0_3_ok 20 rfl) (by decide)) nx_goto))
  (e_Lok (ld_aload_n_0 (x_dk dn_59_0_3_ok 21 rfl)))))
  (e_Tok2
  (e_Tok2
  (e_Lok (ld_aload_n_1 (x_dk dn_59_0_3_ok 22 rfl)))
  (e_Lok (lk_3_127g ho_59 (x_dk dn_59_0_3_ok 23 rfl))))
  (e_Tok2
  (e_Lok (lk_3_306 ho_59 (x_dk dn_59_0_3_ok 24 rfl)))
  (e_Lok (e_st (I := eI) (er_goto (off := 14) (tg := 290) (x_dk dn_59_1_0_ok 0 rfl) (by decide)) nx_goto)))))
  (e_Tok2
  (e_Tok2
  (e_Lok (ld_aload_n_0 (x_dk dn_59_1_0_ok 1 rfl)))
  (e_Tok2
  (e_Lok (ld_aload_n_1 (x_dk dn_59_1_0_ok 2 rfl)))
  (e_Lok (ld_aload_n_0 (x_dk dn_59_1_0_ok 3 rfl)))))
  (e_Tok2
  (e_Tok2
  (e_Lok (lk_3_166 ho_59 (x_dk dn_59_1_0_ok 4 rfl)))
  (e_Lok (ld_iload_4 (x_dk dn_59_1_0_ok 5 rfl))))
  (e_Tok2
  (e_Lok (lk_3_309 ho_59 (x_dk dn_59_1_0_ok 6 rfl)))
  (e_Lok (e_rt (I := eI) (k := 0) ⟨(x_dk dn_59_1_0_ok 7 rfl), rfl⟩)))))))
def te_59 : Nat → eE := (e_T 173 (e_T 119 te_59_0 te_59_27) (e_T 232 te_59_54 te_59_81))
theorem te_59_ok : ∀ pc, e_EOq eft cls elay eI n_59 pc (te_59 pc) := (e_Tok2 ((e_Tok2 (te_59_0_ok) (te_59_27_ok))) ((e_Tok2 (te_59_54_ok) (te_59_81_ok))))
theorem ho_60 : (xm_y n_60).cls = "RobotCellHouse$Doer" := rfl
def dn_60_0_0 : List (Nat × Instr × Nat) := [(0, .iload_n 1, 1), (1, .bipush 6, 2), (3, .if_icmp .ge 10, 3), (6, .aload_n 0, 1), (7, .getfield 51, 3), (10, .iload_n 1, 1), (11, .iload_n 2, 1), (12, .iastore, 1), (13, .return_, 1)]
set_option maxRecDepth 20000 in
theorem dn_60_0_0_ok : dn_60_0_0.all (fun q => decide (decode (xm_b n_60) q.1 = .ok (q.2.1, q.2.2))) = true := xa_g_ok (by decide +kernel)
def te_60_0 : Nat → eE := (e_T 6 (e_T 1 (e_T 0 (e_L 0 (0, ei_load 1 0 1, 0, 0)) (e_L 1 (0, ei_push (0, 6) 3, 0, 0))) (e_T 3 (e_L 3 (0, ei_if2 3 13 6, 0, 0)) (e_L 6 (0, ei_load 0 2 7, 0, 0)))) (e_T 10 (e_T 7 (e_L 7 (0, ei_getf eft elay 3 7 10, 0, 0)) (e_L 10 (0, ei_load 1 0 11, 0, 0))) (e_T 11 (e_L 11 (0, ei_load 2 0 12, 0, 0)) (e_T 12 (e_L 12 (0, ei_ast elay false 13, 0, 0)) (e_L 13 (1, e_nof, 0, 0))))))
set_option maxRecDepth 20000 in
set_option maxHeartbeats 4000000 in
theorem te_60_0_ok : ∀ pc, e_EOq eft cls elay eI n_60 pc (te_60_0 pc) :=
  (e_Tok2
  (e_Tok2
  (e_Tok2
  (e_Lok (ld_iload_n_1 (x_dk dn_60_0_0_ok 0 rfl)))
  (e_Lok (ps_bipush_6 (x_dk dn_60_0_0_ok 1 rfl))))
  (e_Tok2
  (e_Lok (e_st (I := eI) (er_icmpge (off := 10) (tg := 13) (x_dk dn_60_0_0_ok 2 rfl) (by decide)) nx_if2))
  (e_Lok (ld_aload_n_0 (x_dk dn_60_0_0_ok 3 rfl)))))
  (e_Tok2
  (e_Tok2
  (e_Lok (lk_3_51g ho_60 (x_dk dn_60_0_0_ok 4 rfl)))
  (e_Lok (ld_iload_n_1 (x_dk dn_60_0_0_ok 5 rfl))))
  (e_Tok2
  (e_Lok (ld_iload_n_2 (x_dk dn_60_0_0_ok 6 rfl)))
  (e_Tok2
  (e_Lok (sm_iastore (x_dk dn_60_0_0_ok 7 rfl)))
  (e_Lok (e_rt (I := eI) (k := 0) ⟨(x_dk dn_60_0_0_ok 8 rfl), rfl⟩))))))
def te_60 : Nat → eE := te_60_0
theorem te_60_ok : ∀ pc, e_EOq eft cls elay eI n_60 pc (te_60 pc) := te_60_0_ok
theorem ho_61 : (xm_y n_61).cls = "RobotCellHouse$Doer" := rfl
def dn_61_0_0 : List (Nat × Instr × Nat) := [(0, .aload_n 0, 1), (1, .getfield 11, 3), (4, .aload_n 1, 1), (5, .getfield 127, 3), (8, .aaload, 1), (9, .astore_n 3, 1), (10, .iload_n 2, 1), (11, .aload_n 3, 1), (12, .getfield 267, 3), (15, .if_icmp .ne 11, 3), (18, .aload_n 0, 1), (19, .aload_n 3, 1), (20, .invokevirtual 312, 3), (23, .ifCond .ne 11, 3), (26, .aload_n 0, 1), (27, .iconst 3, 1), (28, .invokevirtual 199, 3), (31, .goto 84, 3), (34, .aload_n 3, 1), (35, .getfield 104, 3), (38, .ifCond .eq 11, 3), (41, .aload_n 0, 1), (42, .iconst 4, 1), (43, .invokevirtual 199, 3), (46, .goto 69, 3)]
set_option maxRecDepth 20000 in
theorem dn_61_0_0_ok : dn_61_0_0.all (fun q => decide (decode (xm_b n_61) q.1 = .ok (q.2.1, q.2.2))) = true := xa_g_ok (by decide +kernel)
def dn_61_0_1 : List (Nat × Instr × Nat) := [(49, .aload_n 0, 1), (50, .getfield 34, 3), (53, .getfield 255, 3), (56, .ifCond .ne 11, 3), (59, .aload_n 0, 1), (60, .iconst 5, 1), (61, .invokevirtual 199, 3), (64, .goto 51, 3), (67, .iconst 0, 1), (68, .istore 4, 2), (70, .iload 4, 2), (72, .aload_n 3, 1), (73, .getfield 267, 3), (76, .if_icmp .ge 26, 3), (79, .aload_n 3, 1), (80, .getfield 270, 3), (83, .iload 4, 2), (85, .aaload, 1), (86, .aload_n 0, 1), (87, .getfield 51, 3), (90, .iload 4, 2), (92, .iaload, 1), (93, .putfield 316, 3), (96, .iinc 4 1, 3), (99, .goto (-29), 3)]
set_option maxRecDepth 20000 in
theorem dn_61_0_1_ok : dn_61_0_1.all (fun q => decide (decode (xm_b n_61) q.1 = .ok (q.2.1, q.2.2))) = true := xa_g_ok (by decide +kernel)
def dn_61_0_2 : List (Nat × Instr × Nat) := [(102, .aload_n 3, 1), (103, .aload_n 1, 1), (104, .getfield 196, 3), (107, .invokevirtual 319, 3), (110, .aload_n 1, 1), (111, .iconst 2, 1), (112, .putfield 71, 3), (115, .return_, 1)]
set_option maxRecDepth 20000 in
theorem dn_61_0_2_ok : dn_61_0_2.all (fun q => decide (decode (xm_b n_61) q.1 = .ok (q.2.1, q.2.2))) = true := xa_g_ok (by decide +kernel)
def te_61_0 : Nat → eE := (e_T 23 (e_T 10 (e_T 4 (e_T 0 (e_L 0 (0, ei_load 0 2 1, 0, 0)) (e_T 1 (e_L 1 (0, ei_getf eft elay 3 0 4, 0, 0)) (e_L 4 (0, ei_load 1 2 5, 0, 0)))) (e_T 8 (e_T 5 (e_L 5 (0, ei_getf eft elay 10 2 8, 0, 0)) (e_L 8 (0, ei_aald elay 9, 0, 0))) (e_T 9 (e_L 9 (0, ei_stor 3 2 10, 0, 0)) (e_L 10 (0, ei_load 2 0 11, 0, 0))))) (e_T 15 (e_T 11 (e_L 11 (0, ei_load 3 2 12, 0, 0)) (e_T 12 (e_L 12 (0, ei_getf eft elay 0 8 15, 0, 0)) (e_L 15 (0, ei_if2 1 26 18, 0, 0)))) (e_T 19 (e_T 18 (e_L 18 (0, ei_load 0 2 19, 0, 0)) (e_L 19 (0, ei_load 3 2 20, 0, 0))) (e_T 20 (e_L 20 (2, e_nof, 62, 2)) (e_L 23 (0, ei_if1 1 34 26, 0, 0)))))) (e_T 38 (e_T 28 (e_T 26 (e_L 26 (0, ei_load 0 2 27, 0, 0)) (e_T 27 (e_L 27 (0, ei_push (0, 3) 28, 0, 0)) (e_L 28 (2, e_nof, 46, 2)))) (e_T 34 (e_T 31 (e_L 31 (0, ei_goto 115, 0, 0)) (e_L 34 (0, ei_load 3 2 35, 0, 0))) (e_T 35 (e_L 35 (0, ei_getf eft elay 0 11 38, 0, 0)) (e_L 38 (0, ei_if1 0 49 41, 0, 0))))) (e_T 46 (e_T 42 (e_T 41 (e_L 41 (0, ei_load 0 2 42, 0, 0)) (e_L 42 (0, ei_push (0, 4) 43, 0, 0))) (e_T 43 (e_L 43 (2, e_nof, 46, 2)) (e_L 46 (0, ei_goto 115, 0, 0)))) (e_T 50 (e_T 49 (e_L 49 (0, ei_load 0 2 50, 0, 0)) (e_L 50 (0, ei_getf eft elay 3 3 53, 0, 0))) (e_T 53 (e_L 53 (0, ei_getf eft elay 2 3 56, 0, 0)) (e_L 56 (0, ei_if1 1 67 59, 0, 0)))))))
set_option maxRecDepth 20000 in
set_option maxHeartbeats 4000000 in
theorem te_61_0_ok : ∀ pc, e_EOq eft cls elay eI n_61 pc (te_61_0 pc) :=
  (e_Tok2
  (e_Tok2
  (e_Tok2
  (e_Tok2
  (e_Lok (ld_aload_n_0 (x_dk dn_61_0_0_ok 0 rfl)))
  (e_Tok2
  (e_Lok (lk_3_11g ho_61 (x_dk dn_61_0_0_ok 1 rfl)))
  (e_Lok (ld_aload_n_1 (x_dk dn_61_0_0_ok 2 rfl)))))
  (e_Tok2
  (e_Tok2
  (e_Lok (lk_3_127g ho_61 (x_dk dn_61_0_0_ok 3 rfl)))
  (e_Lok (e_st (I := eI) (er_aaload (x_dk dn_61_0_0_ok 4 rfl)) nx_aald)))
  (e_Tok2
  (e_Lok (e_st (I := eI) (er_astore_n (i := 3) (x_dk dn_61_0_0_ok 5 rfl) (by decide +kernel)) nx_stor))
  (e_Lok (ld_iload_n_2 (x_dk dn_61_0_0_ok 6 rfl))))))
  (e_Tok2
  (e_Tok2
  (e_Lok (ld_aload_n_3 (x_dk dn_61_0_0_ok 7 rfl)))
  (e_Tok2
  (e_Lok (lk_3_267g ho_61 (x_dk dn_61_0_0_ok 8 rfl)))
  (e_Lok (e_st (I := eI) (er_icmpne (off := 11) (tg := 26) (x_dk dn_61_0_0_ok 9 rfl) (by decide)) nx_if2))))
  (e_Tok2
  (e_Tok2
  (e_Lok (ld_aload_n_0 (x_dk dn_61_0_0_ok 10 rfl)))
  (e_Lok (ld_aload_n_3 (x_dk dn_61_0_0_ok 11 rfl))))
  (e_Tok2
  (e_Lok (lk_3_312 ho_61 (x_dk dn_61_0_0_ok 12 rfl)))
  (e_Lok (e_st (I := eI) (er_ifne (off := 11) (tg := 34) (x_dk dn_61_0_0_ok 13 rfl) (by decide)) nx_if1))))))
  (e_Tok2
  (e_Tok2
  (e_Tok2
  (e_Lok (ld_aload_n_0 (x_dk dn_61_0_0_ok 14 rfl)))
  (e_Tok2
  (e_Lok (ps_iconst_3 (x_dk dn_61_0_0_ok 15 rfl)))
  (e_Lok (lk_3_199 ho_61 (x_dk dn_61_0_0_ok 16 rfl)))))
  (e_Tok2
  (e_Tok2
  (e_Lok (e_st (I := eI) (er_goto (off := 84) (tg := 115) (x_dk dn_61_0_0_ok 17 rfl) (by decide)) nx_goto))
  (e_Lok (ld_aload_n_3 (x_dk dn_61_0_0_ok 18 rfl))))
  (e_Tok2
  (e_Lok (lk_3_104g ho_61 (x_dk dn_61_0_0_ok 19 rfl)))
  (e_Lok (e_st (I := eI) (er_ifeq (off := 11) (tg := 49) (x_dk dn_61_0_0_ok 20 rfl) (by decide)) nx_if1)))))
  (e_Tok2
  (e_Tok2
  (e_Tok2
  (e_Lok (ld_aload_n_0 (x_dk dn_61_0_0_ok 21 rfl)))
  (e_Lok (ps_iconst_4 (x_dk dn_61_0_0_ok 22 rfl))))
  (e_Tok2
  (e_Lok (lk_3_199 ho_61 (x_dk dn_61_0_0_ok 23 rfl)))
  (e_Lok (e_st (I := eI) (er_goto (off := 69) (tg := 115) (x_dk dn_61_0_0_ok 24 rfl) (by decide)) nx_goto))))
  (e_Tok2
  (e_Tok2
  (e_Lok (ld_aload_n_0 (x_dk dn_61_0_1_ok 0 rfl)))
  (e_Lok (lk_3_34g ho_61 (x_dk dn_61_0_1_ok 1 rfl))))
  (e_Tok2
  (e_Lok (lk_3_255g ho_61 (x_dk dn_61_0_1_ok 2 rfl)))
  (e_Lok (e_st (I := eI) (er_ifne (off := 11) (tg := 67) (x_dk dn_61_0_1_ok 3 rfl) (by decide)) nx_if1)))))))
def te_61_29 : Nat → eE := (e_T 85 (e_T 70 (e_T 61 (e_T 59 (e_L 59 (0, ei_load 0 2 60, 0, 0)) (e_T 60 (e_L 60 (0, ei_push (0, 5) 61, 0, 0)) (e_L 61 (2, e_nof, 46, 2)))) (e_T 67 (e_T 64 (e_L 64 (0, ei_goto 115, 0, 0)) (e_L 67 (0, ei_push (0, 0) 68, 0, 0))) (e_T 68 (e_L 68 (0, ei_stor 4 0 70, 0, 0)) (e_L 70 (0, ei_load 4 0 72, 0, 0))))) (e_T 76 (e_T 72 (e_L 72 (0, ei_load 3 2 73, 0, 0)) (e_T 73 (e_L 73 (0, ei_getf eft elay 0 8 76, 0, 0)) (e_L 76 (0, ei_if2 3 102 79, 0, 0)))) (e_T 80 (e_T 79 (e_L 79 (0, ei_load 3 2 80, 0, 0)) (e_L 80 (0, ei_getf eft elay 0 0 83, 0, 0))) (e_T 83 (e_L 83 (0, ei_load 4 0 85, 0, 0)) (e_L 85 (0, ei_aald elay 86, 0, 0)))))) (e_T 99 (e_T 90 (e_T 86 (e_L 86 (0, ei_load 0 2 87, 0, 0)) (e_T 87 (e_L 87 (0, ei_getf eft elay 3 7 90, 0, 0)) (e_L 90 (0, ei_load 4 0 92, 0, 0)))) (e_T 93 (e_T 92 (e_L 92 (0, ei_ald elay false 93, 0, 0)) (e_L 93 (0, ei_putf eft elay 5 9 0 96, 0, 0))) (e_T 96 (e_L 96 (0, ei_inc 4 1 99, 0, 0)) (e_L 99 (0, ei_goto 70, 0, 0))))) (e_T 107 (e_T 103 (e_T 102 (e_L 102 (0, ei_load 3 2 103, 0, 0)) (e_L 103 (0, ei_load 1 2 104, 0, 0))) (e_T 104 (e_L 104 (0, ei_getf eft elay 10 0 107, 0, 0)) (e_L 107 (2, e_nof, 13, 2)))) (e_T 111 (e_T 110 (e_L 110 (0, ei_load 1 2 111, 0, 0)) (e_L 111 (0, ei_push (0, 2) 112, 0, 0))) (e_T 112 (e_L 112 (0, ei_putf eft elay 10 1 0 115, 0, 0)) (e_L 115 (1, e_nof, 0, 0)))))))
set_option maxRecDepth 20000 in
set_option maxHeartbeats 4000000 in
theorem te_61_29_ok : ∀ pc, e_EOq eft cls elay eI n_61 pc (te_61_29 pc) :=
  (e_Tok2
  (e_Tok2
  (e_Tok2
  (e_Tok2
  (e_Lok (ld_aload_n_0 (x_dk dn_61_0_1_ok 4 rfl)))
  (e_Tok2
  (e_Lok (ps_iconst_5 (x_dk dn_61_0_1_ok 5 rfl)))
  (e_Lok (lk_3_199 ho_61 (x_dk dn_61_0_1_ok 6 rfl)))))
  (e_Tok2
  (e_Tok2
  (e_Lok (e_st (I := eI) (er_goto (off := 51) (tg := 115) (x_dk dn_61_0_1_ok 7 rfl) (by decide)) nx_goto))
  (e_Lok (ps_iconst_0 (x_dk dn_61_0_1_ok 8 rfl))))
  (e_Tok2
  (e_Lok (e_st (I := eI) (er_istore (i := 4) (x_dk dn_61_0_1_ok 9 rfl) (by decide +kernel)) nx_stor))
  (e_Lok (ld_iload_4 (x_dk dn_61_0_1_ok 10 rfl))))))
  (e_Tok2
  (e_Tok2
  (e_Lok (ld_aload_n_3 (x_dk dn_61_0_1_ok 11 rfl)))
  (e_Tok2
  (e_Lok (lk_3_267g ho_61 (x_dk dn_61_0_1_ok 12 rfl)))
  (e_Lok (e_st (I := eI) (er_icmpge (off := 26) (tg := 102) (x_dk dn_61_0_1_ok 13 rfl) (by decide)) nx_if2))))
  (e_Tok2
  (e_Tok2
  (e_Lok (ld_aload_n_3 (x_dk dn_61_0_1_ok 14 rfl)))
  (e_Lok (lk_3_270g ho_61 (x_dk dn_61_0_1_ok 15 rfl))))
  (e_Tok2
  (e_Lok (ld_iload_4 (x_dk dn_61_0_1_ok 16 rfl)))
  (e_Lok (e_st (I := eI) (er_aaload (x_dk dn_61_0_1_ok 17 rfl)) nx_aald))))))
  (e_Tok2
  (e_Tok2
  (e_Tok2
  (e_Lok (ld_aload_n_0 (x_dk dn_61_0_1_ok 18 rfl)))
  (e_Tok2
  (e_Lok (lk_3_51g ho_61 (x_dk dn_61_0_1_ok 19 rfl)))
  (e_Lok (ld_iload_4 (x_dk dn_61_0_1_ok 20 rfl)))))
  (e_Tok2
  (e_Tok2
  (e_Lok (sm_iaload (x_dk dn_61_0_1_ok 21 rfl)))
  (e_Lok (lk_3_316p ho_61 (x_dk dn_61_0_1_ok 22 rfl))))
  (e_Tok2
  (e_Lok (e_st (I := eI) (er_iinc (i := 4) (n := 1) (x_dk dn_61_0_1_ok 23 rfl) (by decide +kernel) (by decide)) nx_inc))
  (e_Lok (e_st (I := eI) (er_goto (off := (-29)) (tg := 70) (x_dk dn_61_0_1_ok 24 rfl) (by decide)) nx_goto)))))
  (e_Tok2
  (e_Tok2
  (e_Tok2
  (e_Lok (ld_aload_n_3 (x_dk dn_61_0_2_ok 0 rfl)))
  (e_Lok (ld_aload_n_1 (x_dk dn_61_0_2_ok 1 rfl))))
  (e_Tok2
  (e_Lok (lk_3_196g ho_61 (x_dk dn_61_0_2_ok 2 rfl)))
  (e_Lok (lk_3_319 ho_61 (x_dk dn_61_0_2_ok 3 rfl)))))
  (e_Tok2
  (e_Tok2
  (e_Lok (ld_aload_n_1 (x_dk dn_61_0_2_ok 4 rfl)))
  (e_Lok (ps_iconst_2 (x_dk dn_61_0_2_ok 5 rfl))))
  (e_Tok2
  (e_Lok (lk_3_71p ho_61 (x_dk dn_61_0_2_ok 6 rfl)))
  (e_Lok (e_rt (I := eI) (k := 0) ⟨(x_dk dn_61_0_2_ok 7 rfl), rfl⟩)))))))
def te_61 : Nat → eE := (e_T 56 te_61_0 te_61_29)
theorem te_61_ok : ∀ pc, e_EOq eft cls elay eI n_61 pc (te_61 pc) := (e_Tok2 (te_61_0_ok) (te_61_29_ok))
theorem ho_62 : (xm_y n_62).cls = "RobotCellHouse$Doer" := rfl
def dn_62_0_0 : List (Nat × Instr × Nat) := [(0, .iconst 0, 1), (1, .istore_n 2, 1), (2, .iload_n 2, 1), (3, .aload_n 1, 1), (4, .getfield 267, 3), (7, .if_icmp .ge 29, 3), (10, .aload_n 1, 1), (11, .getfield 270, 3), (14, .iload_n 2, 1), (15, .aaload, 1), (16, .aload_n 0, 1), (17, .getfield 51, 3), (20, .iload_n 2, 1), (21, .iaload, 1), (22, .invokevirtual 322, 3), (25, .ifCond .ne 5, 3), (28, .iconst 0, 1), (29, .ireturn, 1), (30, .iinc 2 1, 3), (33, .goto (-31), 3), (36, .iconst 1, 1), (37, .ireturn, 1)]
set_option maxRecDepth 20000 in
theorem dn_62_0_0_ok : dn_62_0_0.all (fun q => decide (decode (xm_b n_62) q.1 = .ok (q.2.1, q.2.2))) = true := xa_g_ok (by decide +kernel)
def te_62_0 : Nat → eE := (e_T 16 (e_T 4 (e_T 1 (e_T 0 (e_L 0 (0, ei_push (0, 0) 1, 0, 0)) (e_L 1 (0, ei_stor 2 0 2, 0, 0))) (e_T 2 (e_L 2 (0, ei_load 2 0 3, 0, 0)) (e_T 3 (e_L 3 (0, ei_load 1 2 4, 0, 0)) (e_L 4 (0, ei_getf eft elay 0 8 7, 0, 0))))) (e_T 11 (e_T 7 (e_L 7 (0, ei_if2 3 36 10, 0, 0)) (e_T 10 (e_L 10 (0, ei_load 1 2 11, 0, 0)) (e_L 11 (0, ei_getf eft elay 0 0 14, 0, 0)))) (e_T 14 (e_L 14 (0, ei_load 2 0 15, 0, 0)) (e_T 15 (e_L 15 (0, ei_aald elay 16, 0, 0)) (e_L 16 (0, ei_load 0 2 17, 0, 0)))))) (e_T 25 (e_T 20 (e_T 17 (e_L 17 (0, ei_getf eft elay 3 7 20, 0, 0)) (e_L 20 (0, ei_load 2 0 21, 0, 0))) (e_T 21 (e_L 21 (0, ei_ald elay false 22, 0, 0)) (e_T 22 (e_L 22 (2, e_nof, 89, 2)) (e_L 25 (0, ei_if1 1 30 28, 0, 0))))) (e_T 30 (e_T 28 (e_L 28 (0, ei_push (0, 0) 29, 0, 0)) (e_T 29 (e_L 29 (1, e_nof, 4, 0)) (e_L 30 (0, ei_inc 2 1 33, 0, 0)))) (e_T 33 (e_L 33 (0, ei_goto 2, 0, 0)) (e_T 36 (e_L 36 (0, ei_push (0, 1) 37, 0, 0)) (e_L 37 (1, e_nof, 4, 0)))))))
set_option maxRecDepth 20000 in
set_option maxHeartbeats 4000000 in
theorem te_62_0_ok : ∀ pc, e_EOq eft cls elay eI n_62 pc (te_62_0 pc) :=
  (e_Tok2
  (e_Tok2
  (e_Tok2
  (e_Tok2
  (e_Lok (ps_iconst_0 (x_dk dn_62_0_0_ok 0 rfl)))
  (e_Lok (e_st (I := eI) (er_istore_n (i := 2) (x_dk dn_62_0_0_ok 1 rfl) (by decide +kernel)) nx_stor)))
  (e_Tok2
  (e_Lok (ld_iload_n_2 (x_dk dn_62_0_0_ok 2 rfl)))
  (e_Tok2
  (e_Lok (ld_aload_n_1 (x_dk dn_62_0_0_ok 3 rfl)))
  (e_Lok (lk_3_267g ho_62 (x_dk dn_62_0_0_ok 4 rfl))))))
  (e_Tok2
  (e_Tok2
  (e_Lok (e_st (I := eI) (er_icmpge (off := 29) (tg := 36) (x_dk dn_62_0_0_ok 5 rfl) (by decide)) nx_if2))
  (e_Tok2
  (e_Lok (ld_aload_n_1 (x_dk dn_62_0_0_ok 6 rfl)))
  (e_Lok (lk_3_270g ho_62 (x_dk dn_62_0_0_ok 7 rfl)))))
  (e_Tok2
  (e_Lok (ld_iload_n_2 (x_dk dn_62_0_0_ok 8 rfl)))
  (e_Tok2
  (e_Lok (e_st (I := eI) (er_aaload (x_dk dn_62_0_0_ok 9 rfl)) nx_aald))
  (e_Lok (ld_aload_n_0 (x_dk dn_62_0_0_ok 10 rfl)))))))
  (e_Tok2
  (e_Tok2
  (e_Tok2
  (e_Lok (lk_3_51g ho_62 (x_dk dn_62_0_0_ok 11 rfl)))
  (e_Lok (ld_iload_n_2 (x_dk dn_62_0_0_ok 12 rfl))))
  (e_Tok2
  (e_Lok (sm_iaload (x_dk dn_62_0_0_ok 13 rfl)))
  (e_Tok2
  (e_Lok (lk_3_322 ho_62 (x_dk dn_62_0_0_ok 14 rfl)))
  (e_Lok (e_st (I := eI) (er_ifne (off := 5) (tg := 30) (x_dk dn_62_0_0_ok 15 rfl) (by decide)) nx_if1)))))
  (e_Tok2
  (e_Tok2
  (e_Lok (ps_iconst_0 (x_dk dn_62_0_0_ok 16 rfl)))
  (e_Tok2
  (e_Lok (e_rt (I := eI) (k := 4) ⟨(x_dk dn_62_0_0_ok 17 rfl), rfl⟩))
  (e_Lok (e_st (I := eI) (er_iinc (i := 2) (n := 1) (x_dk dn_62_0_0_ok 18 rfl) (by decide +kernel) (by decide)) nx_inc))))
  (e_Tok2
  (e_Lok (e_st (I := eI) (er_goto (off := (-31)) (tg := 2) (x_dk dn_62_0_0_ok 19 rfl) (by decide)) nx_goto))
  (e_Tok2
  (e_Lok (ps_iconst_1 (x_dk dn_62_0_0_ok 20 rfl)))
  (e_Lok (e_rt (I := eI) (k := 4) ⟨(x_dk dn_62_0_0_ok 21 rfl), rfl⟩)))))))
def te_62 : Nat → eE := te_62_0
theorem te_62_ok : ∀ pc, e_EOq eft cls elay eI n_62 pc (te_62 pc) := te_62_0_ok
theorem ho_63 : (xm_y n_63).cls = "RobotCellHouse$Doer" := rfl
def dn_63_0_0 : List (Nat × Instr × Nat) := [(0, .iload_n 2, 1), (1, .ifCond .gt 4, 3), (4, .return_, 1), (5, .aload_n 1, 1), (6, .iconst 3, 1), (7, .putfield 71, 3), (10, .aload_n 1, 1), (11, .iload_n 2, 1), (12, .putfield 193, 3), (15, .aload_n 1, 1), (16, .aload_n 0, 1), (17, .getfield 34, 3), (20, .getfield 87, 3), (23, .putfield 190, 3), (26, .return_, 1)]
set_option maxRecDepth 20000 in
theorem dn_63_0_0_ok : dn_63_0_0.all (fun q => decide (decode (xm_b n_63) q.1 = .ok (q.2.1, q.2.2))) = true := xa_g_ok (by decide +kernel)
def te_63_0 : Nat → eE := (e_T 10 (e_T 4 (e_T 0 (e_L 0 (0, ei_load 2 0 1, 0, 0)) (e_T 1 (e_L 1 (0, ei_if1 4 5 4, 0, 0)) (e_L 4 (1, e_nof, 0, 0)))) (e_T 6 (e_T 5 (e_L 5 (0, ei_load 1 2 6, 0, 0)) (e_L 6 (0, ei_push (0, 3) 7, 0, 0))) (e_T 7 (e_L 7 (0, ei_putf eft elay 10 1 0 10, 0, 0)) (e_L 10 (0, ei_load 1 2 11, 0, 0))))) (e_T 16 (e_T 12 (e_T 11 (e_L 11 (0, ei_load 2 0 12, 0, 0)) (e_L 12 (0, ei_putf eft elay 10 8 0 15, 0, 0))) (e_T 15 (e_L 15 (0, ei_load 1 2 16, 0, 0)) (e_L 16 (0, ei_load 0 2 17, 0, 0)))) (e_T 20 (e_T 17 (e_L 17 (0, ei_getf eft elay 3 3 20, 0, 0)) (e_L 20 (0, ei_getf eft elay 2 0 23, 0, 0))) (e_T 23 (e_L 23 (0, ei_putf eft elay 10 9 0 26, 0, 0)) (e_L 26 (1, e_nof, 0, 0))))))
set_option maxRecDepth 20000 in
set_option maxHeartbeats 4000000 in
theorem te_63_0_ok : ∀ pc, e_EOq eft cls elay eI n_63 pc (te_63_0 pc) :=
  (e_Tok2
  (e_Tok2
  (e_Tok2
  (e_Lok (ld_iload_n_2 (x_dk dn_63_0_0_ok 0 rfl)))
  (e_Tok2
  (e_Lok (e_st (I := eI) (er_ifgt (off := 4) (tg := 5) (x_dk dn_63_0_0_ok 1 rfl) (by decide)) nx_if1))
  (e_Lok (e_rt (I := eI) (k := 0) ⟨(x_dk dn_63_0_0_ok 2 rfl), rfl⟩))))
  (e_Tok2
  (e_Tok2
  (e_Lok (ld_aload_n_1 (x_dk dn_63_0_0_ok 3 rfl)))
  (e_Lok (ps_iconst_3 (x_dk dn_63_0_0_ok 4 rfl))))
  (e_Tok2
  (e_Lok (lk_3_71p ho_63 (x_dk dn_63_0_0_ok 5 rfl)))
  (e_Lok (ld_aload_n_1 (x_dk dn_63_0_0_ok 6 rfl))))))
  (e_Tok2
  (e_Tok2
  (e_Tok2
  (e_Lok (ld_iload_n_2 (x_dk dn_63_0_0_ok 7 rfl)))
  (e_Lok (lk_3_193p ho_63 (x_dk dn_63_0_0_ok 8 rfl))))
  (e_Tok2
  (e_Lok (ld_aload_n_1 (x_dk dn_63_0_0_ok 9 rfl)))
  (e_Lok (ld_aload_n_0 (x_dk dn_63_0_0_ok 10 rfl)))))
  (e_Tok2
  (e_Tok2
  (e_Lok (lk_3_34g ho_63 (x_dk dn_63_0_0_ok 11 rfl)))
  (e_Lok (lk_3_87g ho_63 (x_dk dn_63_0_0_ok 12 rfl))))
  (e_Tok2
  (e_Lok (lk_3_190p ho_63 (x_dk dn_63_0_0_ok 13 rfl)))
  (e_Lok (e_rt (I := eI) (k := 0) ⟨(x_dk dn_63_0_0_ok 14 rfl), rfl⟩))))))
def te_63 : Nat → eE := te_63_0
theorem te_63_ok : ∀ pc, e_EOq eft cls elay eI n_63 pc (te_63 pc) := te_63_0_ok
theorem ho_64 : (xm_y n_64).cls = "RobotCellHouse$Doer" := rfl
def dn_64_0_0 : List (Nat × Instr × Nat) := [(0, .iload_n 2, 1), (1, .ifCond .eq 4, 3), (4, .return_, 1), (5, .aload_n 1, 1), (6, .iconst 4, 1), (7, .putfield 71, 3), (10, .aload_n 1, 1), (11, .iload_n 3, 1), (12, .putfield 141, 3), (15, .return_, 1)]
set_option maxRecDepth 20000 in
theorem dn_64_0_0_ok : dn_64_0_0.all (fun q => decide (decode (xm_b n_64) q.1 = .ok (q.2.1, q.2.2))) = true := xa_g_ok (by decide +kernel)
def te_64_0 : Nat → eE := (e_T 6 (e_T 1 (e_T 0 (e_L 0 (0, ei_load 2 0 1, 0, 0)) (e_L 1 (0, ei_if1 0 5 4, 0, 0))) (e_T 4 (e_L 4 (1, e_nof, 0, 0)) (e_T 5 (e_L 5 (0, ei_load 1 2 6, 0, 0)) (e_L 6 (0, ei_push (0, 4) 7, 0, 0))))) (e_T 10 (e_T 7 (e_L 7 (0, ei_putf eft elay 10 1 0 10, 0, 0)) (e_L 10 (0, ei_load 1 2 11, 0, 0))) (e_T 11 (e_L 11 (0, ei_load 3 0 12, 0, 0)) (e_T 12 (e_L 12 (0, ei_putf eft elay 10 3 0 15, 0, 0)) (e_L 15 (1, e_nof, 0, 0))))))
set_option maxRecDepth 20000 in
set_option maxHeartbeats 4000000 in
theorem te_64_0_ok : ∀ pc, e_EOq eft cls elay eI n_64 pc (te_64_0 pc) :=
  (e_Tok2
  (e_Tok2
  (e_Tok2
  (e_Lok (ld_iload_n_2 (x_dk dn_64_0_0_ok 0 rfl)))
  (e_Lok (e_st (I := eI) (er_ifeq (off := 4) (tg := 5) (x_dk dn_64_0_0_ok 1 rfl) (by decide)) nx_if1)))
  (e_Tok2
  (e_Lok (e_rt (I := eI) (k := 0) ⟨(x_dk dn_64_0_0_ok 2 rfl), rfl⟩))
  (e_Tok2
  (e_Lok (ld_aload_n_1 (x_dk dn_64_0_0_ok 3 rfl)))
  (e_Lok (ps_iconst_4 (x_dk dn_64_0_0_ok 4 rfl))))))
  (e_Tok2
  (e_Tok2
  (e_Lok (lk_3_71p ho_64 (x_dk dn_64_0_0_ok 5 rfl)))
  (e_Lok (ld_aload_n_1 (x_dk dn_64_0_0_ok 6 rfl))))
  (e_Tok2
  (e_Lok (ld_iload_n_3 (x_dk dn_64_0_0_ok 7 rfl)))
  (e_Tok2
  (e_Lok (lk_3_141p ho_64 (x_dk dn_64_0_0_ok 8 rfl)))
  (e_Lok (e_rt (I := eI) (k := 0) ⟨(x_dk dn_64_0_0_ok 9 rfl), rfl⟩))))))
def te_64 : Nat → eE := te_64_0
theorem te_64_ok : ∀ pc, e_EOq eft cls elay eI n_64 pc (te_64 pc) := te_64_0_ok
theorem ho_65 : (xm_y n_65).cls = "RobotCellHouse$Doer" := rfl
def dn_65_0_0 : List (Nat × Instr × Nat) := [(0, .iload_n 2, 1), (1, .invokestatic 261, 3), (4, .ifCond .eq 16, 3), (7, .aload_n 0, 1), (8, .getfield 20, 3), (11, .iload_n 2, 1), (12, .iload_n 1, 1), (13, .invokevirtual 325, 3), (16, .pop, 1), (17, .goto 8, 3), (20, .aload_n 0, 1), (21, .iconst 2, 1), (22, .invokevirtual 199, 3), (25, .return_, 1)]
set_option maxRecDepth 20000 in
theorem dn_65_0_0_ok : dn_65_0_0.all (fun q => decide (decode (xm_b n_65) q.1 = .ok (q.2.1, q.2.2))) = true := xa_g_ok (by decide +kernel)
def te_65_0 : Nat → eE := (e_T 12 (e_T 4 (e_T 0 (e_L 0 (0, ei_load 2 0 1, 0, 0)) (e_T 1 (e_L 1 (2, e_nof, 245, 1)) (e_L 4 (0, ei_if1 0 20 7, 0, 0)))) (e_T 8 (e_T 7 (e_L 7 (0, ei_load 0 2 8, 0, 0)) (e_L 8 (0, ei_getf eft elay 3 1 11, 0, 0))) (e_T 11 (e_L 11 (0, ei_load 2 0 12, 0, 0)) (e_L 12 (0, ei_load 1 0 13, 0, 0))))) (e_T 17 (e_T 13 (e_L 13 (2, e_nof, 113, 3)) (e_T 16 (e_L 16 (0, ei_stk ef_pop 17, 0, 0)) (e_L 17 (0, ei_goto 25, 0, 0)))) (e_T 21 (e_T 20 (e_L 20 (0, ei_load 0 2 21, 0, 0)) (e_L 21 (0, ei_push (0, 2) 22, 0, 0))) (e_T 22 (e_L 22 (2, e_nof, 46, 2)) (e_L 25 (1, e_nof, 0, 0))))))
set_option maxRecDepth 20000 in
set_option maxHeartbeats 4000000 in
theorem te_65_0_ok : ∀ pc, e_EOq eft cls elay eI n_65 pc (te_65_0 pc) :=
  (e_Tok2
  (e_Tok2
  (e_Tok2
  (e_Lok (ld_iload_n_2 (x_dk dn_65_0_0_ok 0 rfl)))
  (e_Tok2
  (e_Lok (lk_3_261 ho_65 (x_dk dn_65_0_0_ok 1 rfl)))
  (e_Lok (e_st (I := eI) (er_ifeq (off := 16) (tg := 20) (x_dk dn_65_0_0_ok 2 rfl) (by decide)) nx_if1))))
  (e_Tok2
  (e_Tok2
  (e_Lok (ld_aload_n_0 (x_dk dn_65_0_0_ok 3 rfl)))
  (e_Lok (lk_3_20g ho_65 (x_dk dn_65_0_0_ok 4 rfl))))
  (e_Tok2
  (e_Lok (ld_iload_n_2 (x_dk dn_65_0_0_ok 5 rfl)))
  (e_Lok (ld_iload_n_1 (x_dk dn_65_0_0_ok 6 rfl))))))
  (e_Tok2
  (e_Tok2
  (e_Lok (lk_3_325 ho_65 (x_dk dn_65_0_0_ok 7 rfl)))
  (e_Tok2
  (e_Lok (e_st (I := eI) (er_pop (x_dk dn_65_0_0_ok 8 rfl)) (nx_stk bf_pop)))
  (e_Lok (e_st (I := eI) (er_goto (off := 8) (tg := 25) (x_dk dn_65_0_0_ok 9 rfl) (by decide)) nx_goto))))
  (e_Tok2
  (e_Tok2
  (e_Lok (ld_aload_n_0 (x_dk dn_65_0_0_ok 10 rfl)))
  (e_Lok (ps_iconst_2 (x_dk dn_65_0_0_ok 11 rfl))))
  (e_Tok2
  (e_Lok (lk_3_199 ho_65 (x_dk dn_65_0_0_ok 12 rfl)))
  (e_Lok (e_rt (I := eI) (k := 0) ⟨(x_dk dn_65_0_0_ok 13 rfl), rfl⟩))))))
def te_65 : Nat → eE := te_65_0
theorem te_65_ok : ∀ pc, e_EOq eft cls elay eI n_65 pc (te_65 pc) := te_65_0_ok
theorem ho_66 : (xm_y n_66).cls = "RobotCellHouse$Doer" := rfl
def dn_66_0_0 : List (Nat × Instr × Nat) := [(0, .iload_n 2, 1), (1, .iconst 0, 1), (2, .bipush 7, 2), (4, .invokestatic 120, 3), (7, .ifCond .ne 11, 3), (10, .aload_n 0, 1), (11, .iconst 2, 1), (12, .invokevirtual 199, 3), (15, .goto 75, 3), (18, .aload_n 0, 1), (19, .getfield 44, 3), (22, .iload_n 2, 1), (23, .iaload, 1), (24, .aload_n 1, 1), (25, .getfield 196, 3), (28, .if_icmp .ne 12, 3), (31, .aload_n 0, 1), (32, .bipush 9, 2), (34, .invokevirtual 199, 3), (37, .goto 53, 3), (40, .aload_n 0, 1), (41, .getfield 44, 3), (44, .iload_n 2, 1), (45, .iaload, 1), (46, .ifCond .ge 16, 3)]
set_option maxRecDepth 20000 in
theorem dn_66_0_0_ok : dn_66_0_0.all (fun q => decide (decode (xm_b n_66) q.1 = .ok (q.2.1, q.2.2))) = true := xa_g_ok (by decide +kernel)
def dn_66_0_1 : List (Nat × Instr × Nat) := [(49, .aload_n 0, 1), (50, .getfield 44, 3), (53, .iload_n 2, 1), (54, .aload_n 1, 1), (55, .getfield 196, 3), (58, .iastore, 1), (59, .goto 31, 3), (62, .aload_n 1, 1), (63, .iconst 5, 1), (64, .putfield 71, 3), (67, .aload_n 1, 1), (68, .iload_n 2, 1), (69, .putfield 193, 3), (72, .aload_n 1, 1), (73, .aload_n 0, 1), (74, .getfield 67, 3), (77, .putfield 190, 3), (80, .aload_n 0, 1), (81, .dup, 1), (82, .getfield 67, 3), (85, .iconst 1, 1), (86, .iadd, 1), (87, .putfield 67, 3), (90, .return_, 1)]
set_option maxRecDepth 20000 in
theorem dn_66_0_1_ok : dn_66_0_1.all (fun q => decide (decode (xm_b n_66) q.1 = .ok (q.2.1, q.2.2))) = true := xa_g_ok (by decide +kernel)
def te_66_0 : Nat → eE := (e_T 22 (e_T 10 (e_T 2 (e_T 0 (e_L 0 (0, ei_load 2 0 1, 0, 0)) (e_T 1 (e_L 1 (0, ei_push (0, 0) 2, 0, 0)) (e_L 2 (0, ei_push (0, 7) 4, 0, 0)))) (e_T 4 (e_L 4 (2, e_nof, 242, 3)) (e_T 7 (e_L 7 (0, ei_if1 1 18 10, 0, 0)) (e_L 10 (0, ei_load 0 2 11, 0, 0))))) (e_T 15 (e_T 11 (e_L 11 (0, ei_push (0, 2) 12, 0, 0)) (e_T 12 (e_L 12 (2, e_nof, 46, 2)) (e_L 15 (0, ei_goto 90, 0, 0)))) (e_T 18 (e_L 18 (0, ei_load 0 2 19, 0, 0)) (e_T 19 (e_L 19 (0, ei_getf eft elay 3 5 22, 0, 0)) (e_L 22 (0, ei_load 2 0 23, 0, 0)))))) (e_T 32 (e_T 25 (e_T 23 (e_L 23 (0, ei_ald elay false 24, 0, 0)) (e_T 24 (e_L 24 (0, ei_load 1 2 25, 0, 0)) (e_L 25 (0, ei_getf eft elay 10 0 28, 0, 0)))) (e_T 28 (e_L 28 (0, ei_if2 1 40 31, 0, 0)) (e_T 31 (e_L 31 (0, ei_load 0 2 32, 0, 0)) (e_L 32 (0, ei_push (0, 9) 34, 0, 0))))) (e_T 40 (e_T 34 (e_L 34 (2, e_nof, 46, 2)) (e_T 37 (e_L 37 (0, ei_goto 90, 0, 0)) (e_L 40 (0, ei_load 0 2 41, 0, 0)))) (e_T 41 (e_L 41 (0, ei_getf eft elay 3 5 44, 0, 0)) (e_T 44 (e_L 44 (0, ei_load 2 0 45, 0, 0)) (e_L 45 (0, ei_ald elay false 46, 0, 0)))))))
set_option maxRecDepth 20000 in
set_option maxHeartbeats 4000000 in
theorem te_66_0_ok : ∀ pc, e_EOq eft cls elay eI n_66 pc (te_66_0 pc) :=
  (e_Tok2
  (e_Tok2
  (e_Tok2
  (e_Tok2
  (e_Lok (ld_iload_n_2 (x_dk dn_66_0_0_ok 0 rfl)))
  (e_Tok2
  (e_Lok (ps_iconst_0 (x_dk dn_66_0_0_ok 1 rfl)))
  (e_Lok (ps_bipush_7 (x_dk dn_66_0_0_ok 2 rfl)))))
  (e_Tok2
  (e_Lok (lk_3_120 ho_66 (x_dk dn_66_0_0_ok 3 rfl)))
  (e_Tok2
  (e_Lok (e_st (I := eI) (er_ifne (off := 11) (tg := 18) (x_dk dn_66_0_0_ok 4 rfl) (by decide)) nx_if1))
  (e_Lok (ld_aload_n_0 (x_dk dn_66_0_0_ok 5 rfl))))))
  (e_Tok2
  (e_Tok2
  (e_Lok (ps_iconst_2 (x_dk dn_66_0_0_ok 6 rfl)))
  (e_Tok2
  (e_Lok (lk_3_199 ho_66 (x_dk dn_66_0_0_ok 7 rfl)))
  (e_Lok (e_st (I := eI) (er_goto (off := 75) (tg := 90) (x_dk dn_66_0_0_ok 8 rfl) (by decide)) nx_goto))))
  (e_Tok2
  (e_Lok (ld_aload_n_0 (x_dk dn_66_0_0_ok 9 rfl)))
  (e_Tok2
  (e_Lok (lk_3_44g ho_66 (x_dk dn_66_0_0_ok 10 rfl)))
  (e_Lok (ld_iload_n_2 (x_dk dn_66_0_0_ok 11 rfl)))))))
  (e_Tok2
  (e_Tok2
  (e_Tok2
  (e_Lok (sm_iaload (x_dk dn_66_0_0_ok 12 rfl)))
  (e_Tok2
  (e_Lok (ld_aload_n_1 (x_dk dn_66_0_0_ok 13 rfl)))
  (e_Lok (lk_3_196g ho_66 (x_dk dn_66_0_0_ok 14 rfl)))))
  (e_Tok2
  (e_Lok (e_st (I := eI) (er_icmpne (off := 12) (tg := 40) (x_dk dn_66_0_0_ok 15 rfl) (by decide)) nx_if2))
  (e_Tok2
  (e_Lok (ld_aload_n_0 (x_dk dn_66_0_0_ok 16 rfl)))
  (e_Lok (ps_bipush_9 (x_dk dn_66_0_0_ok 17 rfl))))))
  (e_Tok2
  (e_Tok2
  (e_Lok (lk_3_199 ho_66 (x_dk dn_66_0_0_ok 18 rfl)))
  (e_Tok2
  (e_Lok (e_st (I := eI) (er_goto (off := 53) (tg := 90) (x_dk dn_66_0_0_ok 19 rfl) (by decide)) nx_goto))
  (e_Lok (ld_aload_n_0 (x_dk dn_66_0_0_ok 20 rfl)))))
  (e_Tok2
  (e_Lok (lk_3_44g ho_66 (x_dk dn_66_0_0_ok 21 rfl)))
  (e_Tok2
  (e_Lok (ld_iload_n_2 (x_dk dn_66_0_0_ok 22 rfl)))
  (e_Lok (sm_iaload (x_dk dn_66_0_0_ok 23 rfl))))))))
def te_66_24 : Nat → eE := (e_T 67 (e_T 55 (e_T 50 (e_T 46 (e_L 46 (0, ei_if1 3 62 49, 0, 0)) (e_T 49 (e_L 49 (0, ei_load 0 2 50, 0, 0)) (e_L 50 (0, ei_getf eft elay 3 5 53, 0, 0)))) (e_T 53 (e_L 53 (0, ei_load 2 0 54, 0, 0)) (e_T 54 (e_L 54 (0, ei_load 1 2 55, 0, 0)) (e_L 55 (0, ei_getf eft elay 10 0 58, 0, 0))))) (e_T 62 (e_T 58 (e_L 58 (0, ei_ast elay false 59, 0, 0)) (e_T 59 (e_L 59 (0, ei_goto 90, 0, 0)) (e_L 62 (0, ei_load 1 2 63, 0, 0)))) (e_T 63 (e_L 63 (0, ei_push (0, 5) 64, 0, 0)) (e_T 64 (e_L 64 (0, ei_putf eft elay 10 1 0 67, 0, 0)) (e_L 67 (0, ei_load 1 2 68, 0, 0)))))) (e_T 77 (e_T 72 (e_T 68 (e_L 68 (0, ei_load 2 0 69, 0, 0)) (e_T 69 (e_L 69 (0, ei_putf eft elay 10 8 0 72, 0, 0)) (e_L 72 (0, ei_load 1 2 73, 0, 0)))) (e_T 73 (e_L 73 (0, ei_load 0 2 74, 0, 0)) (e_T 74 (e_L 74 (0, ei_getf eft elay 3 9 77, 0, 0)) (e_L 77 (0, ei_putf eft elay 10 9 0 80, 0, 0))))) (e_T 82 (e_T 80 (e_L 80 (0, ei_load 0 2 81, 0, 0)) (e_T 81 (e_L 81 (0, ei_stk ef_dup 82, 0, 0)) (e_L 82 (0, ei_getf eft elay 3 9 85, 0, 0)))) (e_T 86 (e_T 85 (e_L 85 (0, ei_push (0, 1) 86, 0, 0)) (e_L 86 (0, ei_bin eF_add 87, 0, 0))) (e_T 87 (e_L 87 (0, ei_putf eft elay 3 9 0 90, 0, 0)) (e_L 90 (1, e_nof, 0, 0)))))))
set_option maxRecDepth 20000 in
set_option maxHeartbeats 4000000 in
theorem te_66_24_ok : ∀ pc, e_EOq eft cls elay eI n_66 pc (te_66_24 pc) :=
  (e_Tok2
  (e_Tok2
  (e_Tok2
  (e_Tok2
  (e_Lok (e_st (I := eI) (er_ifge (off := 16) (tg := 62) (x_dk dn_66_0_0_ok 24 rfl) (by decide)) nx_if1))
  (e_Tok2
  (e_Lok (ld_aload_n_0 (x_dk dn_66_0_1_ok 0 rfl)))
  (e_Lok (lk_3_44g ho_66 (x_dk dn_66_0_1_ok 1 rfl)))))
  (e_Tok2
  (e_Lok (ld_iload_n_2 (x_dk dn_66_0_1_ok 2 rfl)))
  (e_Tok2
  (e_Lok (ld_aload_n_1 (x_dk dn_66_0_1_ok 3 rfl)))
  (e_Lok (lk_3_196g ho_66 (x_dk dn_66_0_1_ok 4 rfl))))))
  (e_Tok2
  (e_Tok2
  (e_Lok (sm_iastore (x_dk dn_66_0_1_ok 5 rfl)))
  (e_Tok2
  (e_Lok (e_st (I := eI) (er_goto (off := 31) (tg := 90) (x_dk dn_66_0_1_ok 6 rfl) (by decide)) nx_goto))
  (e_Lok (ld_aload_n_1 (x_dk dn_66_0_1_ok 7 rfl)))))
  (e_Tok2
  (e_Lok (ps_iconst_5 (x_dk dn_66_0_1_ok 8 rfl)))
  (e_Tok2
  (e_Lok (lk_3_71p ho_66 (x_dk dn_66_0_1_ok 9 rfl)))
  (e_Lok (ld_aload_n_1 (x_dk dn_66_0_1_ok 10 rfl)))))))
  (e_Tok2
  (e_Tok2
  (e_Tok2
  (e_Lok (ld_iload_n_2 (x_dk dn_66_0_1_ok 11 rfl)))
  (e_Tok2
  (e_Lok (lk_3_193p ho_66 (x_dk dn_66_0_1_ok 12 rfl)))
  (e_Lok (ld_aload_n_1 (x_dk dn_66_0_1_ok 13 rfl)))))
  (e_Tok2
  (e_Lok (ld_aload_n_0 (x_dk dn_66_0_1_ok 14 rfl)))
  (e_Tok2
  (e_Lok (lk_3_67g ho_66 (x_dk dn_66_0_1_ok 15 rfl)))
  (e_Lok (lk_3_190p ho_66 (x_dk dn_66_0_1_ok 16 rfl))))))
  (e_Tok2
  (e_Tok2
  (e_Lok (ld_aload_n_0 (x_dk dn_66_0_1_ok 17 rfl)))
  (e_Tok2
  (e_Lok (e_st (I := eI) (er_dup (x_dk dn_66_0_1_ok 18 rfl)) (nx_stk bf_dup)))
  (e_Lok (lk_3_67g ho_66 (x_dk dn_66_0_1_ok 19 rfl)))))
  (e_Tok2
  (e_Tok2
  (e_Lok (ps_iconst_1 (x_dk dn_66_0_1_ok 20 rfl)))
  (e_Lok (sm_iadd (x_dk dn_66_0_1_ok 21 rfl))))
  (e_Tok2
  (e_Lok (lk_3_67p ho_66 (x_dk dn_66_0_1_ok 22 rfl)))
  (e_Lok (e_rt (I := eI) (k := 0) ⟨(x_dk dn_66_0_1_ok 23 rfl), rfl⟩)))))))
def te_66 : Nat → eE := (e_T 45 te_66_0 te_66_24)
theorem te_66_ok : ∀ pc, e_EOq eft cls elay eI n_66 pc (te_66 pc) := (e_Tok2 (te_66_0_ok) (te_66_24_ok))
theorem ho_67 : (xm_y n_67).cls = "RobotCellHouse$Doer" := rfl
def dn_67_0_0 : List (Nat × Instr × Nat) := [(0, .iload_n 2, 1), (1, .iconst 0, 1), (2, .bipush 7, 2), (4, .invokestatic 120, 3), (7, .ifCond .eq 24, 3), (10, .aload_n 0, 1), (11, .getfield 44, 3), (14, .iload_n 2, 1), (15, .iaload, 1), (16, .aload_n 1, 1), (17, .getfield 196, 3), (20, .if_icmp .ne 11, 3), (23, .aload_n 0, 1), (24, .iload_n 2, 1), (25, .invokevirtual 236, 3), (28, .goto 9, 3), (31, .aload_n 0, 1), (32, .bipush 9, 2), (34, .invokevirtual 199, 3), (37, .return_, 1)]
set_option maxRecDepth 20000 in
theorem dn_67_0_0_ok : dn_67_0_0.all (fun q => decide (decode (xm_b n_67) q.1 = .ok (q.2.1, q.2.2))) = true := xa_g_ok (by decide +kernel)
def te_67_0 : Nat → eE := (e_T 16 (e_T 7 (e_T 1 (e_T 0 (e_L 0 (0, ei_load 2 0 1, 0, 0)) (e_L 1 (0, ei_push (0, 0) 2, 0, 0))) (e_T 2 (e_L 2 (0, ei_push (0, 7) 4, 0, 0)) (e_T 4 (e_L 4 (2, e_nof, 242, 3)) (e_L 7 (0, ei_if1 0 31 10, 0, 0))))) (e_T 11 (e_T 10 (e_L 10 (0, ei_load 0 2 11, 0, 0)) (e_L 11 (0, ei_getf eft elay 3 5 14, 0, 0))) (e_T 14 (e_L 14 (0, ei_load 2 0 15, 0, 0)) (e_T 15 (e_L 15 (0, ei_ald elay false 16, 0, 0)) (e_L 16 (0, ei_load 1 2 17, 0, 0)))))) (e_T 25 (e_T 20 (e_T 17 (e_L 17 (0, ei_getf eft elay 10 0 20, 0, 0)) (e_L 20 (0, ei_if2 1 31 23, 0, 0))) (e_T 23 (e_L 23 (0, ei_load 0 2 24, 0, 0)) (e_T 24 (e_L 24 (0, ei_load 2 0 25, 0, 0)) (e_L 25 (2, e_nof, 51, 2))))) (e_T 31 (e_T 28 (e_L 28 (0, ei_goto 37, 0, 0)) (e_L 31 (0, ei_load 0 2 32, 0, 0))) (e_T 32 (e_L 32 (0, ei_push (0, 9) 34, 0, 0)) (e_T 34 (e_L 34 (2, e_nof, 46, 2)) (e_L 37 (1, e_nof, 0, 0)))))))
set_option maxRecDepth 20000 in
set_option maxHeartbeats 4000000 in
theorem te_67_0_ok : ∀ pc, e_EOq eft cls elay eI n_67 pc (te_67_0 pc) :=
  (e_Tok2
  (e_Tok2
  (e_Tok2
  (e_Tok2
  (e_Lok (ld_iload_n_2 (x_dk dn_67_0_0_ok 0 rfl)))
  (e_Lok (ps_iconst_0 (x_dk dn_67_0_0_ok 1 rfl))))
  (e_Tok2
  (e_Lok (ps_bipush_7 (x_dk dn_67_0_0_ok 2 rfl)))
  (e_Tok2
  (e_Lok (lk_3_120 ho_67 (x_dk dn_67_0_0_ok 3 rfl)))
  (e_Lok (e_st (I := eI) (er_ifeq (off := 24) (tg := 31) (x_dk dn_67_0_0_ok 4 rfl) (by decide)) nx_if1)))))
  (e_Tok2
  (e_Tok2
  (e_Lok (ld_aload_n_0 (x_dk dn_67_0_0_ok 5 rfl)))
  (e_Lok (lk_3_44g ho_67 (x_dk dn_67_0_0_ok 6 rfl))))
  (e_Tok2
  (e_Lok (ld_iload_n_2 (x_dk dn_67_0_0_ok 7 rfl)))
  (e_Tok2
  (e_Lok (sm_iaload (x_dk dn_67_0_0_ok 8 rfl)))
  (e_Lok (ld_aload_n_1 (x_dk dn_67_0_0_ok 9 rfl)))))))
  (e_Tok2
  (e_Tok2
  (e_Tok2
  (e_Lok (lk_3_196g ho_67 (x_dk dn_67_0_0_ok 10 rfl)))
  (e_Lok (e_st (I := eI) (er_icmpne (off := 11) (tg := 31) (x_dk dn_67_0_0_ok 11 rfl) (by decide)) nx_if2)))
  (e_Tok2
  (e_Lok (ld_aload_n_0 (x_dk dn_67_0_0_ok 12 rfl)))
  (e_Tok2
  (e_Lok (ld_iload_n_2 (x_dk dn_67_0_0_ok 13 rfl)))
  (e_Lok (lk_3_236 ho_67 (x_dk dn_67_0_0_ok 14 rfl))))))
  (e_Tok2
  (e_Tok2
  (e_Lok (e_st (I := eI) (er_goto (off := 9) (tg := 37) (x_dk dn_67_0_0_ok 15 rfl) (by decide)) nx_goto))
  (e_Lok (ld_aload_n_0 (x_dk dn_67_0_0_ok 16 rfl))))
  (e_Tok2
  (e_Lok (ps_bipush_9 (x_dk dn_67_0_0_ok 17 rfl)))
  (e_Tok2
  (e_Lok (lk_3_199 ho_67 (x_dk dn_67_0_0_ok 18 rfl)))
  (e_Lok (e_rt (I := eI) (k := 0) ⟨(x_dk dn_67_0_0_ok 19 rfl), rfl⟩)))))))
def te_67 : Nat → eE := te_67_0
theorem te_67_ok : ∀ pc, e_EOq eft cls elay eI n_67 pc (te_67 pc) := te_67_0_ok
theorem ho_68 : (xm_y n_68).cls = "RobotCellHouse$Doer" := rfl
def dn_68_0_0 : List (Nat × Instr × Nat) := [(0, .aload_n 0, 1), (1, .getfield 11, 3), (4, .iload_n 1, 1), (5, .aaload, 1), (6, .astore_n 2, 1), (7, .iconst (-1), 1), (8, .istore_n 3, 1), (9, .aload_n 2, 1), (10, .getfield 258, 3), (13, .ifCond .ge 33, 3), (16, .aload_n 0, 1), (17, .getfield 27, 3), (20, .aload_n 2, 1), (21, .getfield 328, 3), (24, .aload_n 2, 1), (25, .getfield 267, 3), (28, .iaload, 1), (29, .aload_n 2, 1), (30, .getfield 331, 3), (33, .aload_n 2, 1), (34, .getfield 267, 3), (37, .iaload, 1), (38, .aload_n 2, 1), (39, .getfield 334, 3), (42, .invokevirtual 337, 3)]
set_option maxRecDepth 20000 in
theorem dn_68_0_0_ok : dn_68_0_0.all (fun q => decide (decode (xm_b n_68) q.1 = .ok (q.2.1, q.2.2))) = true := xa_g_ok (by decide +kernel)
def dn_68_0_1 : List (Nat × Instr × Nat) := [(45, .istore_n 3, 1), (46, .iload_n 3, 1), (47, .ifCond .ge 10, 3), (50, .aload_n 0, 1), (51, .bipush 7, 2), (53, .invokevirtual 199, 3), (56, .return_, 1), (57, .aload_n 0, 1), (58, .getfield 27, 3), (61, .iload_n 1, 1), (62, .iload_n 3, 1), (63, .invokevirtual 341, 3), (66, .aload_n 2, 1), (67, .iload_n 3, 1), (68, .putfield 258, 3), (71, .aload_n 2, 1), (72, .aload_n 0, 1), (73, .getfield 27, 3), (76, .getfield 344, 3), (79, .iload_n 3, 1), (80, .iaload, 1), (81, .putfield 347, 3), (84, .aload_n 0, 1), (85, .getfield 34, 3), (88, .bipush 6, 2)]
set_option maxRecDepth 20000 in
theorem dn_68_0_1_ok : dn_68_0_1.all (fun q => decide (decode (xm_b n_68) q.1 = .ok (q.2.1, q.2.2))) = true := xa_g_ok (by decide +kernel)
def dn_68_0_2 : List (Nat × Instr × Nat) := [(90, .iload_n 1, 1), (91, .iload_n 3, 1), (92, .invokevirtual 108, 3), (95, .aload_n 0, 1), (96, .iconst (-1), 1), (97, .invokevirtual 350, 3), (100, .return_, 1)]
set_option maxRecDepth 20000 in
theorem dn_68_0_2_ok : dn_68_0_2.all (fun q => decide (decode (xm_b n_68) q.1 = .ok (q.2.1, q.2.2))) = true := xa_g_ok (by decide +kernel)
def te_68_0 : Nat → eE := (e_T 21 (e_T 8 (e_T 4 (e_T 0 (e_L 0 (0, ei_load 0 2 1, 0, 0)) (e_T 1 (e_L 1 (0, ei_getf eft elay 3 0 4, 0, 0)) (e_L 4 (0, ei_load 1 0 5, 0, 0)))) (e_T 6 (e_T 5 (e_L 5 (0, ei_aald elay 6, 0, 0)) (e_L 6 (0, ei_stor 2 2 7, 0, 0))) (e_T 7 (e_L 7 (0, ei_push (0, (-1)) 8, 0, 0)) (e_L 8 (0, ei_stor 3 0 9, 0, 0))))) (e_T 13 (e_T 9 (e_L 9 (0, ei_load 2 2 10, 0, 0)) (e_T 10 (e_L 10 (0, ei_getf eft elay 0 14 13, 0, 0)) (e_L 13 (0, ei_if1 3 46 16, 0, 0)))) (e_T 17 (e_T 16 (e_L 16 (0, ei_load 0 2 17, 0, 0)) (e_L 17 (0, ei_getf eft elay 3 2 20, 0, 0))) (e_T 20 (e_L 20 (0, ei_load 2 2 21, 0, 0)) (e_L 21 (0, ei_getf eft elay 0 1 24, 0, 0)))))) (e_T 34 (e_T 28 (e_T 24 (e_L 24 (0, ei_load 2 2 25, 0, 0)) (e_T 25 (e_L 25 (0, ei_getf eft elay 0 8 28, 0, 0)) (e_L 28 (0, ei_ald elay false 29, 0, 0)))) (e_T 30 (e_T 29 (e_L 29 (0, ei_load 2 2 30, 0, 0)) (e_L 30 (0, ei_getf eft elay 0 2 33, 0, 0))) (e_T 33 (e_L 33 (0, ei_load 2 2 34, 0, 0)) (e_L 34 (0, ei_getf eft elay 0 8 37, 0, 0))))) (e_T 39 (e_T 37 (e_L 37 (0, ei_ald elay false 38, 0, 0)) (e_T 38 (e_L 38 (0, ei_load 2 2 39, 0, 0)) (e_L 39 (0, ei_getf eft elay 0 10 42, 0, 0)))) (e_T 45 (e_T 42 (e_L 42 (2, e_nof, 83, 4)) (e_L 45 (0, ei_stor 3 0 46, 0, 0))) (e_T 46 (e_L 46 (0, ei_load 3 0 47, 0, 0)) (e_L 47 (0, ei_if1 3 57 50, 0, 0)))))))
set_option maxRecDepth 20000 in
set_option maxHeartbeats 4000000 in
theorem te_68_0_ok : ∀ pc, e_EOq eft cls elay eI n_68 pc (te_68_0 pc) :=
  (e_Tok2
  (e_Tok2
  (e_Tok2
  (e_Tok2
  (e_Lok (ld_aload_n_0 (x_dk dn_68_0_0_ok 0 rfl)))
  (e_Tok2
  (e_Lok (lk_3_11g ho_68 (x_dk dn_68_0_0_ok 1 rfl)))
  (e_Lok (ld_iload_n_1 (x_dk dn_68_0_0_ok 2 rfl)))))
  (e_Tok2
  (e_Tok2
  (e_Lok (e_st (I := eI) (er_aaload (x_dk dn_68_0_0_ok 3 rfl)) nx_aald))
  (e_Lok (e_st (I := eI) (er_astore_n (i := 2) (x_dk dn_68_0_0_ok 4 rfl) (by decide +kernel)) nx_stor)))
  (e_Tok2
  (e_Lok (ps_iconst_m1 (x_dk dn_68_0_0_ok 5 rfl)))
  (e_Lok (e_st (I := eI) (er_istore_n (i := 3) (x_dk dn_68_0_0_ok 6 rfl) (by decide +kernel)) nx_stor)))))
  (e_Tok2
  (e_Tok2
  (e_Lok (ld_aload_n_2 (x_dk dn_68_0_0_ok 7 rfl)))
  (e_Tok2
  (e_Lok (lk_3_258g ho_68 (x_dk dn_68_0_0_ok 8 rfl)))
  (e_Lok (e_st (I := eI) (er_ifge (off := 33) (tg := 46) (x_dk dn_68_0_0_ok 9 rfl) (by decide)) nx_if1))))
  (e_Tok2
  (e_Tok2
  (e_Lok (ld_aload_n_0 (x_dk dn_68_0_0_ok 10 rfl)))
  (e_Lok (lk_3_27g ho_68 (x_dk dn_68_0_0_ok 11 rfl))))
  (e_Tok2
  (e_Lok (ld_aload_n_2 (x_dk dn_68_0_0_ok 12 rfl)))
  (e_Lok (lk_3_328g ho_68 (x_dk dn_68_0_0_ok 13 rfl)))))))
  (e_Tok2
  (e_Tok2
  (e_Tok2
  (e_Lok (ld_aload_n_2 (x_dk dn_68_0_0_ok 14 rfl)))
  (e_Tok2
  (e_Lok (lk_3_267g ho_68 (x_dk dn_68_0_0_ok 15 rfl)))
  (e_Lok (sm_iaload (x_dk dn_68_0_0_ok 16 rfl)))))
  (e_Tok2
  (e_Tok2
  (e_Lok (ld_aload_n_2 (x_dk dn_68_0_0_ok 17 rfl)))
  (e_Lok (lk_3_331g ho_68 (x_dk dn_68_0_0_ok 18 rfl))))
  (e_Tok2
  (e_Lok (ld_aload_n_2 (x_dk dn_68_0_0_ok 19 rfl)))
  (e_Lok (lk_3_267g ho_68 (x_dk dn_68_0_0_ok 20 rfl))))))
  (e_Tok2
  (e_Tok2
  (e_Lok (sm_iaload (x_dk dn_68_0_0_ok 21 rfl)))
  (e_Tok2
  (e_Lok (ld_aload_n_2 (x_dk dn_68_0_0_ok 22 rfl)))
  (e_Lok (lk_3_334g ho_68 (x_dk dn_68_0_0_ok 23 rfl)))))
  (e_Tok2
  (e_Tok2
  (e_Lok (lk_3_337 ho_68 (x_dk dn_68_0_0_ok 24 rfl)))
  (e_Lok (e_st (I := eI) (er_istore_n (i := 3) (x_dk dn_68_0_1_ok 0 rfl) (by decide +kernel)) nx_stor)))
  (e_Tok2
  (e_Lok (ld_iload_n_3 (x_dk dn_68_0_1_ok 1 rfl)))
  (e_Lok (e_st (I := eI) (er_ifge (off := 10) (tg := 57) (x_dk dn_68_0_1_ok 2 rfl) (by decide)) nx_if1)))))))
def te_68_28 : Nat → eE := (e_T 72 (e_T 61 (e_T 53 (e_T 50 (e_L 50 (0, ei_load 0 2 51, 0, 0)) (e_T 51 (e_L 51 (0, ei_push (0, 7) 53, 0, 0)) (e_L 53 (2, e_nof, 46, 2)))) (e_T 57 (e_T 56 (e_L 56 (1, e_nof, 0, 0)) (e_L 57 (0, ei_load 0 2 58, 0, 0))) (e_T 58 (e_L 58 (0, ei_getf eft elay 3 2 61, 0, 0)) (e_L 61 (0, ei_load 1 0 62, 0, 0))))) (e_T 66 (e_T 62 (e_L 62 (0, ei_load 3 0 63, 0, 0)) (e_T 63 (e_L 63 (2, e_nof, 84, 3)) (e_L 66 (0, ei_load 2 2 67, 0, 0)))) (e_T 68 (e_T 67 (e_L 67 (0, ei_load 3 0 68, 0, 0)) (e_L 68 (0, ei_putf eft elay 0 14 0 71, 0, 0))) (e_T 71 (e_L 71 (0, ei_load 2 2 72, 0, 0)) (e_L 72 (0, ei_load 0 2 73, 0, 0)))))) (e_T 85 (e_T 79 (e_T 73 (e_L 73 (0, ei_getf eft elay 3 2 76, 0, 0)) (e_T 76 (e_L 76 (0, ei_getf eft elay 4 16 79, 0, 0)) (e_L 79 (0, ei_load 3 0 80, 0, 0)))) (e_T 81 (e_T 80 (e_L 80 (0, ei_ald elay false 81, 0, 0)) (e_L 81 (0, ei_putf eft elay 0 15 0 84, 0, 0))) (e_T 84 (e_L 84 (0, ei_load 0 2 85, 0, 0)) (e_L 85 (0, ei_getf eft elay 3 3 88, 0, 0))))) (e_T 92 (e_T 90 (e_T 88 (e_L 88 (0, ei_push (0, 6) 90, 0, 0)) (e_L 90 (0, ei_load 1 0 91, 0, 0))) (e_T 91 (e_L 91 (0, ei_load 3 0 92, 0, 0)) (e_L 92 (2, e_nof, 27, 4)))) (e_T 96 (e_T 95 (e_L 95 (0, ei_load 0 2 96, 0, 0)) (e_L 96 (0, ei_push (0, (-1)) 97, 0, 0))) (e_T 97 (e_L 97 (2, e_nof, 39, 2)) (e_L 100 (1, e_nof, 0, 0)))))))
set_option maxRecDepth 20000 in
set_option maxHeartbeats 4000000 in
theorem te_68_28_ok : ∀ pc, e_EOq eft cls elay eI n_68 pc (te_68_28 pc) :=
  (e_Tok2
  (e_Tok2
  (e_Tok2
  (e_Tok2
  (e_Lok (ld_aload_n_0 (x_dk dn_68_0_1_ok 3 rfl)))
  (e_Tok2
  (e_Lok (ps_bipush_7 (x_dk dn_68_0_1_ok 4 rfl)))
  (e_Lok (lk_3_199 ho_68 (x_dk dn_68_0_1_ok 5 rfl)))))
  (e_Tok2
  (e_Tok2
  (e_Lok (e_rt (I := eI) (k := 0) ⟨(x_dk dn_68_0_1_ok 6 rfl), rfl⟩))
  (e_Lok (ld_aload_n_0 (x_dk dn_68_0_1_ok 7 rfl))))
  (e_Tok2
  (e_Lok (lk_3_27g ho_68 (x_dk dn_68_0_1_ok 8 rfl)))
  (e_Lok (ld_iload_n_1 (x_dk dn_68_0_1_ok 9 rfl))))))
  (e_Tok2
  (e_Tok2
  (e_Lok (ld_iload_n_3 (x_dk dn_68_0_1_ok 10 rfl)))
  (e_Tok2
  (e_Lok (lk_3_341 ho_68 (x_dk dn_68_0_1_ok 11 rfl)))
  (e_Lok (ld_aload_n_2 (x_dk dn_68_0_1_ok 12 rfl)))))
  (e_Tok2
  (e_Tok2
  (e_Lok (ld_iload_n_3 (x_dk dn_68_0_1_ok 13 rfl)))
  (e_Lok (lk_3_258p ho_68 (x_dk dn_68_0_1_ok 14 rfl))))
  (e_Tok2
  (e_Lok (ld_aload_n_2 (x_dk dn_68_0_1_ok 15 rfl)))
  (e_Lok (ld_aload_n_0 (x_dk dn_68_0_1_ok 16 rfl)))))))
  (e_Tok2
  (e_Tok2
  (e_Tok2
  (e_Lok (lk_3_27g ho_68 (x_dk dn_68_0_1_ok 17 rfl)))
  (e_Tok2
  (e_Lok (lk_3_344g ho_68 (x_dk dn_68_0_1_ok 18 rfl)))
  (e_Lok (ld_iload_n_3 (x_dk dn_68_0_1_ok 19 rfl)))))
  (e_Tok2
  (e_Tok2
  (e_Lok (sm_iaload (x_dk dn_68_0_1_ok 20 rfl)))
  (e_Lok (lk_3_347p ho_68 (x_dk dn_68_0_1_ok 21 rfl))))
  (e_Tok2
  (e_Lok (ld_aload_n_0 (x_dk dn_68_0_1_ok 22 rfl)))
  (e_Lok (lk_3_34g ho_68 (x_dk dn_68_0_1_ok 23 rfl))))))
  (e_Tok2
  (e_Tok2
  (e_Tok2
  (e_Lok (ps_bipush_6 (x_dk dn_68_0_1_ok 24 rfl)))
  (e_Lok (ld_iload_n_1 (x_dk dn_68_0_2_ok 0 rfl))))
  (e_Tok2
  (e_Lok (ld_iload_n_3 (x_dk dn_68_0_2_ok 1 rfl)))
  (e_Lok (lk_3_108 ho_68 (x_dk dn_68_0_2_ok 2 rfl)))))
  (e_Tok2
  (e_Tok2
  (e_Lok (ld_aload_n_0 (x_dk dn_68_0_2_ok 3 rfl)))
  (e_Lok (ps_iconst_m1 (x_dk dn_68_0_2_ok 4 rfl))))
  (e_Tok2
  (e_Lok (lk_3_350 ho_68 (x_dk dn_68_0_2_ok 5 rfl)))
  (e_Lok (e_rt (I := eI) (k := 0) ⟨(x_dk dn_68_0_2_ok 6 rfl), rfl⟩)))))))
def te_68 : Nat → eE := (e_T 47 te_68_0 te_68_28)
theorem te_68_ok : ∀ pc, e_EOq eft cls elay eI n_68 pc (te_68 pc) := (e_Tok2 (te_68_0_ok) (te_68_28_ok))
end
end
-- part 41ae
section
noncomputable section
theorem ho_69 : (xm_y n_69).cls = "RobotCellHouse$Doer" := rfl
def dn_69_0_0 : List (Nat × Instr × Nat) := [(0, .aload_n 0, 1), (1, .getfield 11, 3), (4, .iload_n 1, 1), (5, .aaload, 1), (6, .astore_n 2, 1), (7, .aload_n 2, 1), (8, .getfield 258, 3), (11, .istore_n 3, 1), (12, .iload_n 3, 1), (13, .ifCond .ge 10, 3), (16, .aload_n 0, 1), (17, .bipush 7, 2), (19, .invokevirtual 199, 3), (22, .return_, 1), (23, .aload_n 0, 1), (24, .getfield 27, 3), (27, .iload_n 3, 1), (28, .aload_n 2, 1), (29, .getfield 328, 3), (32, .aload_n 2, 1), (33, .getfield 267, 3), (36, .iaload, 1), (37, .aload_n 2, 1), (38, .getfield 331, 3), (41, .aload_n 2, 1)]
set_option maxRecDepth 20000 in
theorem dn_69_0_0_ok : dn_69_0_0.all (fun q => decide (decode (xm_b n_69) q.1 = .ok (q.2.1, q.2.2))) = true := xa_g_ok (by decide +kernel)
def dn_69_0_1 : List (Nat × Instr × Nat) := [(42, .getfield 267, 3), (45, .iaload, 1), (46, .invokevirtual 353, 3), (49, .aload_n 2, 1), (50, .iconst (-1), 1), (51, .putfield 258, 3), (54, .aload_n 0, 1), (55, .getfield 34, 3), (58, .bipush 7, 2), (60, .iload_n 1, 1), (61, .iload_n 3, 1), (62, .invokevirtual 108, 3), (65, .aload_n 0, 1), (66, .iconst (-1), 1), (67, .invokevirtual 350, 3), (70, .return_, 1)]
set_option maxRecDepth 20000 in
theorem dn_69_0_1_ok : dn_69_0_1.all (fun q => decide (decode (xm_b n_69) q.1 = .ok (q.2.1, q.2.2))) = true := xa_g_ok (by decide +kernel)
def te_69_0 : Nat → eE := (e_T 13 (e_T 6 (e_T 1 (e_T 0 (e_L 0 (0, ei_load 0 2 1, 0, 0)) (e_L 1 (0, ei_getf eft elay 3 0 4, 0, 0))) (e_T 4 (e_L 4 (0, ei_load 1 0 5, 0, 0)) (e_T 5 (e_L 5 (0, ei_aald elay 6, 0, 0)) (e_L 6 (0, ei_stor 2 2 7, 0, 0))))) (e_T 8 (e_T 7 (e_L 7 (0, ei_load 2 2 8, 0, 0)) (e_L 8 (0, ei_getf eft elay 0 14 11, 0, 0))) (e_T 11 (e_L 11 (0, ei_stor 3 0 12, 0, 0)) (e_T 12 (e_L 12 (0, ei_load 3 0 13, 0, 0)) (e_L 13 (0, ei_if1 3 23 16, 0, 0)))))) (e_T 23 (e_T 17 (e_T 16 (e_L 16 (0, ei_load 0 2 17, 0, 0)) (e_L 17 (0, ei_push (0, 7) 19, 0, 0))) (e_T 19 (e_L 19 (2, e_nof, 46, 2)) (e_T 22 (e_L 22 (1, e_nof, 0, 0)) (e_L 23 (0, ei_load 0 2 24, 0, 0))))) (e_T 27 (e_T 24 (e_L 24 (0, ei_getf eft elay 3 2 27, 0, 0)) (e_L 27 (0, ei_load 3 0 28, 0, 0))) (e_T 28 (e_L 28 (0, ei_load 2 2 29, 0, 0)) (e_T 29 (e_L 29 (0, ei_getf eft elay 0 1 32, 0, 0)) (e_L 32 (0, ei_load 2 2 33, 0, 0)))))))
set_option maxRecDepth 20000 in
set_option maxHeartbeats 4000000 in
theorem te_69_0_ok : ∀ pc, e_EOq eft cls elay eI n_69 pc (te_69_0 pc) :=
  (e_Tok2
  (e_Tok2
  (e_Tok2
  (e_Tok2
  (e_Lok (ld_aload_n_0 (x_dk dn_69_0_0_ok 0 rfl)))
  (e_Lok (lk_3_11g ho_69 (x_dk dn_69_0_0_ok 1 rfl))))
  (e_Tok2
  (e_Lok (ld_iload_n_1 (x_dk dn_69_0_0_ok 2 rfl)))
  (e_Tok2
  (e_Lok (e_st (I := eI) (er_aaload (x_dk dn_69_0_0_ok 3 rfl)) nx_aald))
  (e_Lok (e_st (I := eI) (er_astore_n (i := 2) (x_dk dn_69_0_0_ok 4 rfl) (by decide +kernel)) nx_stor)))))
  (e_Tok2
  (e_Tok2
  (e_Lok (ld_aload_n_2 (x_dk dn_69_0_0_ok 5 rfl)))
  (e_Lok (lk_3_258g ho_69 (x_dk dn_69_0_0_ok 6 rfl))))
  (e_Tok2
  (e_Lok (e_st (I := eI) (er_istore_n (i := 3) (x_dk dn_69_0_0_ok 7 rfl) (by decide +kernel)) nx_stor))
  (e_Tok2
  (e_Lok (ld_iload_n_3 (x_dk dn_69_0_0_ok 8 rfl)))
  (e_Lok (e_st (I := eI) (er_ifge (off := 10) (tg := 23) (x_dk dn_69_0_0_ok 9 rfl) (by decide)) nx_if1))))))
  (e_Tok2
  (e_Tok2
  (e_Tok2
  (e_Lok (ld_aload_n_0 (x_dk dn_69_0_0_ok 10 rfl)))
  (e_Lok (ps_bipush_7 (x_dk dn_69_0_0_ok 11 rfl))))
  (e_Tok2
  (e_Lok (lk_3_199 ho_69 (x_dk dn_69_0_0_ok 12 rfl)))
  (e_Tok2
  (e_Lok (e_rt (I := eI) (k := 0) ⟨(x_dk dn_69_0_0_ok 13 rfl), rfl⟩))
  (e_Lok (ld_aload_n_0 (x_dk dn_69_0_0_ok 14 rfl))))))
  (e_Tok2
  (e_Tok2
  (e_Lok (lk_3_27g ho_69 (x_dk dn_69_0_0_ok 15 rfl)))
  (e_Lok (ld_iload_n_3 (x_dk dn_69_0_0_ok 16 rfl))))
  (e_Tok2
  (e_Lok (ld_aload_n_2 (x_dk dn_69_0_0_ok 17 rfl)))
  (e_Tok2
  (e_Lok (lk_3_328g ho_69 (x_dk dn_69_0_0_ok 18 rfl)))
  (e_Lok (ld_aload_n_2 (x_dk dn_69_0_0_ok 19 rfl))))))))
def te_69_20 : Nat → eE := (e_T 50 (e_T 41 (e_T 36 (e_T 33 (e_L 33 (0, ei_getf eft elay 0 8 36, 0, 0)) (e_L 36 (0, ei_ald elay false 37, 0, 0))) (e_T 37 (e_L 37 (0, ei_load 2 2 38, 0, 0)) (e_T 38 (e_L 38 (0, ei_getf eft elay 0 2 41, 0, 0)) (e_L 41 (0, ei_load 2 2 42, 0, 0))))) (e_T 45 (e_T 42 (e_L 42 (0, ei_getf eft elay 0 8 45, 0, 0)) (e_L 45 (0, ei_ald elay false 46, 0, 0))) (e_T 46 (e_L 46 (2, e_nof, 85, 4)) (e_T 49 (e_L 49 (0, ei_load 2 2 50, 0, 0)) (e_L 50 (0, ei_push (0, (-1)) 51, 0, 0)))))) (e_T 60 (e_T 54 (e_T 51 (e_L 51 (0, ei_putf eft elay 0 14 0 54, 0, 0)) (e_L 54 (0, ei_load 0 2 55, 0, 0))) (e_T 55 (e_L 55 (0, ei_getf eft elay 3 3 58, 0, 0)) (e_T 58 (e_L 58 (0, ei_push (0, 7) 60, 0, 0)) (e_L 60 (0, ei_load 1 0 61, 0, 0))))) (e_T 65 (e_T 61 (e_L 61 (0, ei_load 3 0 62, 0, 0)) (e_T 62 (e_L 62 (2, e_nof, 27, 4)) (e_L 65 (0, ei_load 0 2 66, 0, 0)))) (e_T 66 (e_L 66 (0, ei_push (0, (-1)) 67, 0, 0)) (e_T 67 (e_L 67 (2, e_nof, 39, 2)) (e_L 70 (1, e_nof, 0, 0)))))))
set_option maxRecDepth 20000 in
set_option maxHeartbeats 4000000 in
theorem te_69_20_ok : ∀ pc, e_EOq eft cls elay eI n_69 pc (te_69_20 pc) :=
  (e_Tok2
  (e_Tok2
  (e_Tok2
  (e_Tok2
  (e_Lok (lk_3_267g ho_69 (x_dk dn_69_0_0_ok 20 rfl)))
  (e_Lok (sm_iaload (x_dk dn_69_0_0_ok 21 rfl))))
  (e_Tok2
  (e_Lok (ld_aload_n_2 (x_dk dn_69_0_0_ok 22 rfl)))
  (e_Tok2
  (e_Lok (lk_3_331g ho_69 (x_dk dn_69_0_0_ok 23 rfl)))
  (e_Lok (ld_aload_n_2 (x_dk dn_69_0_0_ok 24 rfl))))))
  (e_Tok2
  (e_Tok2
  (e_Lok (lk_3_267g ho_69 (x_dk dn_69_0_1_ok 0 rfl)))
  (e_Lok (sm_iaload (x_dk dn_69_0_1_ok 1 rfl))))
  (e_Tok2
  (e_Lok (lk_3_353 ho_69 (x_dk dn_69_0_1_ok 2 rfl)))
  (e_Tok2
  (e_Lok (ld_aload_n_2 (x_dk dn_69_0_1_ok 3 rfl)))
  (e_Lok (ps_iconst_m1 (x_dk dn_69_0_1_ok 4 rfl)))))))
  (e_Tok2
  (e_Tok2
  (e_Tok2
  (e_Lok (lk_3_258p ho_69 (x_dk dn_69_0_1_ok 5 rfl)))
  (e_Lok (ld_aload_n_0 (x_dk dn_69_0_1_ok 6 rfl))))
  (e_Tok2
  (e_Lok (lk_3_34g ho_69 (x_dk dn_69_0_1_ok 7 rfl)))
  (e_Tok2
  (e_Lok (ps_bipush_7 (x_dk dn_69_0_1_ok 8 rfl)))
  (e_Lok (ld_iload_n_1 (x_dk dn_69_0_1_ok 9 rfl))))))
  (e_Tok2
  (e_Tok2
  (e_Lok (ld_iload_n_3 (x_dk dn_69_0_1_ok 10 rfl)))
  (e_Tok2
  (e_Lok (lk_3_108 ho_69 (x_dk dn_69_0_1_ok 11 rfl)))
  (e_Lok (ld_aload_n_0 (x_dk dn_69_0_1_ok 12 rfl)))))
  (e_Tok2
  (e_Lok (ps_iconst_m1 (x_dk dn_69_0_1_ok 13 rfl)))
  (e_Tok2
  (e_Lok (lk_3_350 ho_69 (x_dk dn_69_0_1_ok 14 rfl)))
  (e_Lok (e_rt (I := eI) (k := 0) ⟨(x_dk dn_69_0_1_ok 15 rfl), rfl⟩)))))))
def te_69 : Nat → eE := (e_T 32 te_69_0 te_69_20)
theorem te_69_ok : ∀ pc, e_EOq eft cls elay eI n_69 pc (te_69 pc) := (e_Tok2 (te_69_0_ok) (te_69_20_ok))
theorem ho_70 : (xm_y n_70).cls = "RobotCellHouse$Doer" := rfl
def dn_70_0_0 : List (Nat × Instr × Nat) := [(0, .iload_n 2, 1), (1, .iconst (-1), 1), (2, .bipush 63, 2), (4, .invokestatic 120, 3), (7, .ifCond .ne 9, 3), (10, .aload_n 0, 1), (11, .iconst 2, 1), (12, .invokevirtual 199, 3), (15, .return_, 1), (16, .aload_n 1, 1), (17, .iload_n 2, 1), (18, .putfield 208, 3), (21, .aload_n 1, 1), (22, .iload_n 3, 1), (23, .putfield 217, 3), (26, .iload_n 2, 1), (27, .ifCond .lt 16, 3), (30, .aload_n 1, 1), (31, .aload_n 0, 1), (32, .getfield 20, 3), (35, .getfield 211, 3), (38, .iload_n 2, 1), (39, .iaload, 1), (40, .putfield 214, 3), (43, .return_, 1)]
set_option maxRecDepth 20000 in
theorem dn_70_0_0_ok : dn_70_0_0.all (fun q => decide (decode (xm_b n_70) q.1 = .ok (q.2.1, q.2.2))) = true := xa_g_ok (by decide +kernel)
def te_70_0 : Nat → eE := (e_T 18 (e_T 10 (e_T 2 (e_T 0 (e_L 0 (0, ei_load 2 0 1, 0, 0)) (e_T 1 (e_L 1 (0, ei_push (0, (-1)) 2, 0, 0)) (e_L 2 (0, ei_push (0, 63) 4, 0, 0)))) (e_T 4 (e_L 4 (2, e_nof, 242, 3)) (e_T 7 (e_L 7 (0, ei_if1 1 16 10, 0, 0)) (e_L 10 (0, ei_load 0 2 11, 0, 0))))) (e_T 15 (e_T 11 (e_L 11 (0, ei_push (0, 2) 12, 0, 0)) (e_T 12 (e_L 12 (2, e_nof, 46, 2)) (e_L 15 (1, e_nof, 0, 0)))) (e_T 16 (e_L 16 (0, ei_load 1 2 17, 0, 0)) (e_T 17 (e_L 17 (0, ei_load 2 0 18, 0, 0)) (e_L 18 (0, ei_putf eft elay 10 11 0 21, 0, 0)))))) (e_T 30 (e_T 23 (e_T 21 (e_L 21 (0, ei_load 1 2 22, 0, 0)) (e_T 22 (e_L 22 (0, ei_load 3 0 23, 0, 0)) (e_L 23 (0, ei_putf eft elay 10 12 0 26, 0, 0)))) (e_T 26 (e_L 26 (0, ei_load 2 0 27, 0, 0)) (e_T 27 (e_L 27 (0, ei_if1 2 43 30, 0, 0)) (e_L 30 (0, ei_load 1 2 31, 0, 0))))) (e_T 35 (e_T 31 (e_L 31 (0, ei_load 0 2 32, 0, 0)) (e_T 32 (e_L 32 (0, ei_getf eft elay 3 1 35, 0, 0)) (e_L 35 (0, ei_getf eft elay 7 2 38, 0, 0)))) (e_T 39 (e_T 38 (e_L 38 (0, ei_load 2 0 39, 0, 0)) (e_L 39 (0, ei_ald elay false 40, 0, 0))) (e_T 40 (e_L 40 (0, ei_putf eft elay 10 13 0 43, 0, 0)) (e_L 43 (1, e_nof, 0, 0)))))))
set_option maxRecDepth 20000 in
set_option maxHeartbeats 4000000 in
theorem te_70_0_ok : ∀ pc, e_EOq eft cls elay eI n_70 pc (te_70_0 pc) :=
  (e_Tok2
  (e_Tok2
  (e_Tok2
  (e_Tok2
  (e_Lok (ld_iload_n_2 (x_dk dn_70_0_0_ok 0 rfl)))
  (e_Tok2
  (e_Lok (ps_iconst_m1 (x_dk dn_70_0_0_ok 1 rfl)))
  (e_Lok (ps_bipush_63 (x_dk dn_70_0_0_ok 2 rfl)))))
  (e_Tok2
  (e_Lok (lk_3_120 ho_70 (x_dk dn_70_0_0_ok 3 rfl)))
  (e_Tok2
  (e_Lok (e_st (I := eI) (er_ifne (off := 9) (tg := 16) (x_dk dn_70_0_0_ok 4 rfl) (by decide)) nx_if1))
  (e_Lok (ld_aload_n_0 (x_dk dn_70_0_0_ok 5 rfl))))))
  (e_Tok2
  (e_Tok2
  (e_Lok (ps_iconst_2 (x_dk dn_70_0_0_ok 6 rfl)))
  (e_Tok2
  (e_Lok (lk_3_199 ho_70 (x_dk dn_70_0_0_ok 7 rfl)))
  (e_Lok (e_rt (I := eI) (k := 0) ⟨(x_dk dn_70_0_0_ok 8 rfl), rfl⟩))))
  (e_Tok2
  (e_Lok (ld_aload_n_1 (x_dk dn_70_0_0_ok 9 rfl)))
  (e_Tok2
  (e_Lok (ld_iload_n_2 (x_dk dn_70_0_0_ok 10 rfl)))
  (e_Lok (lk_3_208p ho_70 (x_dk dn_70_0_0_ok 11 rfl)))))))
  (e_Tok2
  (e_Tok2
  (e_Tok2
  (e_Lok (ld_aload_n_1 (x_dk dn_70_0_0_ok 12 rfl)))
  (e_Tok2
  (e_Lok (ld_iload_n_3 (x_dk dn_70_0_0_ok 13 rfl)))
  (e_Lok (lk_3_217p ho_70 (x_dk dn_70_0_0_ok 14 rfl)))))
  (e_Tok2
  (e_Lok (ld_iload_n_2 (x_dk dn_70_0_0_ok 15 rfl)))
  (e_Tok2
  (e_Lok (e_st (I := eI) (er_iflt (off := 16) (tg := 43) (x_dk dn_70_0_0_ok 16 rfl) (by decide)) nx_if1))
  (e_Lok (ld_aload_n_1 (x_dk dn_70_0_0_ok 17 rfl))))))
  (e_Tok2
  (e_Tok2
  (e_Lok (ld_aload_n_0 (x_dk dn_70_0_0_ok 18 rfl)))
  (e_Tok2
  (e_Lok (lk_3_20g ho_70 (x_dk dn_70_0_0_ok 19 rfl)))
  (e_Lok (lk_3_211g ho_70 (x_dk dn_70_0_0_ok 20 rfl)))))
  (e_Tok2
  (e_Tok2
  (e_Lok (ld_iload_n_2 (x_dk dn_70_0_0_ok 21 rfl)))
  (e_Lok (sm_iaload (x_dk dn_70_0_0_ok 22 rfl))))
  (e_Tok2
  (e_Lok (lk_3_214p ho_70 (x_dk dn_70_0_0_ok 23 rfl)))
  (e_Lok (e_rt (I := eI) (k := 0) ⟨(x_dk dn_70_0_0_ok 24 rfl), rfl⟩)))))))
def te_70 : Nat → eE := te_70_0
theorem te_70_ok : ∀ pc, e_EOq eft cls elay eI n_70 pc (te_70 pc) := te_70_0_ok
theorem ho_71 : (xm_y n_71).cls = "RobotCellHouse$Doer" := rfl
def dn_71_0_0 : List (Nat × Instr × Nat) := [(0, .iload_n 3, 1), (1, .tableswitch 140 40 48 #[51, 60, 76, 87, 94, 140, 106, 119, 127], 51), (52, .aload_n 1, 1), (53, .iload 4, 2), (55, .putfield 141, 3), (58, .goto 83, 3), (61, .aload_n 0, 1), (62, .invokevirtual 166, 3), (65, .ifCond .ne 76, 3), (68, .aload_n 1, 1), (69, .iload 4, 2), (71, .putfield 141, 3), (74, .goto 67, 3), (77, .aload_n 1, 1), (78, .aload_n 2, 1), (79, .iconst 2, 1), (80, .iconst 0, 1), (81, .invokevirtual 182, 3), (84, .pop, 1), (85, .goto 56, 3), (88, .aload_n 1, 1), (89, .invokevirtual 356, 3), (92, .goto 49, 3), (95, .aload_n 1, 1), (96, .aload_n 2, 1)]
set_option maxRecDepth 20000 in
theorem dn_71_0_0_ok : dn_71_0_0.all (fun q => decide (decode (xm_b n_71) q.1 = .ok (q.2.1, q.2.2))) = true := xa_g_ok (by decide +kernel)
def dn_71_0_1 : List (Nat × Instr × Nat) := [(97, .iconst 3, 1), (98, .iload 4, 2), (100, .invokevirtual 182, 3), (103, .pop, 1), (104, .goto 37, 3), (107, .aload_n 1, 1), (108, .aload_n 1, 1), (109, .getfield 141, 3), (112, .iconst 1, 1), (113, .isub, 1), (114, .invokevirtual 359, 3), (117, .goto 24, 3), (120, .aload_n 1, 1), (121, .aload_n 2, 1), (122, .invokevirtual 362, 3), (125, .goto 16, 3), (128, .aload_n 0, 1), (129, .aload_n 1, 1), (130, .aload_n 2, 1), (131, .aload_n 1, 1), (132, .invokevirtual 366, 3), (135, .invokevirtual 369, 3), (138, .goto 3, 3), (141, .aload_n 0, 1), (142, .aload_n 1, 1)]
set_option maxRecDepth 20000 in
theorem dn_71_0_1_ok : dn_71_0_1.all (fun q => decide (decode (xm_b n_71) q.1 = .ok (q.2.1, q.2.2))) = true := xa_g_ok (by decide +kernel)
def dn_71_0_2 : List (Nat × Instr × Nat) := [(143, .invokevirtual 373, 3), (146, .return_, 1)]
set_option maxRecDepth 20000 in
theorem dn_71_0_2_ok : dn_71_0_2.all (fun q => decide (decode (xm_b n_71) q.1 = .ok (q.2.1, q.2.2))) = true := xa_g_ok (by decide +kernel)
def te_71_0 : Nat → eE := (e_T 74 (e_T 58 (e_T 52 (e_T 0 (e_L 0 (0, ei_load 3 0 1, 0, 0)) (e_T 1 (e_L 1 (0, ei_sw [((-2147483648), 39, 141), (40, 40, 52), (41, 41, 61), (42, 42, 77), (43, 43, 88), (44, 44, 95), (45, 45, 141), (46, 46, 107), (47, 47, 120), (48, 48, 128), (49, 2147483647, 141)], 0, 0)) (e_L 52 (0, ei_load 1 2 53, 0, 0)))) (e_T 53 (e_L 53 (0, ei_load 4 0 55, 0, 0)) (e_T 55 (e_L 55 (0, ei_putf eft elay 10 3 0 58, 0, 0)) (e_L 58 (0, ei_goto 141, 0, 0))))) (e_T 65 (e_T 61 (e_L 61 (0, ei_load 0 2 62, 0, 0)) (e_T 62 (e_L 62 (2, e_nof, 53, 1)) (e_L 65 (0, ei_if1 1 141 68, 0, 0)))) (e_T 69 (e_T 68 (e_L 68 (0, ei_load 1 2 69, 0, 0)) (e_L 69 (0, ei_load 4 0 71, 0, 0))) (e_T 71 (e_L 71 (0, ei_putf eft elay 10 3 0 74, 0, 0)) (e_L 74 (0, ei_goto 141, 0, 0)))))) (e_T 84 (e_T 79 (e_T 77 (e_L 77 (0, ei_load 1 2 78, 0, 0)) (e_T 78 (e_L 78 (0, ei_load 2 2 79, 0, 0)) (e_L 79 (0, ei_push (0, 2) 80, 0, 0)))) (e_T 80 (e_L 80 (0, ei_push (0, 0) 81, 0, 0)) (e_T 81 (e_L 81 (2, e_nof, 188, 4)) (e_L 84 (0, ei_stk ef_pop 85, 0, 0))))) (e_T 89 (e_T 85 (e_L 85 (0, ei_goto 141, 0, 0)) (e_T 88 (e_L 88 (0, ei_load 1 2 89, 0, 0)) (e_L 89 (2, e_nof, 183, 1)))) (e_T 95 (e_T 92 (e_L 92 (0, ei_goto 141, 0, 0)) (e_L 95 (0, ei_load 1 2 96, 0, 0))) (e_T 96 (e_L 96 (0, ei_load 2 2 97, 0, 0)) (e_L 97 (0, ei_push (0, 3) 98, 0, 0)))))))
set_option maxRecDepth 20000 in
set_option maxHeartbeats 4000000 in
theorem te_71_0_ok : ∀ pc, e_EOq eft cls elay eI n_71 pc (te_71_0 pc) :=
  (e_Tok2
  (e_Tok2
  (e_Tok2
  (e_Tok2
  (e_Lok (ld_iload_n_3 (x_dk dn_71_0_0_ok 0 rfl)))
  (e_Tok2
  (e_Lok (e_st (I := eI) (er_tsw (dflt := 140) (lo := 40) (hi := 48) (offs := #[51, 60, 76, 87, 94, 140, 106, 119, 127]) (len := 51) (n := 9) (x_dk dn_71_0_0_ok 1 rfl) (by decide) (by decide +kernel)) nx_sw))
  (e_Lok (ld_aload_n_1 (x_dk dn_71_0_0_ok 2 rfl)))))
  (e_Tok2
  (e_Lok (ld_iload_4 (x_dk dn_71_0_0_ok 3 rfl)))
  (e_Tok2
  (e_Lok (lk_3_141p ho_71 (x_dk dn_71_0_0_ok 4 rfl)))
  (e_Lok (e_st (I := eI) (er_goto (off := 83) (tg := 141) (x_dk dn_71_0_0_ok 5 rfl) (by decide)) nx_goto)))))
  (e_Tok2
  (e_Tok2
  (e_Lok (ld_aload_n_0 (x_dk dn_71_0_0_ok 6 rfl)))
  (e_Tok2
  (e_Lok (lk_3_166 ho_71 (x_dk dn_71_0_0_ok 7 rfl)))
  (e_Lok (e_st (I := eI) (er_ifne (off := 76) (tg := 141) (x_dk dn_71_0_0_ok 8 rfl) (by decide)) nx_if1))))
  (e_Tok2
  (e_Tok2
  (e_Lok (ld_aload_n_1 (x_dk dn_71_0_0_ok 9 rfl)))
  (e_Lok (ld_iload_4 (x_dk dn_71_0_0_ok 10 rfl))))
  (e_Tok2
  (e_Lok (lk_3_141p ho_71 (x_dk dn_71_0_0_ok 11 rfl)))
  (e_Lok (e_st (I := eI) (er_goto (off := 67) (tg := 141) (x_dk dn_71_0_0_ok 12 rfl) (by decide)) nx_goto))))))
  (e_Tok2
  (e_Tok2
  (e_Tok2
  (e_Lok (ld_aload_n_1 (x_dk dn_71_0_0_ok 13 rfl)))
  (e_Tok2
  (e_Lok (ld_aload_n_2 (x_dk dn_71_0_0_ok 14 rfl)))
  (e_Lok (ps_iconst_2 (x_dk dn_71_0_0_ok 15 rfl)))))
  (e_Tok2
  (e_Lok (ps_iconst_0 (x_dk dn_71_0_0_ok 16 rfl)))
  (e_Tok2
  (e_Lok (lk_3_182 ho_71 (x_dk dn_71_0_0_ok 17 rfl)))
  (e_Lok (e_st (I := eI) (er_pop (x_dk dn_71_0_0_ok 18 rfl)) (nx_stk bf_pop))))))
  (e_Tok2
  (e_Tok2
  (e_Lok (e_st (I := eI) (er_goto (off := 56) (tg := 141) (x_dk dn_71_0_0_ok 19 rfl) (by decide)) nx_goto))
  (e_Tok2
  (e_Lok (ld_aload_n_1 (x_dk dn_71_0_0_ok 20 rfl)))
  (e_Lok (lk_3_356 ho_71 (x_dk dn_71_0_0_ok 21 rfl)))))
  (e_Tok2
  (e_Tok2
  (e_Lok (e_st (I := eI) (er_goto (off := 49) (tg := 141) (x_dk dn_71_0_0_ok 22 rfl) (by decide)) nx_goto))
  (e_Lok (ld_aload_n_1 (x_dk dn_71_0_0_ok 23 rfl))))
  (e_Tok2
  (e_Lok (ld_aload_n_2 (x_dk dn_71_0_0_ok 24 rfl)))
  (e_Lok (ps_iconst_3 (x_dk dn_71_0_1_ok 0 rfl))))))))
def te_71_26 : Nat → eE := (e_T 121 (e_T 108 (e_T 103 (e_T 98 (e_L 98 (0, ei_load 4 0 100, 0, 0)) (e_T 100 (e_L 100 (2, e_nof, 188, 4)) (e_L 103 (0, ei_stk ef_pop 104, 0, 0)))) (e_T 104 (e_L 104 (0, ei_goto 141, 0, 0)) (e_T 107 (e_L 107 (0, ei_load 1 2 108, 0, 0)) (e_L 108 (0, ei_load 1 2 109, 0, 0))))) (e_T 113 (e_T 109 (e_L 109 (0, ei_getf eft elay 10 3 112, 0, 0)) (e_T 112 (e_L 112 (0, ei_push (0, 1) 113, 0, 0)) (e_L 113 (0, ei_bin eF_sub 114, 0, 0)))) (e_T 117 (e_T 114 (e_L 114 (2, e_nof, 184, 2)) (e_L 117 (0, ei_goto 141, 0, 0))) (e_T 120 (e_L 120 (0, ei_load 1 2 121, 0, 0)) (e_L 121 (0, ei_load 2 2 122, 0, 0)))))) (e_T 131 (e_T 128 (e_T 122 (e_L 122 (2, e_nof, 185, 2)) (e_T 125 (e_L 125 (0, ei_goto 141, 0, 0)) (e_L 128 (0, ei_load 0 2 129, 0, 0)))) (e_T 129 (e_L 129 (0, ei_load 1 2 130, 0, 0)) (e_T 130 (e_L 130 (0, ei_load 2 2 131, 0, 0)) (e_L 131 (0, ei_load 1 2 132, 0, 0))))) (e_T 138 (e_T 132 (e_L 132 (2, e_nof, 186, 1)) (e_T 135 (e_L 135 (2, e_nof, 72, 4)) (e_L 138 (0, ei_goto 141, 0, 0)))) (e_T 142 (e_T 141 (e_L 141 (0, ei_load 0 2 142, 0, 0)) (e_L 142 (0, ei_load 1 2 143, 0, 0))) (e_T 143 (e_L 143 (2, e_nof, 49, 2)) (e_L 146 (1, e_nof, 0, 0)))))))
set_option maxRecDepth 20000 in
set_option maxHeartbeats 4000000 in
theorem te_71_26_ok : ∀ pc, e_EOq eft cls elay eI n_71 pc (te_71_26 pc) :=
  (e_Tok2
  (e_Tok2
  (e_Tok2
  (e_Tok2
  (e_Lok (ld_iload_4 (x_dk dn_71_0_1_ok 1 rfl)))
  (e_Tok2
  (e_Lok (lk_3_182 ho_71 (x_dk dn_71_0_1_ok 2 rfl)))
  (e_Lok (e_st (I := eI) (er_pop (x_dk dn_71_0_1_ok 3 rfl)) (nx_stk bf_pop)))))
  (e_Tok2
  (e_Lok (e_st (I := eI) (er_goto (off := 37) (tg := 141) (x_dk dn_71_0_1_ok 4 rfl) (by decide)) nx_goto))
  (e_Tok2
  (e_Lok (ld_aload_n_1 (x_dk dn_71_0_1_ok 5 rfl)))
  (e_Lok (ld_aload_n_1 (x_dk dn_71_0_1_ok 6 rfl))))))
  (e_Tok2
  (e_Tok2
  (e_Lok (lk_3_141g ho_71 (x_dk dn_71_0_1_ok 7 rfl)))
  (e_Tok2
  (e_Lok (ps_iconst_1 (x_dk dn_71_0_1_ok 8 rfl)))
  (e_Lok (sm_isub (x_dk dn_71_0_1_ok 9 rfl)))))
  (e_Tok2
  (e_Tok2
  (e_Lok (lk_3_359 ho_71 (x_dk dn_71_0_1_ok 10 rfl)))
  (e_Lok (e_st (I := eI) (er_goto (off := 24) (tg := 141) (x_dk dn_71_0_1_ok 11 rfl) (by decide)) nx_goto)))
  (e_Tok2
  (e_Lok (ld_aload_n_1 (x_dk dn_71_0_1_ok 12 rfl)))
  (e_Lok (ld_aload_n_2 (x_dk dn_71_0_1_ok 13 rfl)))))))
  (e_Tok2
  (e_Tok2
  (e_Tok2
  (e_Lok (lk_3_362 ho_71 (x_dk dn_71_0_1_ok 14 rfl)))
  (e_Tok2
  (e_Lok (e_st (I := eI) (er_goto (off := 16) (tg := 141) (x_dk dn_71_0_1_ok 15 rfl) (by decide)) nx_goto))
  (e_Lok (ld_aload_n_0 (x_dk dn_71_0_1_ok 16 rfl)))))
  (e_Tok2
  (e_Lok (ld_aload_n_1 (x_dk dn_71_0_1_ok 17 rfl)))
  (e_Tok2
  (e_Lok (ld_aload_n_2 (x_dk dn_71_0_1_ok 18 rfl)))
  (e_Lok (ld_aload_n_1 (x_dk dn_71_0_1_ok 19 rfl))))))
  (e_Tok2
  (e_Tok2
  (e_Lok (lk_3_366 ho_71 (x_dk dn_71_0_1_ok 20 rfl)))
  (e_Tok2
  (e_Lok (lk_3_369 ho_71 (x_dk dn_71_0_1_ok 21 rfl)))
  (e_Lok (e_st (I := eI) (er_goto (off := 3) (tg := 141) (x_dk dn_71_0_1_ok 22 rfl) (by decide)) nx_goto))))
  (e_Tok2
  (e_Tok2
  (e_Lok (ld_aload_n_0 (x_dk dn_71_0_1_ok 23 rfl)))
  (e_Lok (ld_aload_n_1 (x_dk dn_71_0_1_ok 24 rfl))))
  (e_Tok2
  (e_Lok (lk_3_373 ho_71 (x_dk dn_71_0_2_ok 0 rfl)))
  (e_Lok (e_rt (I := eI) (k := 0) ⟨(x_dk dn_71_0_2_ok 1 rfl), rfl⟩)))))))
def te_71 : Nat → eE := (e_T 97 te_71_0 te_71_26)
theorem te_71_ok : ∀ pc, e_EOq eft cls elay eI n_71 pc (te_71 pc) := (e_Tok2 (te_71_0_ok) (te_71_26_ok))
theorem ho_72 : (xm_y n_72).cls = "RobotCellHouse$Doer" := rfl
def dn_72_0_0 : List (Nat × Instr × Nat) := [(0, .iload_n 3, 1), (1, .iconst 1, 1), (2, .if_icmp .ne 14, 3), (5, .aload_n 0, 1), (6, .aload_n 1, 1), (7, .invokevirtual 376, 3), (10, .invokevirtual 199, 3), (13, .goto 18, 3), (16, .iload_n 3, 1), (17, .ifCond .eq 14, 3), (20, .aload_n 1, 1), (21, .aload_n 2, 1), (22, .iload_n 3, 1), (23, .aload_n 1, 1), (24, .invokevirtual 376, 3), (27, .invokevirtual 182, 3), (30, .pop, 1), (31, .return_, 1)]
set_option maxRecDepth 20000 in
theorem dn_72_0_0_ok : dn_72_0_0.all (fun q => decide (decode (xm_b n_72) q.1 = .ok (q.2.1, q.2.2))) = true := xa_g_ok (by decide +kernel)
def te_72_0 : Nat → eE := (e_T 16 (e_T 5 (e_T 1 (e_T 0 (e_L 0 (0, ei_load 3 0 1, 0, 0)) (e_L 1 (0, ei_push (0, 1) 2, 0, 0))) (e_T 2 (e_L 2 (0, ei_if2 1 16 5, 0, 0)) (e_L 5 (0, ei_load 0 2 6, 0, 0)))) (e_T 7 (e_T 6 (e_L 6 (0, ei_load 1 2 7, 0, 0)) (e_L 7 (2, e_nof, 187, 1))) (e_T 10 (e_L 10 (2, e_nof, 46, 2)) (e_T 13 (e_L 13 (0, ei_goto 31, 0, 0)) (e_L 16 (0, ei_load 3 0 17, 0, 0)))))) (e_T 22 (e_T 20 (e_T 17 (e_L 17 (0, ei_if1 0 31 20, 0, 0)) (e_L 20 (0, ei_load 1 2 21, 0, 0))) (e_T 21 (e_L 21 (0, ei_load 2 2 22, 0, 0)) (e_L 22 (0, ei_load 3 0 23, 0, 0)))) (e_T 24 (e_T 23 (e_L 23 (0, ei_load 1 2 24, 0, 0)) (e_L 24 (2, e_nof, 187, 1))) (e_T 27 (e_L 27 (2, e_nof, 188, 4)) (e_T 30 (e_L 30 (0, ei_stk ef_pop 31, 0, 0)) (e_L 31 (1, e_nof, 0, 0)))))))
set_option maxRecDepth 20000 in
set_option maxHeartbeats 4000000 in
theorem te_72_0_ok : ∀ pc, e_EOq eft cls elay eI n_72 pc (te_72_0 pc) :=
  (e_Tok2
  (e_Tok2
  (e_Tok2
  (e_Tok2
  (e_Lok (ld_iload_n_3 (x_dk dn_72_0_0_ok 0 rfl)))
  (e_Lok (ps_iconst_1 (x_dk dn_72_0_0_ok 1 rfl))))
  (e_Tok2
  (e_Lok (e_st (I := eI) (er_icmpne (off := 14) (tg := 16) (x_dk dn_72_0_0_ok 2 rfl) (by decide)) nx_if2))
  (e_Lok (ld_aload_n_0 (x_dk dn_72_0_0_ok 3 rfl)))))
  (e_Tok2
  (e_Tok2
  (e_Lok (ld_aload_n_1 (x_dk dn_72_0_0_ok 4 rfl)))
  (e_Lok (lk_3_376 ho_72 (x_dk dn_72_0_0_ok 5 rfl))))
  (e_Tok2
  (e_Lok (lk_3_199 ho_72 (x_dk dn_72_0_0_ok 6 rfl)))
  (e_Tok2
  (e_Lok (e_st (I := eI) (er_goto (off := 18) (tg := 31) (x_dk dn_72_0_0_ok 7 rfl) (by decide)) nx_goto))
  (e_Lok (ld_iload_n_3 (x_dk dn_72_0_0_ok 8 rfl)))))))
  (e_Tok2
  (e_Tok2
  (e_Tok2
  (e_Lok (e_st (I := eI) (er_ifeq (off := 14) (tg := 31) (x_dk dn_72_0_0_ok 9 rfl) (by decide)) nx_if1))
  (e_Lok (ld_aload_n_1 (x_dk dn_72_0_0_ok 10 rfl))))
  (e_Tok2
  (e_Lok (ld_aload_n_2 (x_dk dn_72_0_0_ok 11 rfl)))
  (e_Lok (ld_iload_n_3 (x_dk dn_72_0_0_ok 12 rfl)))))
  (e_Tok2
  (e_Tok2
  (e_Lok (ld_aload_n_1 (x_dk dn_72_0_0_ok 13 rfl)))
  (e_Lok (lk_3_376 ho_72 (x_dk dn_72_0_0_ok 14 rfl))))
  (e_Tok2
  (e_Lok (lk_3_182 ho_72 (x_dk dn_72_0_0_ok 15 rfl)))
  (e_Tok2
  (e_Lok (e_st (I := eI) (er_pop (x_dk dn_72_0_0_ok 16 rfl)) (nx_stk bf_pop)))
  (e_Lok (e_rt (I := eI) (k := 0) ⟨(x_dk dn_72_0_0_ok 17 rfl), rfl⟩)))))))
def te_72 : Nat → eE := te_72_0
theorem te_72_ok : ∀ pc, e_EOq eft cls elay eI n_72 pc (te_72 pc) := te_72_0_ok
theorem ho_73 : (xm_y n_73).cls = "RobotCellHouse$Floor" := rfl
def dn_73_0_0 : List (Nat × Instr × Nat) := [(0, .iload_n 0, 1), (1, .ifCond .ne 7, 3), (4, .iconst 1, 1), (5, .goto 13, 3), (8, .iload_n 0, 1), (9, .iconst 2, 1), (10, .if_icmp .ne 7, 3), (13, .iconst (-1), 1), (14, .goto 4, 3), (17, .iconst 0, 1), (18, .ireturn, 1)]
set_option maxRecDepth 20000 in
theorem dn_73_0_0_ok : dn_73_0_0.all (fun q => decide (decode (xm_b n_73) q.1 = .ok (q.2.1, q.2.2))) = true := xa_g_ok (by decide +kernel)
def te_73_0 : Nat → eE := (e_T 8 (e_T 1 (e_T 0 (e_L 0 (0, ei_load 0 0 1, 0, 0)) (e_L 1 (0, ei_if1 1 8 4, 0, 0))) (e_T 4 (e_L 4 (0, ei_push (0, 1) 5, 0, 0)) (e_T 5 (e_L 5 (0, ei_goto 18, 0, 0)) (e_L 8 (0, ei_load 0 0 9, 0, 0))))) (e_T 13 (e_T 9 (e_L 9 (0, ei_push (0, 2) 10, 0, 0)) (e_T 10 (e_L 10 (0, ei_if2 1 17 13, 0, 0)) (e_L 13 (0, ei_push (0, (-1)) 14, 0, 0)))) (e_T 14 (e_L 14 (0, ei_goto 18, 0, 0)) (e_T 17 (e_L 17 (0, ei_push (0, 0) 18, 0, 0)) (e_L 18 (1, e_nof, 1, 0))))))
set_option maxRecDepth 20000 in
set_option maxHeartbeats 4000000 in
theorem te_73_0_ok : ∀ pc, e_EOq eft cls elay eI n_73 pc (te_73_0 pc) :=
  (e_Tok2
  (e_Tok2
  (e_Tok2
  (e_Lok (ld_iload_n_0 (x_dk dn_73_0_0_ok 0 rfl)))
  (e_Lok (e_st (I := eI) (er_ifne (off := 7) (tg := 8) (x_dk dn_73_0_0_ok 1 rfl) (by decide)) nx_if1)))
  (e_Tok2
  (e_Lok (ps_iconst_1 (x_dk dn_73_0_0_ok 2 rfl)))
  (e_Tok2
  (e_Lok (e_st (I := eI) (er_goto (off := 13) (tg := 18) (x_dk dn_73_0_0_ok 3 rfl) (by decide)) nx_goto))
  (e_Lok (ld_iload_n_0 (x_dk dn_73_0_0_ok 4 rfl))))))
  (e_Tok2
  (e_Tok2
  (e_Lok (ps_iconst_2 (x_dk dn_73_0_0_ok 5 rfl)))
  (e_Tok2
  (e_Lok (e_st (I := eI) (er_icmpne (off := 7) (tg := 17) (x_dk dn_73_0_0_ok 6 rfl) (by decide)) nx_if2))
  (e_Lok (ps_iconst_m1 (x_dk dn_73_0_0_ok 7 rfl)))))
  (e_Tok2
  (e_Lok (e_st (I := eI) (er_goto (off := 4) (tg := 18) (x_dk dn_73_0_0_ok 8 rfl) (by decide)) nx_goto))
  (e_Tok2
  (e_Lok (ps_iconst_0 (x_dk dn_73_0_0_ok 9 rfl)))
  (e_Lok (e_rt (I := eI) (k := 1) ⟨(x_dk dn_73_0_0_ok 10 rfl), rfl⟩))))))
def te_73 : Nat → eE := te_73_0
theorem te_73_ok : ∀ pc, e_EOq eft cls elay eI n_73 pc (te_73 pc) := te_73_0_ok
theorem ho_74 : (xm_y n_74).cls = "RobotCellHouse$Floor" := rfl
def dn_74_0_0 : List (Nat × Instr × Nat) := [(0, .iload_n 0, 1), (1, .iconst 1, 1), (2, .if_icmp .ne 7, 3), (5, .iconst 1, 1), (6, .goto 13, 3), (9, .iload_n 0, 1), (10, .iconst 3, 1), (11, .if_icmp .ne 7, 3), (14, .iconst (-1), 1), (15, .goto 4, 3), (18, .iconst 0, 1), (19, .ireturn, 1)]
set_option maxRecDepth 20000 in
theorem dn_74_0_0_ok : dn_74_0_0.all (fun q => decide (decode (xm_b n_74) q.1 = .ok (q.2.1, q.2.2))) = true := xa_g_ok (by decide +kernel)
def te_74_0 : Nat → eE := (e_T 9 (e_T 2 (e_T 0 (e_L 0 (0, ei_load 0 0 1, 0, 0)) (e_T 1 (e_L 1 (0, ei_push (0, 1) 2, 0, 0)) (e_L 2 (0, ei_if2 1 9 5, 0, 0)))) (e_T 5 (e_L 5 (0, ei_push (0, 1) 6, 0, 0)) (e_T 6 (e_L 6 (0, ei_goto 19, 0, 0)) (e_L 9 (0, ei_load 0 0 10, 0, 0))))) (e_T 14 (e_T 10 (e_L 10 (0, ei_push (0, 3) 11, 0, 0)) (e_T 11 (e_L 11 (0, ei_if2 1 18 14, 0, 0)) (e_L 14 (0, ei_push (0, (-1)) 15, 0, 0)))) (e_T 15 (e_L 15 (0, ei_goto 19, 0, 0)) (e_T 18 (e_L 18 (0, ei_push (0, 0) 19, 0, 0)) (e_L 19 (1, e_nof, 1, 0))))))
set_option maxRecDepth 20000 in
set_option maxHeartbeats 4000000 in
theorem te_74_0_ok : ∀ pc, e_EOq eft cls elay eI n_74 pc (te_74_0 pc) :=
  (e_Tok2
  (e_Tok2
  (e_Tok2
  (e_Lok (ld_iload_n_0 (x_dk dn_74_0_0_ok 0 rfl)))
  (e_Tok2
  (e_Lok (ps_iconst_1 (x_dk dn_74_0_0_ok 1 rfl)))
  (e_Lok (e_st (I := eI) (er_icmpne (off := 7) (tg := 9) (x_dk dn_74_0_0_ok 2 rfl) (by decide)) nx_if2))))
  (e_Tok2
  (e_Lok (ps_iconst_1 (x_dk dn_74_0_0_ok 3 rfl)))
  (e_Tok2
  (e_Lok (e_st (I := eI) (er_goto (off := 13) (tg := 19) (x_dk dn_74_0_0_ok 4 rfl) (by decide)) nx_goto))
  (e_Lok (ld_iload_n_0 (x_dk dn_74_0_0_ok 5 rfl))))))
  (e_Tok2
  (e_Tok2
  (e_Lok (ps_iconst_3 (x_dk dn_74_0_0_ok 6 rfl)))
  (e_Tok2
  (e_Lok (e_st (I := eI) (er_icmpne (off := 7) (tg := 18) (x_dk dn_74_0_0_ok 7 rfl) (by decide)) nx_if2))
  (e_Lok (ps_iconst_m1 (x_dk dn_74_0_0_ok 8 rfl)))))
  (e_Tok2
  (e_Lok (e_st (I := eI) (er_goto (off := 4) (tg := 19) (x_dk dn_74_0_0_ok 9 rfl) (by decide)) nx_goto))
  (e_Tok2
  (e_Lok (ps_iconst_0 (x_dk dn_74_0_0_ok 10 rfl)))
  (e_Lok (e_rt (I := eI) (k := 1) ⟨(x_dk dn_74_0_0_ok 11 rfl), rfl⟩))))))
def te_74 : Nat → eE := te_74_0
theorem te_74_ok : ∀ pc, e_EOq eft cls elay eI n_74 pc (te_74 pc) := te_74_0_ok
theorem ho_75 : (xm_y n_75).cls = "RobotCellHouse$Floor" := rfl
def dn_75_0_0 : List (Nat × Instr × Nat) := [(0, .aload_n 0, 1), (1, .getfield 68, 3), (4, .istore 6, 2), (6, .aload_n 0, 1), (7, .getfield 27, 3), (10, .iload 6, 2), (12, .iload_n 1, 1), (13, .iastore, 1), (14, .aload_n 0, 1), (15, .getfield 30, 3), (18, .iload 6, 2), (20, .iload_n 2, 1), (21, .iastore, 1), (22, .aload_n 0, 1), (23, .getfield 33, 3), (26, .iload 6, 2), (28, .iload_n 3, 1), (29, .invokestatic 72, 3), (32, .iastore, 1), (33, .aload_n 0, 1), (34, .getfield 36, 3), (37, .iload 6, 2), (39, .iload_n 3, 1), (40, .invokestatic 76, 3), (43, .iastore, 1)]
set_option maxRecDepth 20000 in
theorem dn_75_0_0_ok : dn_75_0_0.all (fun q => decide (decode (xm_b n_75) q.1 = .ok (q.2.1, q.2.2))) = true := xa_g_ok (by decide +kernel)
def dn_75_0_1 : List (Nat × Instr × Nat) := [(44, .aload_n 0, 1), (45, .getfield 9, 3), (48, .iload 6, 2), (50, .iload 4, 2), (52, .iastore, 1), (53, .aload_n 0, 1), (54, .getfield 39, 3), (57, .iload 6, 2), (59, .iload 5, 2), (61, .iastore, 1), (62, .aload_n 0, 1), (63, .getfield 15, 3), (66, .iload 6, 2), (68, .iconst 0, 1), (69, .iastore, 1), (70, .aload_n 0, 1), (71, .getfield 18, 3), (74, .iload 6, 2), (76, .iconst (-1), 1), (77, .iastore, 1), (78, .aload_n 0, 1), (79, .getfield 47, 3), (82, .iload 6, 2), (84, .iconst 0, 1), (85, .iastore, 1)]
set_option maxRecDepth 20000 in
theorem dn_75_0_1_ok : dn_75_0_1.all (fun q => decide (decode (xm_b n_75) q.1 = .ok (q.2.1, q.2.2))) = true := xa_g_ok (by decide +kernel)
def dn_75_0_2 : List (Nat × Instr × Nat) := [(86, .aload_n 0, 1), (87, .dup, 1), (88, .getfield 68, 3), (91, .iconst 1, 1), (92, .iadd, 1), (93, .putfield 68, 3), (96, .iload 6, 2), (98, .ireturn, 1)]
set_option maxRecDepth 20000 in
theorem dn_75_0_2_ok : dn_75_0_2.all (fun q => decide (decode (xm_b n_75) q.1 = .ok (q.2.1, q.2.2))) = true := xa_g_ok (by decide +kernel)
def te_75_0 : Nat → eE := (e_T 22 (e_T 12 (e_T 4 (e_T 0 (e_L 0 (0, ei_load 0 2 1, 0, 0)) (e_T 1 (e_L 1 (0, ei_getf eft elay 4 0 4, 0, 0)) (e_L 4 (0, ei_stor 6 0 6, 0, 0)))) (e_T 7 (e_T 6 (e_L 6 (0, ei_load 0 2 7, 0, 0)) (e_L 7 (0, ei_getf eft elay 4 7 10, 0, 0))) (e_T 10 (e_L 10 (0, ei_load 6 0 12, 0, 0)) (e_L 12 (0, ei_load 1 0 13, 0, 0))))) (e_T 15 (e_T 13 (e_L 13 (0, ei_ast elay false 14, 0, 0)) (e_T 14 (e_L 14 (0, ei_load 0 2 15, 0, 0)) (e_L 15 (0, ei_getf eft elay 4 8 18, 0, 0)))) (e_T 20 (e_T 18 (e_L 18 (0, ei_load 6 0 20, 0, 0)) (e_L 20 (0, ei_load 2 0 21, 0, 0))) (e_T 21 (e_L 21 (0, ei_ast elay false 22, 0, 0)) (e_L 22 (0, ei_load 0 2 23, 0, 0)))))) (e_T 34 (e_T 28 (e_T 23 (e_L 23 (0, ei_getf eft elay 4 9 26, 0, 0)) (e_T 26 (e_L 26 (0, ei_load 6 0 28, 0, 0)) (e_L 28 (0, ei_load 3 0 29, 0, 0)))) (e_T 32 (e_T 29 (e_L 29 (2, e_nof, 73, 1)) (e_L 32 (0, ei_ast elay false 33, 0, 0))) (e_T 33 (e_L 33 (0, ei_load 0 2 34, 0, 0)) (e_L 34 (0, ei_getf eft elay 4 10 37, 0, 0))))) (e_T 43 (e_T 39 (e_T 37 (e_L 37 (0, ei_load 6 0 39, 0, 0)) (e_L 39 (0, ei_load 3 0 40, 0, 0))) (e_T 40 (e_L 40 (2, e_nof, 74, 1)) (e_L 43 (0, ei_ast elay false 44, 0, 0)))) (e_T 45 (e_T 44 (e_L 44 (0, ei_load 0 2 45, 0, 0)) (e_L 45 (0, ei_getf eft elay 4 2 48, 0, 0))) (e_T 48 (e_L 48 (0, ei_load 6 0 50, 0, 0)) (e_L 50 (0, ei_load 4 0 52, 0, 0)))))))
set_option maxRecDepth 20000 in
set_option maxHeartbeats 4000000 in
theorem te_75_0_ok : ∀ pc, e_EOq eft cls elay eI n_75 pc (te_75_0 pc) :=
  (e_Tok2
  (e_Tok2
  (e_Tok2
  (e_Tok2
  (e_Lok (ld_aload_n_0 (x_dk dn_75_0_0_ok 0 rfl)))
  (e_Tok2
  (e_Lok (lk_4_68g ho_75 (x_dk dn_75_0_0_ok 1 rfl)))
  (e_Lok (e_st (I := eI) (er_istore (i := 6) (x_dk dn_75_0_0_ok 2 rfl) (by decide +kernel)) nx_stor))))
  (e_Tok2
  (e_Tok2
  (e_Lok (ld_aload_n_0 (x_dk dn_75_0_0_ok 3 rfl)))
  (e_Lok (lk_4_27g ho_75 (x_dk dn_75_0_0_ok 4 rfl))))
  (e_Tok2
  (e_Lok (ld_iload_6 (x_dk dn_75_0_0_ok 5 rfl)))
  (e_Lok (ld_iload_n_1 (x_dk dn_75_0_0_ok 6 rfl))))))
  (e_Tok2
  (e_Tok2
  (e_Lok (sm_iastore (x_dk dn_75_0_0_ok 7 rfl)))
  (e_Tok2
  (e_Lok (ld_aload_n_0 (x_dk dn_75_0_0_ok 8 rfl)))
  (e_Lok (lk_4_30g ho_75 (x_dk dn_75_0_0_ok 9 rfl)))))
  (e_Tok2
  (e_Tok2
  (e_Lok (ld_iload_6 (x_dk dn_75_0_0_ok 10 rfl)))
  (e_Lok (ld_iload_n_2 (x_dk dn_75_0_0_ok 11 rfl))))
  (e_Tok2
  (e_Lok (sm_iastore (x_dk dn_75_0_0_ok 12 rfl)))
  (e_Lok (ld_aload_n_0 (x_dk dn_75_0_0_ok 13 rfl)))))))
  (e_Tok2
  (e_Tok2
  (e_Tok2
  (e_Lok (lk_4_33g ho_75 (x_dk dn_75_0_0_ok 14 rfl)))
  (e_Tok2
  (e_Lok (ld_iload_6 (x_dk dn_75_0_0_ok 15 rfl)))
  (e_Lok (ld_iload_n_3 (x_dk dn_75_0_0_ok 16 rfl)))))
  (e_Tok2
  (e_Tok2
  (e_Lok (lk_4_72 ho_75 (x_dk dn_75_0_0_ok 17 rfl)))
  (e_Lok (sm_iastore (x_dk dn_75_0_0_ok 18 rfl))))
  (e_Tok2
  (e_Lok (ld_aload_n_0 (x_dk dn_75_0_0_ok 19 rfl)))
  (e_Lok (lk_4_36g ho_75 (x_dk dn_75_0_0_ok 20 rfl))))))
  (e_Tok2
  (e_Tok2
  (e_Tok2
  (e_Lok (ld_iload_6 (x_dk dn_75_0_0_ok 21 rfl)))
  (e_Lok (ld_iload_n_3 (x_dk dn_75_0_0_ok 22 rfl))))
  (e_Tok2
  (e_Lok (lk_4_76 ho_75 (x_dk dn_75_0_0_ok 23 rfl)))
  (e_Lok (sm_iastore (x_dk dn_75_0_0_ok 24 rfl)))))
  (e_Tok2
  (e_Tok2
  (e_Lok (ld_aload_n_0 (x_dk dn_75_0_1_ok 0 rfl)))
  (e_Lok (lk_4_9g ho_75 (x_dk dn_75_0_1_ok 1 rfl))))
  (e_Tok2
  (e_Lok (ld_iload_6 (x_dk dn_75_0_1_ok 2 rfl)))
  (e_Lok (ld_iload_4 (x_dk dn_75_0_1_ok 3 rfl))))))))
def te_75_29 : Nat → eE := (e_T 74 (e_T 62 (e_T 54 (e_T 52 (e_L 52 (0, ei_ast elay false 53, 0, 0)) (e_T 53 (e_L 53 (0, ei_load 0 2 54, 0, 0)) (e_L 54 (0, ei_getf eft elay 4 11 57, 0, 0)))) (e_T 59 (e_T 57 (e_L 57 (0, ei_load 6 0 59, 0, 0)) (e_L 59 (0, ei_load 5 0 61, 0, 0))) (e_T 61 (e_L 61 (0, ei_ast elay false 62, 0, 0)) (e_L 62 (0, ei_load 0 2 63, 0, 0))))) (e_T 68 (e_T 63 (e_L 63 (0, ei_getf eft elay 4 3 66, 0, 0)) (e_T 66 (e_L 66 (0, ei_load 6 0 68, 0, 0)) (e_L 68 (0, ei_push (0, 0) 69, 0, 0)))) (e_T 70 (e_T 69 (e_L 69 (0, ei_ast elay false 70, 0, 0)) (e_L 70 (0, ei_load 0 2 71, 0, 0))) (e_T 71 (e_L 71 (0, ei_getf eft elay 4 4 74, 0, 0)) (e_L 74 (0, ei_load 6 0 76, 0, 0)))))) (e_T 85 (e_T 78 (e_T 76 (e_L 76 (0, ei_push (0, (-1)) 77, 0, 0)) (e_T 77 (e_L 77 (0, ei_ast elay false 78, 0, 0)) (e_L 78 (0, ei_load 0 2 79, 0, 0)))) (e_T 82 (e_T 79 (e_L 79 (0, ei_getf eft elay 4 13 82, 0, 0)) (e_L 82 (0, ei_load 6 0 84, 0, 0))) (e_T 84 (e_L 84 (0, ei_push (0, 0) 85, 0, 0)) (e_L 85 (0, ei_ast elay false 86, 0, 0))))) (e_T 91 (e_T 87 (e_T 86 (e_L 86 (0, ei_load 0 2 87, 0, 0)) (e_L 87 (0, ei_stk ef_dup 88, 0, 0))) (e_T 88 (e_L 88 (0, ei_getf eft elay 4 0 91, 0, 0)) (e_L 91 (0, ei_push (0, 1) 92, 0, 0)))) (e_T 93 (e_T 92 (e_L 92 (0, ei_bin eF_add 93, 0, 0)) (e_L 93 (0, ei_putf eft elay 4 0 0 96, 0, 0))) (e_T 96 (e_L 96 (0, ei_load 6 0 98, 0, 0)) (e_L 98 (1, e_nof, 1, 0)))))))
set_option maxRecDepth 20000 in
set_option maxHeartbeats 4000000 in
theorem te_75_29_ok : ∀ pc, e_EOq eft cls elay eI n_75 pc (te_75_29 pc) :=
  (e_Tok2
  (e_Tok2
  (e_Tok2
  (e_Tok2
  (e_Lok (sm_iastore (x_dk dn_75_0_1_ok 4 rfl)))
  (e_Tok2
  (e_Lok (ld_aload_n_0 (x_dk dn_75_0_1_ok 5 rfl)))
  (e_Lok (lk_4_39g ho_75 (x_dk dn_75_0_1_ok 6 rfl)))))
  (e_Tok2
  (e_Tok2
  (e_Lok (ld_iload_6 (x_dk dn_75_0_1_ok 7 rfl)))
  (e_Lok (ld_iload_5 (x_dk dn_75_0_1_ok 8 rfl))))
  (e_Tok2
  (e_Lok (sm_iastore (x_dk dn_75_0_1_ok 9 rfl)))
  (e_Lok (ld_aload_n_0 (x_dk dn_75_0_1_ok 10 rfl))))))
  (e_Tok2
  (e_Tok2
  (e_Lok (lk_4_15g ho_75 (x_dk dn_75_0_1_ok 11 rfl)))
  (e_Tok2
  (e_Lok (ld_iload_6 (x_dk dn_75_0_1_ok 12 rfl)))
  (e_Lok (ps_iconst_0 (x_dk dn_75_0_1_ok 13 rfl)))))
  (e_Tok2
  (e_Tok2
  (e_Lok (sm_iastore (x_dk dn_75_0_1_ok 14 rfl)))
  (e_Lok (ld_aload_n_0 (x_dk dn_75_0_1_ok 15 rfl))))
  (e_Tok2
  (e_Lok (lk_4_18g ho_75 (x_dk dn_75_0_1_ok 16 rfl)))
  (e_Lok (ld_iload_6 (x_dk dn_75_0_1_ok 17 rfl)))))))
  (e_Tok2
  (e_Tok2
  (e_Tok2
  (e_Lok (ps_iconst_m1 (x_dk dn_75_0_1_ok 18 rfl)))
  (e_Tok2
  (e_Lok (sm_iastore (x_dk dn_75_0_1_ok 19 rfl)))
  (e_Lok (ld_aload_n_0 (x_dk dn_75_0_1_ok 20 rfl)))))
  (e_Tok2
  (e_Tok2
  (e_Lok (lk_4_47g ho_75 (x_dk dn_75_0_1_ok 21 rfl)))
  (e_Lok (ld_iload_6 (x_dk dn_75_0_1_ok 22 rfl))))
  (e_Tok2
  (e_Lok (ps_iconst_0 (x_dk dn_75_0_1_ok 23 rfl)))
  (e_Lok (sm_iastore (x_dk dn_75_0_1_ok 24 rfl))))))
  (e_Tok2
  (e_Tok2
  (e_Tok2
  (e_Lok (ld_aload_n_0 (x_dk dn_75_0_2_ok 0 rfl)))
  (e_Lok (e_st (I := eI) (er_dup (x_dk dn_75_0_2_ok 1 rfl)) (nx_stk bf_dup))))
  (e_Tok2
  (e_Lok (lk_4_68g ho_75 (x_dk dn_75_0_2_ok 2 rfl)))
  (e_Lok (ps_iconst_1 (x_dk dn_75_0_2_ok 3 rfl)))))
  (e_Tok2
  (e_Tok2
  (e_Lok (sm_iadd (x_dk dn_75_0_2_ok 4 rfl)))
  (e_Lok (lk_4_68p ho_75 (x_dk dn_75_0_2_ok 5 rfl))))
  (e_Tok2
  (e_Lok (ld_iload_6 (x_dk dn_75_0_2_ok 6 rfl)))
  (e_Lok (e_rt (I := eI) (k := 1) ⟨(x_dk dn_75_0_2_ok 7 rfl), rfl⟩)))))))
def te_75 : Nat → eE := (e_T 50 te_75_0 te_75_29)
theorem te_75_ok : ∀ pc, e_EOq eft cls elay eI n_75 pc (te_75 pc) := (e_Tok2 (te_75_0_ok) (te_75_29_ok))
theorem ho_76 : (xm_y n_76).cls = "RobotCellHouse$Floor" := rfl
def dn_76_0_0 : List (Nat × Instr × Nat) := [(0, .aload_n 0, 1), (1, .getfield 79, 3), (4, .bipush 32, 2), (6, .if_icmp .lt 6, 3), (9, .bipush (-3), 2), (11, .ireturn, 1), (12, .aload_n 0, 1), (13, .getfield 79, 3), (16, .istore 6, 2), (18, .aload_n 0, 1), (19, .getfield 65, 3), (22, .iload 6, 2), (24, .aaload, 1), (25, .iconst 0, 1), (26, .iload_n 1, 1), (27, .iastore, 1), (28, .aload_n 0, 1), (29, .getfield 65, 3), (32, .iload 6, 2), (34, .aaload, 1), (35, .iconst 1, 1), (36, .iload_n 2, 1), (37, .iastore, 1), (38, .aload_n 0, 1), (39, .getfield 65, 3)]
set_option maxRecDepth 20000 in
theorem dn_76_0_0_ok : dn_76_0_0.all (fun q => decide (decode (xm_b n_76) q.1 = .ok (q.2.1, q.2.2))) = true := xa_g_ok (by decide +kernel)
def dn_76_0_1 : List (Nat × Instr × Nat) := [(42, .iload 6, 2), (44, .aaload, 1), (45, .iconst 2, 1), (46, .iload_n 3, 1), (47, .iastore, 1), (48, .aload_n 0, 1), (49, .getfield 65, 3), (52, .iload 6, 2), (54, .aaload, 1), (55, .iconst 3, 1), (56, .iload 4, 2), (58, .iastore, 1), (59, .aload_n 0, 1), (60, .getfield 56, 3), (63, .iload 6, 2), (65, .iload 5, 2), (67, .iastore, 1), (68, .aload_n 0, 1), (69, .dup, 1), (70, .getfield 79, 3), (73, .iconst 1, 1), (74, .iadd, 1), (75, .putfield 79, 3), (78, .aload_n 0, 1), (79, .iload 6, 2)]
set_option maxRecDepth 20000 in
theorem dn_76_0_1_ok : dn_76_0_1.all (fun q => decide (decode (xm_b n_76) q.1 = .ok (q.2.1, q.2.2))) = true := xa_g_ok (by decide +kernel)
def dn_76_0_2 : List (Nat × Instr × Nat) := [(81, .invokevirtual 82, 3), (84, .iload 6, 2), (86, .ireturn, 1)]
set_option maxRecDepth 20000 in
theorem dn_76_0_2_ok : dn_76_0_2.all (fun q => decide (decode (xm_b n_76) q.1 = .ok (q.2.1, q.2.2))) = true := xa_g_ok (by decide +kernel)
def te_76_0 : Nat → eE := (e_T 24 (e_T 11 (e_T 4 (e_T 0 (e_L 0 (0, ei_load 0 2 1, 0, 0)) (e_T 1 (e_L 1 (0, ei_getf eft elay 4 1 4, 0, 0)) (e_L 4 (0, ei_push (0, 32) 6, 0, 0)))) (e_T 6 (e_L 6 (0, ei_if2 2 12 9, 0, 0)) (e_T 9 (e_L 9 (0, ei_push (0, (-3)) 11, 0, 0)) (e_L 11 (1, e_nof, 1, 0))))) (e_T 16 (e_T 12 (e_L 12 (0, ei_load 0 2 13, 0, 0)) (e_T 13 (e_L 13 (0, ei_getf eft elay 4 1 16, 0, 0)) (e_L 16 (0, ei_stor 6 0 18, 0, 0)))) (e_T 19 (e_T 18 (e_L 18 (0, ei_load 0 2 19, 0, 0)) (e_L 19 (0, ei_getf eft elay 4 19 22, 0, 0))) (e_T 22 (e_L 22 (0, ei_load 6 0 24, 0, 0)) (e_L 24 (0, ei_aald elay 25, 0, 0)))))) (e_T 32 (e_T 27 (e_T 25 (e_L 25 (0, ei_push (0, 0) 26, 0, 0)) (e_T 26 (e_L 26 (0, ei_load 1 0 27, 0, 0)) (e_L 27 (0, ei_ast elay false 28, 0, 0)))) (e_T 28 (e_L 28 (0, ei_load 0 2 29, 0, 0)) (e_T 29 (e_L 29 (0, ei_getf eft elay 4 19 32, 0, 0)) (e_L 32 (0, ei_load 6 0 34, 0, 0))))) (e_T 36 (e_T 34 (e_L 34 (0, ei_aald elay 35, 0, 0)) (e_T 35 (e_L 35 (0, ei_push (0, 1) 36, 0, 0)) (e_L 36 (0, ei_load 2 0 37, 0, 0)))) (e_T 38 (e_T 37 (e_L 37 (0, ei_ast elay false 38, 0, 0)) (e_L 38 (0, ei_load 0 2 39, 0, 0))) (e_T 39 (e_L 39 (0, ei_getf eft elay 4 19 42, 0, 0)) (e_L 42 (0, ei_load 6 0 44, 0, 0)))))))
set_option maxRecDepth 20000 in
set_option maxHeartbeats 4000000 in
theorem te_76_0_ok : ∀ pc, e_EOq eft cls elay eI n_76 pc (te_76_0 pc) :=
  (e_Tok2
  (e_Tok2
  (e_Tok2
  (e_Tok2
  (e_Lok (ld_aload_n_0 (x_dk dn_76_0_0_ok 0 rfl)))
  (e_Tok2
  (e_Lok (lk_4_79g ho_76 (x_dk dn_76_0_0_ok 1 rfl)))
  (e_Lok (ps_bipush_32 (x_dk dn_76_0_0_ok 2 rfl)))))
  (e_Tok2
  (e_Lok (e_st (I := eI) (er_icmplt (off := 6) (tg := 12) (x_dk dn_76_0_0_ok 3 rfl) (by decide)) nx_if2))
  (e_Tok2
  (e_Lok (ps_bipush_m3 (x_dk dn_76_0_0_ok 4 rfl)))
  (e_Lok (e_rt (I := eI) (k := 1) ⟨(x_dk dn_76_0_0_ok 5 rfl), rfl⟩)))))
  (e_Tok2
  (e_Tok2
  (e_Lok (ld_aload_n_0 (x_dk dn_76_0_0_ok 6 rfl)))
  (e_Tok2
  (e_Lok (lk_4_79g ho_76 (x_dk dn_76_0_0_ok 7 rfl)))
  (e_Lok (e_st (I := eI) (er_istore (i := 6) (x_dk dn_76_0_0_ok 8 rfl) (by decide +kernel)) nx_stor))))
  (e_Tok2
  (e_Tok2
  (e_Lok (ld_aload_n_0 (x_dk dn_76_0_0_ok 9 rfl)))
  (e_Lok (lk_4_65g ho_76 (x_dk dn_76_0_0_ok 10 rfl))))
  (e_Tok2
  (e_Lok (ld_iload_6 (x_dk dn_76_0_0_ok 11 rfl)))
  (e_Lok (e_st (I := eI) (er_aaload (x_dk dn_76_0_0_ok 12 rfl)) nx_aald))))))
  (e_Tok2
  (e_Tok2
  (e_Tok2
  (e_Lok (ps_iconst_0 (x_dk dn_76_0_0_ok 13 rfl)))
  (e_Tok2
  (e_Lok (ld_iload_n_1 (x_dk dn_76_0_0_ok 14 rfl)))
  (e_Lok (sm_iastore (x_dk dn_76_0_0_ok 15 rfl)))))
  (e_Tok2
  (e_Lok (ld_aload_n_0 (x_dk dn_76_0_0_ok 16 rfl)))
  (e_Tok2
  (e_Lok (lk_4_65g ho_76 (x_dk dn_76_0_0_ok 17 rfl)))
  (e_Lok (ld_iload_6 (x_dk dn_76_0_0_ok 18 rfl))))))
  (e_Tok2
  (e_Tok2
  (e_Lok (e_st (I := eI) (er_aaload (x_dk dn_76_0_0_ok 19 rfl)) nx_aald))
  (e_Tok2
  (e_Lok (ps_iconst_1 (x_dk dn_76_0_0_ok 20 rfl)))
  (e_Lok (ld_iload_n_2 (x_dk dn_76_0_0_ok 21 rfl)))))
  (e_Tok2
  (e_Tok2
  (e_Lok (sm_iastore (x_dk dn_76_0_0_ok 22 rfl)))
  (e_Lok (ld_aload_n_0 (x_dk dn_76_0_0_ok 23 rfl))))
  (e_Tok2
  (e_Lok (lk_4_65g ho_76 (x_dk dn_76_0_0_ok 24 rfl)))
  (e_Lok (ld_iload_6 (x_dk dn_76_0_1_ok 0 rfl))))))))
def te_76_26 : Nat → eE := (e_T 60 (e_T 49 (e_T 46 (e_T 44 (e_L 44 (0, ei_aald elay 45, 0, 0)) (e_T 45 (e_L 45 (0, ei_push (0, 2) 46, 0, 0)) (e_L 46 (0, ei_load 3 0 47, 0, 0)))) (e_T 47 (e_L 47 (0, ei_ast elay false 48, 0, 0)) (e_T 48 (e_L 48 (0, ei_load 0 2 49, 0, 0)) (e_L 49 (0, ei_getf eft elay 4 19 52, 0, 0))))) (e_T 55 (e_T 52 (e_L 52 (0, ei_load 6 0 54, 0, 0)) (e_T 54 (e_L 54 (0, ei_aald elay 55, 0, 0)) (e_L 55 (0, ei_push (0, 3) 56, 0, 0)))) (e_T 58 (e_T 56 (e_L 56 (0, ei_load 4 0 58, 0, 0)) (e_L 58 (0, ei_ast elay false 59, 0, 0))) (e_T 59 (e_L 59 (0, ei_load 0 2 60, 0, 0)) (e_L 60 (0, ei_getf eft elay 4 16 63, 0, 0)))))) (e_T 73 (e_T 67 (e_T 63 (e_L 63 (0, ei_load 6 0 65, 0, 0)) (e_T 65 (e_L 65 (0, ei_load 5 0 67, 0, 0)) (e_L 67 (0, ei_ast elay false 68, 0, 0)))) (e_T 69 (e_T 68 (e_L 68 (0, ei_load 0 2 69, 0, 0)) (e_L 69 (0, ei_stk ef_dup 70, 0, 0))) (e_T 70 (e_L 70 (0, ei_getf eft elay 4 1 73, 0, 0)) (e_L 73 (0, ei_push (0, 1) 74, 0, 0))))) (e_T 78 (e_T 74 (e_L 74 (0, ei_bin eF_add 75, 0, 0)) (e_T 75 (e_L 75 (0, ei_putf eft elay 4 1 0 78, 0, 0)) (e_L 78 (0, ei_load 0 2 79, 0, 0)))) (e_T 81 (e_T 79 (e_L 79 (0, ei_load 6 0 81, 0, 0)) (e_L 81 (2, e_nof, 78, 2))) (e_T 84 (e_L 84 (0, ei_load 6 0 86, 0, 0)) (e_L 86 (1, e_nof, 1, 0)))))))
set_option maxRecDepth 20000 in
set_option maxHeartbeats 4000000 in
theorem te_76_26_ok : ∀ pc, e_EOq eft cls elay eI n_76 pc (te_76_26 pc) :=
  (e_Tok2
  (e_Tok2
  (e_Tok2
  (e_Tok2
  (e_Lok (e_st (I := eI) (er_aaload (x_dk dn_76_0_1_ok 1 rfl)) nx_aald))
  (e_Tok2
  (e_Lok (ps_iconst_2 (x_dk dn_76_0_1_ok 2 rfl)))
  (e_Lok (ld_iload_n_3 (x_dk dn_76_0_1_ok 3 rfl)))))
  (e_Tok2
  (e_Lok (sm_iastore (x_dk dn_76_0_1_ok 4 rfl)))
  (e_Tok2
  (e_Lok (ld_aload_n_0 (x_dk dn_76_0_1_ok 5 rfl)))
  (e_Lok (lk_4_65g ho_76 (x_dk dn_76_0_1_ok 6 rfl))))))
  (e_Tok2
  (e_Tok2
  (e_Lok (ld_iload_6 (x_dk dn_76_0_1_ok 7 rfl)))
  (e_Tok2
  (e_Lok (e_st (I := eI) (er_aaload (x_dk dn_76_0_1_ok 8 rfl)) nx_aald))
  (e_Lok (ps_iconst_3 (x_dk dn_76_0_1_ok 9 rfl)))))
  (e_Tok2
  (e_Tok2
  (e_Lok (ld_iload_4 (x_dk dn_76_0_1_ok 10 rfl)))
  (e_Lok (sm_iastore (x_dk dn_76_0_1_ok 11 rfl))))
  (e_Tok2
  (e_Lok (ld_aload_n_0 (x_dk dn_76_0_1_ok 12 rfl)))
  (e_Lok (lk_4_56g ho_76 (x_dk dn_76_0_1_ok 13 rfl)))))))
  (e_Tok2
  (e_Tok2
  (e_Tok2
  (e_Lok (ld_iload_6 (x_dk dn_76_0_1_ok 14 rfl)))
  (e_Tok2
  (e_Lok (ld_iload_5 (x_dk dn_76_0_1_ok 15 rfl)))
  (e_Lok (sm_iastore (x_dk dn_76_0_1_ok 16 rfl)))))
  (e_Tok2
  (e_Tok2
  (e_Lok (ld_aload_n_0 (x_dk dn_76_0_1_ok 17 rfl)))
  (e_Lok (e_st (I := eI) (er_dup (x_dk dn_76_0_1_ok 18 rfl)) (nx_stk bf_dup))))
  (e_Tok2
  (e_Lok (lk_4_79g ho_76 (x_dk dn_76_0_1_ok 19 rfl)))
  (e_Lok (ps_iconst_1 (x_dk dn_76_0_1_ok 20 rfl))))))
  (e_Tok2
  (e_Tok2
  (e_Lok (sm_iadd (x_dk dn_76_0_1_ok 21 rfl)))
  (e_Tok2
  (e_Lok (lk_4_79p ho_76 (x_dk dn_76_0_1_ok 22 rfl)))
  (e_Lok (ld_aload_n_0 (x_dk dn_76_0_1_ok 23 rfl)))))
  (e_Tok2
  (e_Tok2
  (e_Lok (ld_iload_6 (x_dk dn_76_0_1_ok 24 rfl)))
  (e_Lok (lk_4_82 ho_76 (x_dk dn_76_0_2_ok 0 rfl))))
  (e_Tok2
  (e_Lok (ld_iload_6 (x_dk dn_76_0_2_ok 1 rfl)))
  (e_Lok (e_rt (I := eI) (k := 1) ⟨(x_dk dn_76_0_2_ok 2 rfl), rfl⟩)))))))
def te_76 : Nat → eE := (e_T 42 te_76_0 te_76_26)
theorem te_76_ok : ∀ pc, e_EOq eft cls elay eI n_76 pc (te_76 pc) := (e_Tok2 (te_76_0_ok) (te_76_26_ok))
theorem ho_77 : (xm_y n_77).cls = "RobotCellHouse$Floor" := rfl
def dn_77_0_0 : List (Nat × Instr × Nat) := [(0, .iconst 0, 1), (1, .istore_n 1, 1), (2, .iload_n 1, 1), (3, .aload_n 0, 1), (4, .getfield 68, 3), (7, .if_icmp .ge 16, 3), (10, .aload_n 0, 1), (11, .getfield 47, 3), (14, .iload_n 1, 1), (15, .iconst 0, 1), (16, .iastore, 1), (17, .iinc 1 1, 3), (20, .goto (-18), 3), (23, .iconst 0, 1), (24, .istore_n 1, 1), (25, .iload_n 1, 1), (26, .aload_n 0, 1), (27, .getfield 79, 3), (30, .if_icmp .ge 14, 3), (33, .aload_n 0, 1), (34, .iload_n 1, 1), (35, .invokevirtual 82, 3), (38, .iinc 1 1, 3), (41, .goto (-16), 3), (44, .return_, 1)]
set_option maxRecDepth 20000 in
theorem dn_77_0_0_ok : dn_77_0_0.all (fun q => decide (decode (xm_b n_77) q.1 = .ok (q.2.1, q.2.2))) = true := xa_g_ok (by decide +kernel)
def te_77_0 : Nat → eE := (e_T 17 (e_T 7 (e_T 2 (e_T 0 (e_L 0 (0, ei_push (0, 0) 1, 0, 0)) (e_T 1 (e_L 1 (0, ei_stor 1 0 2, 0, 0)) (e_L 2 (0, ei_load 1 0 3, 0, 0)))) (e_T 3 (e_L 3 (0, ei_load 0 2 4, 0, 0)) (e_T 4 (e_L 4 (0, ei_getf eft elay 4 0 7, 0, 0)) (e_L 7 (0, ei_if2 3 23 10, 0, 0))))) (e_T 14 (e_T 10 (e_L 10 (0, ei_load 0 2 11, 0, 0)) (e_T 11 (e_L 11 (0, ei_getf eft elay 4 13 14, 0, 0)) (e_L 14 (0, ei_load 1 0 15, 0, 0)))) (e_T 15 (e_L 15 (0, ei_push (0, 0) 16, 0, 0)) (e_T 16 (e_L 16 (0, ei_ast elay false 17, 0, 0)) (e_L 17 (0, ei_inc 1 1 20, 0, 0)))))) (e_T 27 (e_T 24 (e_T 20 (e_L 20 (0, ei_goto 2, 0, 0)) (e_T 23 (e_L 23 (0, ei_push (0, 0) 24, 0, 0)) (e_L 24 (0, ei_stor 1 0 25, 0, 0)))) (e_T 25 (e_L 25 (0, ei_load 1 0 26, 0, 0)) (e_T 26 (e_L 26 (0, ei_load 0 2 27, 0, 0)) (e_L 27 (0, ei_getf eft elay 4 1 30, 0, 0))))) (e_T 34 (e_T 30 (e_L 30 (0, ei_if2 3 44 33, 0, 0)) (e_T 33 (e_L 33 (0, ei_load 0 2 34, 0, 0)) (e_L 34 (0, ei_load 1 0 35, 0, 0)))) (e_T 38 (e_T 35 (e_L 35 (2, e_nof, 78, 2)) (e_L 38 (0, ei_inc 1 1 41, 0, 0))) (e_T 41 (e_L 41 (0, ei_goto 25, 0, 0)) (e_L 44 (1, e_nof, 0, 0)))))))
set_option maxRecDepth 20000 in
set_option maxHeartbeats 4000000 in
theorem te_77_0_ok : ∀ pc, e_EOq eft cls elay eI n_77 pc (te_77_0 pc) :=
  (e_Tok2
  (e_Tok2
  (e_Tok2
  (e_Tok2
  (e_Lok (ps_iconst_0 (x_dk dn_77_0_0_ok 0 rfl)))
  (e_Tok2
  (e_Lok (e_st (I := eI) (er_istore_n (i := 1) (x_dk dn_77_0_0_ok 1 rfl) (by decide +kernel)) nx_stor))
  (e_Lok (ld_iload_n_1 (x_dk dn_77_0_0_ok 2 rfl)))))
  (e_Tok2
  (e_Lok (ld_aload_n_0 (x_dk dn_77_0_0_ok 3 rfl)))
  (e_Tok2
  (e_Lok (lk_4_68g ho_77 (x_dk dn_77_0_0_ok 4 rfl)))
  (e_Lok (e_st (I := eI) (er_icmpge (off := 16) (tg := 23) (x_dk dn_77_0_0_ok 5 rfl) (by decide)) nx_if2)))))
  (e_Tok2
  (e_Tok2
  (e_Lok (ld_aload_n_0 (x_dk dn_77_0_0_ok 6 rfl)))
  (e_Tok2
  (e_Lok (lk_4_47g ho_77 (x_dk dn_77_0_0_ok 7 rfl)))
  (e_Lok (ld_iload_n_1 (x_dk dn_77_0_0_ok 8 rfl)))))
  (e_Tok2
  (e_Lok (ps_iconst_0 (x_dk dn_77_0_0_ok 9 rfl)))
  (e_Tok2
  (e_Lok (sm_iastore (x_dk dn_77_0_0_ok 10 rfl)))
  (e_Lok (e_st (I := eI) (er_iinc (i := 1) (n := 1) (x_dk dn_77_0_0_ok 11 rfl) (by decide +kernel) (by decide)) nx_inc))))))
  (e_Tok2
  (e_Tok2
  (e_Tok2
  (e_Lok (e_st (I := eI) (er_goto (off := (-18)) (tg := 2) (x_dk dn_77_0_0_ok 12 rfl) (by decide)) nx_goto))
  (e_Tok2
  (e_Lok (ps_iconst_0 (x_dk dn_77_0_0_ok 13 rfl)))
  (e_Lok (e_st (I := eI) (er_istore_n (i := 1) (x_dk dn_77_0_0_ok 14 rfl) (by decide +kernel)) nx_stor))))
  (e_Tok2
  (e_Lok (ld_iload_n_1 (x_dk dn_77_0_0_ok 15 rfl)))
  (e_Tok2
  (e_Lok (ld_aload_n_0 (x_dk dn_77_0_0_ok 16 rfl)))
  (e_Lok (lk_4_79g ho_77 (x_dk dn_77_0_0_ok 17 rfl))))))
  (e_Tok2
  (e_Tok2
  (e_Lok (e_st (I := eI) (er_icmpge (off := 14) (tg := 44) (x_dk dn_77_0_0_ok 18 rfl) (by decide)) nx_if2))
  (e_Tok2
  (e_Lok (ld_aload_n_0 (x_dk dn_77_0_0_ok 19 rfl)))
  (e_Lok (ld_iload_n_1 (x_dk dn_77_0_0_ok 20 rfl)))))
  (e_Tok2
  (e_Tok2
  (e_Lok (lk_4_82 ho_77 (x_dk dn_77_0_0_ok 21 rfl)))
  (e_Lok (e_st (I := eI) (er_iinc (i := 1) (n := 1) (x_dk dn_77_0_0_ok 22 rfl) (by decide +kernel) (by decide)) nx_inc)))
  (e_Tok2
  (e_Lok (e_st (I := eI) (er_goto (off := (-16)) (tg := 25) (x_dk dn_77_0_0_ok 23 rfl) (by decide)) nx_goto))
  (e_Lok (e_rt (I := eI) (k := 0) ⟨(x_dk dn_77_0_0_ok 24 rfl), rfl⟩)))))))
def te_77 : Nat → eE := te_77_0
theorem te_77_ok : ∀ pc, e_EOq eft cls elay eI n_77 pc (te_77 pc) := te_77_0_ok
theorem ho_78 : (xm_y n_78).cls = "RobotCellHouse$Floor" := rfl
def dn_78_0_0 : List (Nat × Instr × Nat) := [(0, .aload_n 0, 1), (1, .getfield 65, 3), (4, .iload_n 1, 1), (5, .aaload, 1), (6, .iconst 0, 1), (7, .iaload, 1), (8, .iconst 4, 1), (9, .if_icmp .ge 27, 3), (12, .aload_n 0, 1), (13, .aload_n 0, 1), (14, .getfield 65, 3), (17, .iload_n 1, 1), (18, .aaload, 1), (19, .iconst 0, 1), (20, .iaload, 1), (21, .iload_n 1, 1), (22, .aload_n 0, 1), (23, .getfield 65, 3), (26, .iload_n 1, 1), (27, .aaload, 1), (28, .iconst 1, 1), (29, .iaload, 1), (30, .invokevirtual 86, 3), (33, .goto 24, 3), (36, .aload_n 0, 1)]
set_option maxRecDepth 20000 in
theorem dn_78_0_0_ok : dn_78_0_0.all (fun q => decide (decode (xm_b n_78) q.1 = .ok (q.2.1, q.2.2))) = true := xa_g_ok (by decide +kernel)
def dn_78_0_1 : List (Nat × Instr × Nat) := [(37, .iload_n 1, 1), (38, .aload_n 0, 1), (39, .getfield 65, 3), (42, .iload_n 1, 1), (43, .aaload, 1), (44, .iconst 2, 1), (45, .iaload, 1), (46, .aload_n 0, 1), (47, .getfield 65, 3), (50, .iload_n 1, 1), (51, .aaload, 1), (52, .iconst 3, 1), (53, .iaload, 1), (54, .invokevirtual 90, 3), (57, .return_, 1)]
set_option maxRecDepth 20000 in
theorem dn_78_0_1_ok : dn_78_0_1.all (fun q => decide (decode (xm_b n_78) q.1 = .ok (q.2.1, q.2.2))) = true := xa_g_ok (by decide +kernel)
def te_78_0 : Nat → eE := (e_T 27 (e_T 13 (e_T 6 (e_T 1 (e_T 0 (e_L 0 (0, ei_load 0 2 1, 0, 0)) (e_L 1 (0, ei_getf eft elay 4 19 4, 0, 0))) (e_T 4 (e_L 4 (0, ei_load 1 0 5, 0, 0)) (e_T 5 (e_L 5 (0, ei_aald elay 6, 0, 0)) (e_L 6 (0, ei_push (0, 0) 7, 0, 0))))) (e_T 8 (e_T 7 (e_L 7 (0, ei_ald elay false 8, 0, 0)) (e_L 8 (0, ei_push (0, 4) 9, 0, 0))) (e_T 9 (e_L 9 (0, ei_if2 3 36 12, 0, 0)) (e_T 12 (e_L 12 (0, ei_load 0 2 13, 0, 0)) (e_L 13 (0, ei_load 0 2 14, 0, 0)))))) (e_T 20 (e_T 17 (e_T 14 (e_L 14 (0, ei_getf eft elay 4 19 17, 0, 0)) (e_L 17 (0, ei_load 1 0 18, 0, 0))) (e_T 18 (e_L 18 (0, ei_aald elay 19, 0, 0)) (e_T 19 (e_L 19 (0, ei_push (0, 0) 20, 0, 0)) (e_L 20 (0, ei_ald elay false 21, 0, 0))))) (e_T 22 (e_T 21 (e_L 21 (0, ei_load 1 0 22, 0, 0)) (e_L 22 (0, ei_load 0 2 23, 0, 0))) (e_T 23 (e_L 23 (0, ei_getf eft elay 4 19 26, 0, 0)) (e_T 26 (e_L 26 (0, ei_load 1 0 27, 0, 0)) (e_L 27 (0, ei_aald elay 28, 0, 0))))))) (e_T 43 (e_T 36 (e_T 29 (e_T 28 (e_L 28 (0, ei_push (0, 1) 29, 0, 0)) (e_L 29 (0, ei_ald elay false 30, 0, 0))) (e_T 30 (e_L 30 (2, e_nof, 80, 4)) (e_T 33 (e_L 33 (0, ei_goto 57, 0, 0)) (e_L 36 (0, ei_load 0 2 37, 0, 0))))) (e_T 38 (e_T 37 (e_L 37 (0, ei_load 1 0 38, 0, 0)) (e_L 38 (0, ei_load 0 2 39, 0, 0))) (e_T 39 (e_L 39 (0, ei_getf eft elay 4 19 42, 0, 0)) (e_T 42 (e_L 42 (0, ei_load 1 0 43, 0, 0)) (e_L 43 (0, ei_aald elay 44, 0, 0)))))) (e_T 50 (e_T 45 (e_T 44 (e_L 44 (0, ei_push (0, 2) 45, 0, 0)) (e_L 45 (0, ei_ald elay false 46, 0, 0))) (e_T 46 (e_L 46 (0, ei_load 0 2 47, 0, 0)) (e_T 47 (e_L 47 (0, ei_getf eft elay 4 19 50, 0, 0)) (e_L 50 (0, ei_load 1 0 51, 0, 0))))) (e_T 52 (e_T 51 (e_L 51 (0, ei_aald elay 52, 0, 0)) (e_L 52 (0, ei_push (0, 3) 53, 0, 0))) (e_T 53 (e_L 53 (0, ei_ald elay false 54, 0, 0)) (e_T 54 (e_L 54 (2, e_nof, 79, 4)) (e_L 57 (1, e_nof, 0, 0))))))))
set_option maxRecDepth 20000 in
set_option maxHeartbeats 4000000 in
theorem te_78_0_ok : ∀ pc, e_EOq eft cls elay eI n_78 pc (te_78_0 pc) :=
  (e_Tok2
  (e_Tok2
  (e_Tok2
  (e_Tok2
  (e_Tok2
  (e_Lok (ld_aload_n_0 (x_dk dn_78_0_0_ok 0 rfl)))
  (e_Lok (lk_4_65g ho_78 (x_dk dn_78_0_0_ok 1 rfl))))
  (e_Tok2
  (e_Lok (ld_iload_n_1 (x_dk dn_78_0_0_ok 2 rfl)))
  (e_Tok2
  (e_Lok (e_st (I := eI) (er_aaload (x_dk dn_78_0_0_ok 3 rfl)) nx_aald))
  (e_Lok (ps_iconst_0 (x_dk dn_78_0_0_ok 4 rfl))))))
  (e_Tok2
  (e_Tok2
  (e_Lok (sm_iaload (x_dk dn_78_0_0_ok 5 rfl)))
  (e_Lok (ps_iconst_4 (x_dk dn_78_0_0_ok 6 rfl))))
  (e_Tok2
  (e_Lok (e_st (I := eI) (er_icmpge (off := 27) (tg := 36) (x_dk dn_78_0_0_ok 7 rfl) (by decide)) nx_if2))
  (e_Tok2
  (e_Lok (ld_aload_n_0 (x_dk dn_78_0_0_ok 8 rfl)))
  (e_Lok (ld_aload_n_0 (x_dk dn_78_0_0_ok 9 rfl)))))))
  (e_Tok2
  (e_Tok2
  (e_Tok2
  (e_Lok (lk_4_65g ho_78 (x_dk dn_78_0_0_ok 10 rfl)))
  (e_Lok (ld_iload_n_1 (x_dk dn_78_0_0_ok 11 rfl))))
  (e_Tok2
  (e_Lok (e_st (I := eI) (er_aaload (x_dk dn_78_0_0_ok 12 rfl)) nx_aald))
  (e_Tok2
  (e_Lok (ps_iconst_0 (x_dk dn_78_0_0_ok 13 rfl)))
  (e_Lok (sm_iaload (x_dk dn_78_0_0_ok 14 rfl))))))
  (e_Tok2
  (e_Tok2
  (e_Lok (ld_iload_n_1 (x_dk dn_78_0_0_ok 15 rfl)))
  (e_Lok (ld_aload_n_0 (x_dk dn_78_0_0_ok 16 rfl))))
  (e_Tok2
  (e_Lok (lk_4_65g ho_78 (x_dk dn_78_0_0_ok 17 rfl)))
  (e_Tok2
  (e_Lok (ld_iload_n_1 (x_dk dn_78_0_0_ok 18 rfl)))
  (e_Lok (e_st (I := eI) (er_aaload (x_dk dn_78_0_0_ok 19 rfl)) nx_aald)))))))
  (e_Tok2
  (e_Tok2
  (e_Tok2
  (e_Tok2
  (e_Lok (ps_iconst_1 (x_dk dn_78_0_0_ok 20 rfl)))
  (e_Lok (sm_iaload (x_dk dn_78_0_0_ok 21 rfl))))
  (e_Tok2
  (e_Lok (lk_4_86 ho_78 (x_dk dn_78_0_0_ok 22 rfl)))
  (e_Tok2
  (e_Lok (e_st (I := eI) (er_goto (off := 24) (tg := 57) (x_dk dn_78_0_0_ok 23 rfl) (by decide)) nx_goto))
  (e_Lok (ld_aload_n_0 (x_dk dn_78_0_0_ok 24 rfl))))))
  (e_Tok2
  (e_Tok2
  (e_Lok (ld_iload_n_1 (x_dk dn_78_0_1_ok 0 rfl)))
  (e_Lok (ld_aload_n_0 (x_dk dn_78_0_1_ok 1 rfl))))
  (e_Tok2
  (e_Lok (lk_4_65g ho_78 (x_dk dn_78_0_1_ok 2 rfl)))
  (e_Tok2
  (e_Lok (ld_iload_n_1 (x_dk dn_78_0_1_ok 3 rfl)))
  (e_Lok (e_st (I := eI) (er_aaload (x_dk dn_78_0_1_ok 4 rfl)) nx_aald))))))
  (e_Tok2
  (e_Tok2
  (e_Tok2
  (e_Lok (ps_iconst_2 (x_dk dn_78_0_1_ok 5 rfl)))
  (e_Lok (sm_iaload (x_dk dn_78_0_1_ok 6 rfl))))
  (e_Tok2
  (e_Lok (ld_aload_n_0 (x_dk dn_78_0_1_ok 7 rfl)))
  (e_Tok2
  (e_Lok (lk_4_65g ho_78 (x_dk dn_78_0_1_ok 8 rfl)))
  (e_Lok (ld_iload_n_1 (x_dk dn_78_0_1_ok 9 rfl))))))
  (e_Tok2
  (e_Tok2
  (e_Lok (e_st (I := eI) (er_aaload (x_dk dn_78_0_1_ok 10 rfl)) nx_aald))
  (e_Lok (ps_iconst_3 (x_dk dn_78_0_1_ok 11 rfl))))
  (e_Tok2
  (e_Lok (sm_iaload (x_dk dn_78_0_1_ok 12 rfl)))
  (e_Tok2
  (e_Lok (lk_4_90 ho_78 (x_dk dn_78_0_1_ok 13 rfl)))
  (e_Lok (e_rt (I := eI) (k := 0) ⟨(x_dk dn_78_0_1_ok 14 rfl), rfl⟩))))))))
def te_78 : Nat → eE := te_78_0
theorem te_78_ok : ∀ pc, e_EOq eft cls elay eI n_78 pc (te_78 pc) := te_78_0_ok
theorem ho_79 : (xm_y n_79).cls = "RobotCellHouse$Floor" := rfl
def dn_79_0_0 : List (Nat × Instr × Nat) := [(0, .aload_n 0, 1), (1, .getfield 50, 3), (4, .iload_n 1, 1), (5, .bipush 8, 2), (7, .iastore, 1), (8, .aload_n 0, 1), (9, .getfield 59, 3), (12, .iload_n 1, 1), (13, .iload_n 2, 1), (14, .iastore, 1), (15, .aload_n 0, 1), (16, .getfield 62, 3), (19, .iload_n 1, 1), (20, .iload_n 3, 1), (21, .iastore, 1), (22, .return_, 1)]
set_option maxRecDepth 20000 in
theorem dn_79_0_0_ok : dn_79_0_0.all (fun q => decide (decode (xm_b n_79) q.1 = .ok (q.2.1, q.2.2))) = true := xa_g_ok (by decide +kernel)
def te_79_0 : Nat → eE := (e_T 12 (e_T 5 (e_T 1 (e_T 0 (e_L 0 (0, ei_load 0 2 1, 0, 0)) (e_L 1 (0, ei_getf eft elay 4 14 4, 0, 0))) (e_T 4 (e_L 4 (0, ei_load 1 0 5, 0, 0)) (e_L 5 (0, ei_push (0, 8) 7, 0, 0)))) (e_T 8 (e_T 7 (e_L 7 (0, ei_ast elay false 8, 0, 0)) (e_L 8 (0, ei_load 0 2 9, 0, 0))) (e_T 9 (e_L 9 (0, ei_getf eft elay 4 17 12, 0, 0)) (e_L 12 (0, ei_load 1 0 13, 0, 0))))) (e_T 16 (e_T 14 (e_T 13 (e_L 13 (0, ei_load 2 0 14, 0, 0)) (e_L 14 (0, ei_ast elay false 15, 0, 0))) (e_T 15 (e_L 15 (0, ei_load 0 2 16, 0, 0)) (e_L 16 (0, ei_getf eft elay 4 18 19, 0, 0)))) (e_T 20 (e_T 19 (e_L 19 (0, ei_load 1 0 20, 0, 0)) (e_L 20 (0, ei_load 3 0 21, 0, 0))) (e_T 21 (e_L 21 (0, ei_ast elay false 22, 0, 0)) (e_L 22 (1, e_nof, 0, 0))))))
set_option maxRecDepth 20000 in
set_option maxHeartbeats 4000000 in
theorem te_79_0_ok : ∀ pc, e_EOq eft cls elay eI n_79 pc (te_79_0 pc) :=
  (e_Tok2
  (e_Tok2
  (e_Tok2
  (e_Tok2
  (e_Lok (ld_aload_n_0 (x_dk dn_79_0_0_ok 0 rfl)))
  (e_Lok (lk_4_50g ho_79 (x_dk dn_79_0_0_ok 1 rfl))))
  (e_Tok2
  (e_Lok (ld_iload_n_1 (x_dk dn_79_0_0_ok 2 rfl)))
  (e_Lok (ps_bipush_8 (x_dk dn_79_0_0_ok 3 rfl)))))
  (e_Tok2
  (e_Tok2
  (e_Lok (sm_iastore (x_dk dn_79_0_0_ok 4 rfl)))
  (e_Lok (ld_aload_n_0 (x_dk dn_79_0_0_ok 5 rfl))))
  (e_Tok2
  (e_Lok (lk_4_59g ho_79 (x_dk dn_79_0_0_ok 6 rfl)))
  (e_Lok (ld_iload_n_1 (x_dk dn_79_0_0_ok 7 rfl))))))
  (e_Tok2
  (e_Tok2
  (e_Tok2
  (e_Lok (ld_iload_n_2 (x_dk dn_79_0_0_ok 8 rfl)))
  (e_Lok (sm_iastore (x_dk dn_79_0_0_ok 9 rfl))))
  (e_Tok2
  (e_Lok (ld_aload_n_0 (x_dk dn_79_0_0_ok 10 rfl)))
  (e_Lok (lk_4_62g ho_79 (x_dk dn_79_0_0_ok 11 rfl)))))
  (e_Tok2
  (e_Tok2
  (e_Lok (ld_iload_n_1 (x_dk dn_79_0_0_ok 12 rfl)))
  (e_Lok (ld_iload_n_3 (x_dk dn_79_0_0_ok 13 rfl))))
  (e_Tok2
  (e_Lok (sm_iastore (x_dk dn_79_0_0_ok 14 rfl)))
  (e_Lok (e_rt (I := eI) (k := 0) ⟨(x_dk dn_79_0_0_ok 15 rfl), rfl⟩))))))
def te_79 : Nat → eE := te_79_0
theorem te_79_ok : ∀ pc, e_EOq eft cls elay eI n_79 pc (te_79 pc) := te_79_0_ok
theorem ho_80 : (xm_y n_80).cls = "RobotCellHouse$Floor" := rfl
def dn_80_0_0 : List (Nat × Instr × Nat) := [(0, .aload_n 0, 1), (1, .getfield 47, 3), (4, .iload_n 1, 1), (5, .iaload, 1), (6, .bipush 32, 2), (8, .if_icmp .lt 4, 3), (11, .return_, 1), (12, .aload_n 0, 1), (13, .getfield 47, 3), (16, .iload_n 1, 1), (17, .iaload, 1), (18, .istore 4, 2), (20, .iload 4, 2), (22, .ifCond .le 49, 3), (25, .aload_n 0, 1), (26, .getfield 53, 3), (29, .aload_n 0, 1), (30, .getfield 44, 3), (33, .iload_n 1, 1), (34, .aaload, 1), (35, .iload 4, 2), (37, .iconst 1, 1), (38, .isub, 1), (39, .iaload, 1), (40, .iaload, 1)]
set_option maxRecDepth 20000 in
theorem dn_80_0_0_ok : dn_80_0_0.all (fun q => decide (decode (xm_b n_80) q.1 = .ok (q.2.1, q.2.2))) = true := xa_g_ok (by decide +kernel)
def dn_80_0_1 : List (Nat × Instr × Nat) := [(41, .iload_n 3, 1), (42, .if_icmp .ge 29, 3), (45, .aload_n 0, 1), (46, .getfield 44, 3), (49, .iload_n 1, 1), (50, .aaload, 1), (51, .iload 4, 2), (53, .aload_n 0, 1), (54, .getfield 44, 3), (57, .iload_n 1, 1), (58, .aaload, 1), (59, .iload 4, 2), (61, .iconst 1, 1), (62, .isub, 1), (63, .iaload, 1), (64, .iastore, 1), (65, .iinc 4 (-1), 3), (68, .goto (-48), 3), (71, .aload_n 0, 1), (72, .getfield 44, 3), (75, .iload_n 1, 1), (76, .aaload, 1), (77, .iload 4, 2), (79, .iload_n 2, 1), (80, .iastore, 1)]
set_option maxRecDepth 20000 in
theorem dn_80_0_1_ok : dn_80_0_1.all (fun q => decide (decode (xm_b n_80) q.1 = .ok (q.2.1, q.2.2))) = true := xa_g_ok (by decide +kernel)
def dn_80_0_2 : List (Nat × Instr × Nat) := [(81, .aload_n 0, 1), (82, .getfield 47, 3), (85, .iload_n 1, 1), (86, .dup2, 1), (87, .iaload, 1), (88, .iconst 1, 1), (89, .iadd, 1), (90, .iastore, 1), (91, .aload_n 0, 1), (92, .getfield 50, 3), (95, .iload_n 2, 1), (96, .iload_n 1, 1), (97, .iastore, 1), (98, .aload_n 0, 1), (99, .getfield 53, 3), (102, .iload_n 2, 1), (103, .iload_n 3, 1), (104, .iastore, 1), (105, .return_, 1)]
set_option maxRecDepth 20000 in
theorem dn_80_0_2_ok : dn_80_0_2.all (fun q => decide (decode (xm_b n_80) q.1 = .ok (q.2.1, q.2.2))) = true := xa_g_ok (by decide +kernel)
def te_80_0 : Nat → eE := (e_T 29 (e_T 12 (e_T 5 (e_T 1 (e_T 0 (e_L 0 (0, ei_load 0 2 1, 0, 0)) (e_L 1 (0, ei_getf eft elay 4 13 4, 0, 0))) (e_T 4 (e_L 4 (0, ei_load 1 0 5, 0, 0)) (e_L 5 (0, ei_ald elay false 6, 0, 0)))) (e_T 8 (e_T 6 (e_L 6 (0, ei_push (0, 32) 8, 0, 0)) (e_L 8 (0, ei_if2 2 12 11, 0, 0))) (e_T 11 (e_L 11 (1, e_nof, 0, 0)) (e_L 12 (0, ei_load 0 2 13, 0, 0))))) (e_T 18 (e_T 16 (e_T 13 (e_L 13 (0, ei_getf eft elay 4 13 16, 0, 0)) (e_L 16 (0, ei_load 1 0 17, 0, 0))) (e_T 17 (e_L 17 (0, ei_ald elay false 18, 0, 0)) (e_L 18 (0, ei_stor 4 0 20, 0, 0)))) (e_T 22 (e_T 20 (e_L 20 (0, ei_load 4 0 22, 0, 0)) (e_L 22 (0, ei_if1 5 71 25, 0, 0))) (e_T 25 (e_L 25 (0, ei_load 0 2 26, 0, 0)) (e_T 26 (e_L 26 (0, ei_getf eft elay 4 15 29, 0, 0)) (e_L 29 (0, ei_load 0 2 30, 0, 0))))))) (e_T 40 (e_T 35 (e_T 33 (e_T 30 (e_L 30 (0, ei_getf eft elay 4 12 33, 0, 0)) (e_L 33 (0, ei_load 1 0 34, 0, 0))) (e_T 34 (e_L 34 (0, ei_aald elay 35, 0, 0)) (e_L 35 (0, ei_load 4 0 37, 0, 0)))) (e_T 38 (e_T 37 (e_L 37 (0, ei_push (0, 1) 38, 0, 0)) (e_L 38 (0, ei_bin eF_sub 39, 0, 0))) (e_T 39 (e_L 39 (0, ei_ald elay false 40, 0, 0)) (e_L 40 (0, ei_ald elay false 41, 0, 0))))) (e_T 46 (e_T 42 (e_T 41 (e_L 41 (0, ei_load 3 0 42, 0, 0)) (e_L 42 (0, ei_if2 3 71 45, 0, 0))) (e_T 45 (e_L 45 (0, ei_load 0 2 46, 0, 0)) (e_L 46 (0, ei_getf eft elay 4 12 49, 0, 0)))) (e_T 50 (e_T 49 (e_L 49 (0, ei_load 1 0 50, 0, 0)) (e_L 50 (0, ei_aald elay 51, 0, 0))) (e_T 51 (e_L 51 (0, ei_load 4 0 53, 0, 0)) (e_T 53 (e_L 53 (0, ei_load 0 2 54, 0, 0)) (e_L 54 (0, ei_getf eft elay 4 12 57, 0, 0))))))))
set_option maxRecDepth 20000 in
set_option maxHeartbeats 4000000 in
theorem te_80_0_ok : ∀ pc, e_EOq eft cls elay eI n_80 pc (te_80_0 pc) :=
  (e_Tok2
  (e_Tok2
  (e_Tok2
  (e_Tok2
  (e_Tok2
  (e_Lok (ld_aload_n_0 (x_dk dn_80_0_0_ok 0 rfl)))
  (e_Lok (lk_4_47g ho_80 (x_dk dn_80_0_0_ok 1 rfl))))
  (e_Tok2
  (e_Lok (ld_iload_n_1 (x_dk dn_80_0_0_ok 2 rfl)))
  (e_Lok (sm_iaload (x_dk dn_80_0_0_ok 3 rfl)))))
  (e_Tok2
  (e_Tok2
  (e_Lok (ps_bipush_32 (x_dk dn_80_0_0_ok 4 rfl)))
  (e_Lok (e_st (I := eI) (er_icmplt (off := 4) (tg := 12) (x_dk dn_80_0_0_ok 5 rfl) (by decide)) nx_if2)))
  (e_Tok2
  (e_Lok (e_rt (I := eI) (k := 0) ⟨(x_dk dn_80_0_0_ok 6 rfl), rfl⟩))
  (e_Lok (ld_aload_n_0 (x_dk dn_80_0_0_ok 7 rfl))))))
  (e_Tok2
  (e_Tok2
  (e_Tok2
  (e_Lok (lk_4_47g ho_80 (x_dk dn_80_0_0_ok 8 rfl)))
  (e_Lok (ld_iload_n_1 (x_dk dn_80_0_0_ok 9 rfl))))
  (e_Tok2
  (e_Lok (sm_iaload (x_dk dn_80_0_0_ok 10 rfl)))
  (e_Lok (e_st (I := eI) (er_istore (i := 4) (x_dk dn_80_0_0_ok 11 rfl) (by decide +kernel)) nx_stor))))
  (e_Tok2
  (e_Tok2
  (e_Lok (ld_iload_4 (x_dk dn_80_0_0_ok 12 rfl)))
  (e_Lok (e_st (I := eI) (er_ifle (off := 49) (tg := 71) (x_dk dn_80_0_0_ok 13 rfl) (by decide)) nx_if1)))
  (e_Tok2
  (e_Lok (ld_aload_n_0 (x_dk dn_80_0_0_ok 14 rfl)))
  (e_Tok2
  (e_Lok (lk_4_53g ho_80 (x_dk dn_80_0_0_ok 15 rfl)))
  (e_Lok (ld_aload_n_0 (x_dk dn_80_0_0_ok 16 rfl))))))))
  (e_Tok2
  (e_Tok2
  (e_Tok2
  (e_Tok2
  (e_Lok (lk_4_44g ho_80 (x_dk dn_80_0_0_ok 17 rfl)))
  (e_Lok (ld_iload_n_1 (x_dk dn_80_0_0_ok 18 rfl))))
  (e_Tok2
  (e_Lok (e_st (I := eI) (er_aaload (x_dk dn_80_0_0_ok 19 rfl)) nx_aald))
  (e_Lok (ld_iload_4 (x_dk dn_80_0_0_ok 20 rfl)))))
  (e_Tok2
  (e_Tok2
  (e_Lok (ps_iconst_1 (x_dk dn_80_0_0_ok 21 rfl)))
  (e_Lok (sm_isub (x_dk dn_80_0_0_ok 22 rfl))))
  (e_Tok2
  (e_Lok (sm_iaload (x_dk dn_80_0_0_ok 23 rfl)))
  (e_Lok (sm_iaload (x_dk dn_80_0_0_ok 24 rfl))))))
  (e_Tok2
  (e_Tok2
  (e_Tok2
  (e_Lok (ld_iload_n_3 (x_dk dn_80_0_1_ok 0 rfl)))
  (e_Lok (e_st (I := eI) (er_icmpge (off := 29) (tg := 71) (x_dk dn_80_0_1_ok 1 rfl) (by decide)) nx_if2)))
  (e_Tok2
  (e_Lok (ld_aload_n_0 (x_dk dn_80_0_1_ok 2 rfl)))
  (e_Lok (lk_4_44g ho_80 (x_dk dn_80_0_1_ok 3 rfl)))))
  (e_Tok2
  (e_Tok2
  (e_Lok (ld_iload_n_1 (x_dk dn_80_0_1_ok 4 rfl)))
  (e_Lok (e_st (I := eI) (er_aaload (x_dk dn_80_0_1_ok 5 rfl)) nx_aald)))
  (e_Tok2
  (e_Lok (ld_iload_4 (x_dk dn_80_0_1_ok 6 rfl)))
  (e_Tok2
  (e_Lok (ld_aload_n_0 (x_dk dn_80_0_1_ok 7 rfl)))
  (e_Lok (lk_4_44g ho_80 (x_dk dn_80_0_1_ok 8 rfl)))))))))
def te_80_34 : Nat → eE := (e_T 81 (e_T 65 (e_T 61 (e_T 58 (e_T 57 (e_L 57 (0, ei_load 1 0 58, 0, 0)) (e_L 58 (0, ei_aald elay 59, 0, 0))) (e_T 59 (e_L 59 (0, ei_load 4 0 61, 0, 0)) (e_L 61 (0, ei_push (0, 1) 62, 0, 0)))) (e_T 63 (e_T 62 (e_L 62 (0, ei_bin eF_sub 63, 0, 0)) (e_L 63 (0, ei_ald elay false 64, 0, 0))) (e_T 64 (e_L 64 (0, ei_ast elay false 65, 0, 0)) (e_L 65 (0, ei_inc 4 (-1) 68, 0, 0))))) (e_T 75 (e_T 71 (e_T 68 (e_L 68 (0, ei_goto 20, 0, 0)) (e_L 71 (0, ei_load 0 2 72, 0, 0))) (e_T 72 (e_L 72 (0, ei_getf eft elay 4 12 75, 0, 0)) (e_L 75 (0, ei_load 1 0 76, 0, 0)))) (e_T 77 (e_T 76 (e_L 76 (0, ei_aald elay 77, 0, 0)) (e_L 77 (0, ei_load 4 0 79, 0, 0))) (e_T 79 (e_L 79 (0, ei_load 2 0 80, 0, 0)) (e_T 80 (e_L 80 (0, ei_ast elay false 81, 0, 0)) (e_L 81 (0, ei_load 0 2 82, 0, 0))))))) (e_T 92 (e_T 87 (e_T 85 (e_T 82 (e_L 82 (0, ei_getf eft elay 4 13 85, 0, 0)) (e_L 85 (0, ei_load 1 0 86, 0, 0))) (e_T 86 (e_L 86 (0, ei_stk ef_dup2 87, 0, 0)) (e_L 87 (0, ei_ald elay false 88, 0, 0)))) (e_T 89 (e_T 88 (e_L 88 (0, ei_push (0, 1) 89, 0, 0)) (e_L 89 (0, ei_bin eF_add 90, 0, 0))) (e_T 90 (e_L 90 (0, ei_ast elay false 91, 0, 0)) (e_T 91 (e_L 91 (0, ei_load 0 2 92, 0, 0)) (e_L 92 (0, ei_getf eft elay 4 14 95, 0, 0)))))) (e_T 98 (e_T 96 (e_T 95 (e_L 95 (0, ei_load 2 0 96, 0, 0)) (e_L 96 (0, ei_load 1 0 97, 0, 0))) (e_T 97 (e_L 97 (0, ei_ast elay false 98, 0, 0)) (e_L 98 (0, ei_load 0 2 99, 0, 0)))) (e_T 102 (e_T 99 (e_L 99 (0, ei_getf eft elay 4 15 102, 0, 0)) (e_L 102 (0, ei_load 2 0 103, 0, 0))) (e_T 103 (e_L 103 (0, ei_load 3 0 104, 0, 0)) (e_T 104 (e_L 104 (0, ei_ast elay false 105, 0, 0)) (e_L 105 (1, e_nof, 0, 0))))))))
set_option maxRecDepth 20000 in
set_option maxHeartbeats 4000000 in
theorem te_80_34_ok : ∀ pc, e_EOq eft cls elay eI n_80 pc (te_80_34 pc) :=
  (e_Tok2
  (e_Tok2
  (e_Tok2
  (e_Tok2
  (e_Tok2
  (e_Lok (ld_iload_n_1 (x_dk dn_80_0_1_ok 9 rfl)))
  (e_Lok (e_st (I := eI) (er_aaload (x_dk dn_80_0_1_ok 10 rfl)) nx_aald)))
  (e_Tok2
  (e_Lok (ld_iload_4 (x_dk dn_80_0_1_ok 11 rfl)))
  (e_Lok (ps_iconst_1 (x_dk dn_80_0_1_ok 12 rfl)))))
  (e_Tok2
  (e_Tok2
  (e_Lok (sm_isub (x_dk dn_80_0_1_ok 13 rfl)))
  (e_Lok (sm_iaload (x_dk dn_80_0_1_ok 14 rfl))))
  (e_Tok2
  (e_Lok (sm_iastore (x_dk dn_80_0_1_ok 15 rfl)))
  (e_Lok (e_st (I := eI) (er_iinc (i := 4) (n := (-1)) (x_dk dn_80_0_1_ok 16 rfl) (by decide +kernel) (by decide)) nx_inc)))))
  (e_Tok2
  (e_Tok2
  (e_Tok2
  (e_Lok (e_st (I := eI) (er_goto (off := (-48)) (tg := 20) (x_dk dn_80_0_1_ok 17 rfl) (by decide)) nx_goto))
  (e_Lok (ld_aload_n_0 (x_dk dn_80_0_1_ok 18 rfl))))
  (e_Tok2
  (e_Lok (lk_4_44g ho_80 (x_dk dn_80_0_1_ok 19 rfl)))
  (e_Lok (ld_iload_n_1 (x_dk dn_80_0_1_ok 20 rfl)))))
  (e_Tok2
  (e_Tok2
  (e_Lok (e_st (I := eI) (er_aaload (x_dk dn_80_0_1_ok 21 rfl)) nx_aald))
  (e_Lok (ld_iload_4 (x_dk dn_80_0_1_ok 22 rfl))))
  (e_Tok2
  (e_Lok (ld_iload_n_2 (x_dk dn_80_0_1_ok 23 rfl)))
  (e_Tok2
  (e_Lok (sm_iastore (x_dk dn_80_0_1_ok 24 rfl)))
  (e_Lok (ld_aload_n_0 (x_dk dn_80_0_2_ok 0 rfl))))))))
  (e_Tok2
  (e_Tok2
  (e_Tok2
  (e_Tok2
  (e_Lok (lk_4_47g ho_80 (x_dk dn_80_0_2_ok 1 rfl)))
  (e_Lok (ld_iload_n_1 (x_dk dn_80_0_2_ok 2 rfl))))
  (e_Tok2
  (e_Lok (e_st (I := eI) (er_dup2 (x_dk dn_80_0_2_ok 3 rfl)) (nx_stk bf_dup2)))
  (e_Lok (sm_iaload (x_dk dn_80_0_2_ok 4 rfl)))))
  (e_Tok2
  (e_Tok2
  (e_Lok (ps_iconst_1 (x_dk dn_80_0_2_ok 5 rfl)))
  (e_Lok (sm_iadd (x_dk dn_80_0_2_ok 6 rfl))))
  (e_Tok2
  (e_Lok (sm_iastore (x_dk dn_80_0_2_ok 7 rfl)))
  (e_Tok2
  (e_Lok (ld_aload_n_0 (x_dk dn_80_0_2_ok 8 rfl)))
  (e_Lok (lk_4_50g ho_80 (x_dk dn_80_0_2_ok 9 rfl)))))))
  (e_Tok2
  (e_Tok2
  (e_Tok2
  (e_Lok (ld_iload_n_2 (x_dk dn_80_0_2_ok 10 rfl)))
  (e_Lok (ld_iload_n_1 (x_dk dn_80_0_2_ok 11 rfl))))
  (e_Tok2
  (e_Lok (sm_iastore (x_dk dn_80_0_2_ok 12 rfl)))
  (e_Lok (ld_aload_n_0 (x_dk dn_80_0_2_ok 13 rfl)))))
  (e_Tok2
  (e_Tok2
  (e_Lok (lk_4_53g ho_80 (x_dk dn_80_0_2_ok 14 rfl)))
  (e_Lok (ld_iload_n_2 (x_dk dn_80_0_2_ok 15 rfl))))
  (e_Tok2
  (e_Lok (ld_iload_n_3 (x_dk dn_80_0_2_ok 16 rfl)))
  (e_Tok2
  (e_Lok (sm_iastore (x_dk dn_80_0_2_ok 17 rfl)))
  (e_Lok (e_rt (I := eI) (k := 0) ⟨(x_dk dn_80_0_2_ok 18 rfl), rfl⟩))))))))
def te_80 : Nat → eE := (e_T 54 te_80_0 te_80_34)
theorem te_80_ok : ∀ pc, e_EOq eft cls elay eI n_80 pc (te_80 pc) := (e_Tok2 (te_80_0_ok) (te_80_34_ok))
theorem ho_81 : (xm_y n_81).cls = "RobotCellHouse$Floor" := rfl
def dn_81_0_0 : List (Nat × Instr × Nat) := [(0, .aload_n 0, 1), (1, .getfield 50, 3), (4, .iload_n 1, 1), (5, .iaload, 1), (6, .istore_n 2, 1), (7, .iload_n 2, 1), (8, .iconst 4, 1), (9, .if_icmp .ge 26, 3), (12, .aload_n 0, 1), (13, .getfield 27, 3), (16, .iload_n 2, 1), (17, .iaload, 1), (18, .aload_n 0, 1), (19, .getfield 53, 3), (22, .iload_n 1, 1), (23, .iaload, 1), (24, .aload_n 0, 1), (25, .getfield 33, 3), (28, .iload_n 2, 1), (29, .iaload, 1), (30, .imul, 1), (31, .iadd, 1), (32, .goto 9, 3), (35, .aload_n 0, 1), (36, .getfield 59, 3)]
set_option maxRecDepth 20000 in
theorem dn_81_0_0_ok : dn_81_0_0.all (fun q => decide (decode (xm_b n_81) q.1 = .ok (q.2.1, q.2.2))) = true := xa_g_ok (by decide +kernel)
def dn_81_0_1 : List (Nat × Instr × Nat) := [(39, .iload_n 1, 1), (40, .iaload, 1), (41, .ireturn, 1)]
set_option maxRecDepth 20000 in
theorem dn_81_0_1_ok : dn_81_0_1.all (fun q => decide (decode (xm_b n_81) q.1 = .ok (q.2.1, q.2.2))) = true := xa_g_ok (by decide +kernel)
def te_81_0 : Nat → eE := (e_T 19 (e_T 8 (e_T 4 (e_T 0 (e_L 0 (0, ei_load 0 2 1, 0, 0)) (e_T 1 (e_L 1 (0, ei_getf eft elay 4 14 4, 0, 0)) (e_L 4 (0, ei_load 1 0 5, 0, 0)))) (e_T 6 (e_T 5 (e_L 5 (0, ei_ald elay false 6, 0, 0)) (e_L 6 (0, ei_stor 2 0 7, 0, 0))) (e_T 7 (e_L 7 (0, ei_load 2 0 8, 0, 0)) (e_L 8 (0, ei_push (0, 4) 9, 0, 0))))) (e_T 13 (e_T 9 (e_L 9 (0, ei_if2 3 35 12, 0, 0)) (e_T 12 (e_L 12 (0, ei_load 0 2 13, 0, 0)) (e_L 13 (0, ei_getf eft elay 4 7 16, 0, 0)))) (e_T 17 (e_T 16 (e_L 16 (0, ei_load 2 0 17, 0, 0)) (e_L 17 (0, ei_ald elay false 18, 0, 0))) (e_T 18 (e_L 18 (0, ei_load 0 2 19, 0, 0)) (e_L 19 (0, ei_getf eft elay 4 15 22, 0, 0)))))) (e_T 30 (e_T 24 (e_T 22 (e_L 22 (0, ei_load 1 0 23, 0, 0)) (e_T 23 (e_L 23 (0, ei_ald elay false 24, 0, 0)) (e_L 24 (0, ei_load 0 2 25, 0, 0)))) (e_T 28 (e_T 25 (e_L 25 (0, ei_getf eft elay 4 9 28, 0, 0)) (e_L 28 (0, ei_load 2 0 29, 0, 0))) (e_T 29 (e_L 29 (0, ei_ald elay false 30, 0, 0)) (e_L 30 (0, ei_bin eF_mul 31, 0, 0))))) (e_T 35 (e_T 31 (e_L 31 (0, ei_bin eF_add 32, 0, 0)) (e_T 32 (e_L 32 (0, ei_goto 41, 0, 0)) (e_L 35 (0, ei_load 0 2 36, 0, 0)))) (e_T 39 (e_T 36 (e_L 36 (0, ei_getf eft elay 4 17 39, 0, 0)) (e_L 39 (0, ei_load 1 0 40, 0, 0))) (e_T 40 (e_L 40 (0, ei_ald elay false 41, 0, 0)) (e_L 41 (1, e_nof, 1, 0)))))))
set_option maxRecDepth 20000 in
set_option maxHeartbeats 4000000 in
theorem te_81_0_ok : ∀ pc, e_EOq eft cls elay eI n_81 pc (te_81_0 pc) :=
  (e_Tok2
  (e_Tok2
  (e_Tok2
  (e_Tok2
  (e_Lok (ld_aload_n_0 (x_dk dn_81_0_0_ok 0 rfl)))
  (e_Tok2
  (e_Lok (lk_4_50g ho_81 (x_dk dn_81_0_0_ok 1 rfl)))
  (e_Lok (ld_iload_n_1 (x_dk dn_81_0_0_ok 2 rfl)))))
  (e_Tok2
  (e_Tok2
  (e_Lok (sm_iaload (x_dk dn_81_0_0_ok 3 rfl)))
  (e_Lok (e_st (I := eI) (er_istore_n (i := 2) (x_dk dn_81_0_0_ok 4 rfl) (by decide +kernel)) nx_stor)))
  (e_Tok2
  (e_Lok (ld_iload_n_2 (x_dk dn_81_0_0_ok 5 rfl)))
  (e_Lok (ps_iconst_4 (x_dk dn_81_0_0_ok 6 rfl))))))
  (e_Tok2
  (e_Tok2
  (e_Lok (e_st (I := eI) (er_icmpge (off := 26) (tg := 35) (x_dk dn_81_0_0_ok 7 rfl) (by decide)) nx_if2))
  (e_Tok2
  (e_Lok (ld_aload_n_0 (x_dk dn_81_0_0_ok 8 rfl)))
  (e_Lok (lk_4_27g ho_81 (x_dk dn_81_0_0_ok 9 rfl)))))
  (e_Tok2
  (e_Tok2
  (e_Lok (ld_iload_n_2 (x_dk dn_81_0_0_ok 10 rfl)))
  (e_Lok (sm_iaload (x_dk dn_81_0_0_ok 11 rfl))))
  (e_Tok2
  (e_Lok (ld_aload_n_0 (x_dk dn_81_0_0_ok 12 rfl)))
  (e_Lok (lk_4_53g ho_81 (x_dk dn_81_0_0_ok 13 rfl)))))))
  (e_Tok2
  (e_Tok2
  (e_Tok2
  (e_Lok (ld_iload_n_1 (x_dk dn_81_0_0_ok 14 rfl)))
  (e_Tok2
  (e_Lok (sm_iaload (x_dk dn_81_0_0_ok 15 rfl)))
  (e_Lok (ld_aload_n_0 (x_dk dn_81_0_0_ok 16 rfl)))))
  (e_Tok2
  (e_Tok2
  (e_Lok (lk_4_33g ho_81 (x_dk dn_81_0_0_ok 17 rfl)))
  (e_Lok (ld_iload_n_2 (x_dk dn_81_0_0_ok 18 rfl))))
  (e_Tok2
  (e_Lok (sm_iaload (x_dk dn_81_0_0_ok 19 rfl)))
  (e_Lok (sm_imul (x_dk dn_81_0_0_ok 20 rfl))))))
  (e_Tok2
  (e_Tok2
  (e_Lok (sm_iadd (x_dk dn_81_0_0_ok 21 rfl)))
  (e_Tok2
  (e_Lok (e_st (I := eI) (er_goto (off := 9) (tg := 41) (x_dk dn_81_0_0_ok 22 rfl) (by decide)) nx_goto))
  (e_Lok (ld_aload_n_0 (x_dk dn_81_0_0_ok 23 rfl)))))
  (e_Tok2
  (e_Tok2
  (e_Lok (lk_4_59g ho_81 (x_dk dn_81_0_0_ok 24 rfl)))
  (e_Lok (ld_iload_n_1 (x_dk dn_81_0_1_ok 0 rfl))))
  (e_Tok2
  (e_Lok (sm_iaload (x_dk dn_81_0_1_ok 1 rfl)))
  (e_Lok (e_rt (I := eI) (k := 1) ⟨(x_dk dn_81_0_1_ok 2 rfl), rfl⟩)))))))
def te_81 : Nat → eE := te_81_0
theorem te_81_ok : ∀ pc, e_EOq eft cls elay eI n_81 pc (te_81 pc) := te_81_0_ok
theorem ho_82 : (xm_y n_82).cls = "RobotCellHouse$Floor" := rfl
def dn_82_0_0 : List (Nat × Instr × Nat) := [(0, .aload_n 0, 1), (1, .getfield 50, 3), (4, .iload_n 1, 1), (5, .iaload, 1), (6, .istore_n 2, 1), (7, .iload_n 2, 1), (8, .iconst 4, 1), (9, .if_icmp .ge 26, 3), (12, .aload_n 0, 1), (13, .getfield 30, 3), (16, .iload_n 2, 1), (17, .iaload, 1), (18, .aload_n 0, 1), (19, .getfield 53, 3), (22, .iload_n 1, 1), (23, .iaload, 1), (24, .aload_n 0, 1), (25, .getfield 36, 3), (28, .iload_n 2, 1), (29, .iaload, 1), (30, .imul, 1), (31, .iadd, 1), (32, .goto 9, 3), (35, .aload_n 0, 1), (36, .getfield 62, 3)]
set_option maxRecDepth 20000 in
theorem dn_82_0_0_ok : dn_82_0_0.all (fun q => decide (decode (xm_b n_82) q.1 = .ok (q.2.1, q.2.2))) = true := xa_g_ok (by decide +kernel)
def dn_82_0_1 : List (Nat × Instr × Nat) := [(39, .iload_n 1, 1), (40, .iaload, 1), (41, .ireturn, 1)]
set_option maxRecDepth 20000 in
theorem dn_82_0_1_ok : dn_82_0_1.all (fun q => decide (decode (xm_b n_82) q.1 = .ok (q.2.1, q.2.2))) = true := xa_g_ok (by decide +kernel)
def te_82_0 : Nat → eE := (e_T 19 (e_T 8 (e_T 4 (e_T 0 (e_L 0 (0, ei_load 0 2 1, 0, 0)) (e_T 1 (e_L 1 (0, ei_getf eft elay 4 14 4, 0, 0)) (e_L 4 (0, ei_load 1 0 5, 0, 0)))) (e_T 6 (e_T 5 (e_L 5 (0, ei_ald elay false 6, 0, 0)) (e_L 6 (0, ei_stor 2 0 7, 0, 0))) (e_T 7 (e_L 7 (0, ei_load 2 0 8, 0, 0)) (e_L 8 (0, ei_push (0, 4) 9, 0, 0))))) (e_T 13 (e_T 9 (e_L 9 (0, ei_if2 3 35 12, 0, 0)) (e_T 12 (e_L 12 (0, ei_load 0 2 13, 0, 0)) (e_L 13 (0, ei_getf eft elay 4 8 16, 0, 0)))) (e_T 17 (e_T 16 (e_L 16 (0, ei_load 2 0 17, 0, 0)) (e_L 17 (0, ei_ald elay false 18, 0, 0))) (e_T 18 (e_L 18 (0, ei_load 0 2 19, 0, 0)) (e_L 19 (0, ei_getf eft elay 4 15 22, 0, 0)))))) (e_T 30 (e_T 24 (e_T 22 (e_L 22 (0, ei_load 1 0 23, 0, 0)) (e_T 23 (e_L 23 (0, ei_ald elay false 24, 0, 0)) (e_L 24 (0, ei_load 0 2 25, 0, 0)))) (e_T 28 (e_T 25 (e_L 25 (0, ei_getf eft elay 4 10 28, 0, 0)) (e_L 28 (0, ei_load 2 0 29, 0, 0))) (e_T 29 (e_L 29 (0, ei_ald elay false 30, 0, 0)) (e_L 30 (0, ei_bin eF_mul 31, 0, 0))))) (e_T 35 (e_T 31 (e_L 31 (0, ei_bin eF_add 32, 0, 0)) (e_T 32 (e_L 32 (0, ei_goto 41, 0, 0)) (e_L 35 (0, ei_load 0 2 36, 0, 0)))) (e_T 39 (e_T 36 (e_L 36 (0, ei_getf eft elay 4 18 39, 0, 0)) (e_L 39 (0, ei_load 1 0 40, 0, 0))) (e_T 40 (e_L 40 (0, ei_ald elay false 41, 0, 0)) (e_L 41 (1, e_nof, 1, 0)))))))
set_option maxRecDepth 20000 in
set_option maxHeartbeats 4000000 in
theorem te_82_0_ok : ∀ pc, e_EOq eft cls elay eI n_82 pc (te_82_0 pc) :=
  (e_Tok2
  (e_Tok2
  (e_Tok2
  (e_Tok2
  (e_Lok (ld_aload_n_0 (x_dk dn_82_0_0_ok 0 rfl)))
  (e_Tok2
  (e_Lok (lk_4_50g ho_82 (x_dk dn_82_0_0_ok 1 rfl)))
  (e_Lok (ld_iload_n_1 (x_dk dn_82_0_0_ok 2 rfl)))))
  (e_Tok2
  (e_Tok2
  (e_Lok (sm_iaload (x_dk dn_82_0_0_ok 3 rfl)))
  (e_Lok (e_st (I := eI) (er_istore_n (i := 2) (x_dk dn_82_0_0_ok 4 rfl) (by decide +kernel)) nx_stor)))
  (e_Tok2
  (e_Lok (ld_iload_n_2 (x_dk dn_82_0_0_ok 5 rfl)))
  (e_Lok (ps_iconst_4 (x_dk dn_82_0_0_ok 6 rfl))))))
  (e_Tok2
  (e_Tok2
  (e_Lok (e_st (I := eI) (er_icmpge (off := 26) (tg := 35) (x_dk dn_82_0_0_ok 7 rfl) (by decide)) nx_if2))
  (e_Tok2
  (e_Lok (ld_aload_n_0 (x_dk dn_82_0_0_ok 8 rfl)))
  (e_Lok (lk_4_30g ho_82 (x_dk dn_82_0_0_ok 9 rfl)))))
  (e_Tok2
  (e_Tok2
  (e_Lok (ld_iload_n_2 (x_dk dn_82_0_0_ok 10 rfl)))
  (e_Lok (sm_iaload (x_dk dn_82_0_0_ok 11 rfl))))
  (e_Tok2
  (e_Lok (ld_aload_n_0 (x_dk dn_82_0_0_ok 12 rfl)))
  (e_Lok (lk_4_53g ho_82 (x_dk dn_82_0_0_ok 13 rfl)))))))
  (e_Tok2
  (e_Tok2
  (e_Tok2
  (e_Lok (ld_iload_n_1 (x_dk dn_82_0_0_ok 14 rfl)))
  (e_Tok2
  (e_Lok (sm_iaload (x_dk dn_82_0_0_ok 15 rfl)))
  (e_Lok (ld_aload_n_0 (x_dk dn_82_0_0_ok 16 rfl)))))
  (e_Tok2
  (e_Tok2
  (e_Lok (lk_4_36g ho_82 (x_dk dn_82_0_0_ok 17 rfl)))
  (e_Lok (ld_iload_n_2 (x_dk dn_82_0_0_ok 18 rfl))))
  (e_Tok2
  (e_Lok (sm_iaload (x_dk dn_82_0_0_ok 19 rfl)))
  (e_Lok (sm_imul (x_dk dn_82_0_0_ok 20 rfl))))))
  (e_Tok2
  (e_Tok2
  (e_Lok (sm_iadd (x_dk dn_82_0_0_ok 21 rfl)))
  (e_Tok2
  (e_Lok (e_st (I := eI) (er_goto (off := 9) (tg := 41) (x_dk dn_82_0_0_ok 22 rfl) (by decide)) nx_goto))
  (e_Lok (ld_aload_n_0 (x_dk dn_82_0_0_ok 23 rfl)))))
  (e_Tok2
  (e_Tok2
  (e_Lok (lk_4_62g ho_82 (x_dk dn_82_0_0_ok 24 rfl)))
  (e_Lok (ld_iload_n_1 (x_dk dn_82_0_1_ok 0 rfl))))
  (e_Tok2
  (e_Lok (sm_iaload (x_dk dn_82_0_1_ok 1 rfl)))
  (e_Lok (e_rt (I := eI) (k := 1) ⟨(x_dk dn_82_0_1_ok 2 rfl), rfl⟩)))))))
def te_82 : Nat → eE := te_82_0
theorem te_82_ok : ∀ pc, e_EOq eft cls elay eI n_82 pc (te_82 pc) := te_82_0_ok
theorem ho_83 : (xm_y n_83).cls = "RobotCellHouse$Floor" := rfl
def dn_83_0_0 : List (Nat × Instr × Nat) := [(0, .iconst (-1), 1), (1, .istore 4, 2), (3, .iload_n 3, 1), (4, .i2l, 1), (5, .iload_n 3, 1), (6, .i2l, 1), (7, .lmul, 1), (8, .lstore 5, 2), (10, .iconst 0, 1), (11, .istore 7, 2), (13, .iload 7, 2), (15, .aload_n 0, 1), (16, .getfield 79, 3), (19, .if_icmp .ge 85, 3), (22, .aload_n 0, 1), (23, .getfield 50, 3), (26, .iload 7, 2), (28, .iaload, 1), (29, .iconst 4, 1), (30, .if_icmp .lt 18, 3), (33, .aload_n 0, 1), (34, .getfield 50, 3), (37, .iload 7, 2), (39, .iaload, 1), (40, .bipush 8, 2)]
set_option maxRecDepth 20000 in
theorem dn_83_0_0_ok : dn_83_0_0.all (fun q => decide (decode (xm_b n_83) q.1 = .ok (q.2.1, q.2.2))) = true := xa_g_ok (by decide +kernel)
def dn_83_0_1 : List (Nat × Instr × Nat) := [(42, .if_icmp .eq 6, 3), (45, .goto 53, 3), (48, .aload_n 0, 1), (49, .iload 7, 2), (51, .invokevirtual 93, 3), (54, .iload_n 1, 1), (55, .isub, 1), (56, .aload_n 0, 1), (57, .iload 7, 2), (59, .invokevirtual 96, 3), (62, .iload_n 2, 1), (63, .isub, 1), (64, .invokestatic 99, 3), (67, .lstore 8, 2), (69, .lload 8, 2), (71, .lload 5, 2), (73, .lcmp, 1), (74, .ifCond .lt 16, 3), (77, .lload 8, 2), (79, .lload 5, 2), (81, .lcmp, 1), (82, .ifCond .ne 16, 3), (85, .iload 4, 2), (87, .ifCond .ge 11, 3), (90, .iload 7, 2)]
set_option maxRecDepth 20000 in
theorem dn_83_0_1_ok : dn_83_0_1.all (fun q => decide (decode (xm_b n_83) q.1 = .ok (q.2.1, q.2.2))) = true := xa_g_ok (by decide +kernel)
def dn_83_0_2 : List (Nat × Instr × Nat) := [(92, .istore 4, 2), (94, .lload 8, 2), (96, .lstore 5, 2), (98, .iinc 7 1, 3), (101, .goto (-88), 3), (104, .iload 4, 2), (106, .ireturn, 1)]
set_option maxRecDepth 20000 in
theorem dn_83_0_2_ok : dn_83_0_2.all (fun q => decide (decode (xm_b n_83) q.1 = .ok (q.2.1, q.2.2))) = true := xa_g_ok (by decide +kernel)
def te_83_0 : Nat → eE := (e_T 19 (e_T 7 (e_T 3 (e_T 0 (e_L 0 (0, ei_push (0, (-1)) 1, 0, 0)) (e_T 1 (e_L 1 (0, ei_stor 4 0 3, 0, 0)) (e_L 3 (0, ei_load 3 0 4, 0, 0)))) (e_T 5 (e_T 4 (e_L 4 (0, ei_un (fun x => (4, x)) 5, 0, 0)) (e_L 5 (0, ei_load 3 0 6, 0, 0))) (e_T 6 (e_L 6 (0, ei_un (fun x => (4, x)) 7, 0, 0)) (e_L 7 (0, ei_binL eG_mul 8, 0, 0))))) (e_T 11 (e_T 8 (e_L 8 (0, ei_stor 5 1 10, 0, 0)) (e_T 10 (e_L 10 (0, ei_push (0, 0) 11, 0, 0)) (e_L 11 (0, ei_stor 7 0 13, 0, 0)))) (e_T 15 (e_T 13 (e_L 13 (0, ei_load 7 0 15, 0, 0)) (e_L 15 (0, ei_load 0 2 16, 0, 0))) (e_T 16 (e_L 16 (0, ei_getf eft elay 4 1 19, 0, 0)) (e_L 19 (0, ei_if2 3 104 22, 0, 0)))))) (e_T 33 (e_T 26 (e_T 22 (e_L 22 (0, ei_load 0 2 23, 0, 0)) (e_T 23 (e_L 23 (0, ei_getf eft elay 4 14 26, 0, 0)) (e_L 26 (0, ei_load 7 0 28, 0, 0)))) (e_T 29 (e_T 28 (e_L 28 (0, ei_ald elay false 29, 0, 0)) (e_L 29 (0, ei_push (0, 4) 30, 0, 0))) (e_T 30 (e_L 30 (0, ei_if2 2 48 33, 0, 0)) (e_L 33 (0, ei_load 0 2 34, 0, 0))))) (e_T 39 (e_T 34 (e_L 34 (0, ei_getf eft elay 4 14 37, 0, 0)) (e_T 37 (e_L 37 (0, ei_load 7 0 39, 0, 0)) (e_L 39 (0, ei_ald elay false 40, 0, 0)))) (e_T 42 (e_T 40 (e_L 40 (0, ei_push (0, 8) 42, 0, 0)) (e_L 42 (0, ei_if2 0 48 45, 0, 0))) (e_T 45 (e_L 45 (0, ei_goto 98, 0, 0)) (e_L 48 (0, ei_load 0 2 49, 0, 0)))))))
set_option maxRecDepth 20000 in
set_option maxHeartbeats 4000000 in
theorem te_83_0_ok : ∀ pc, e_EOq eft cls elay eI n_83 pc (te_83_0 pc) :=
  (e_Tok2
  (e_Tok2
  (e_Tok2
  (e_Tok2
  (e_Lok (ps_iconst_m1 (x_dk dn_83_0_0_ok 0 rfl)))
  (e_Tok2
  (e_Lok (e_st (I := eI) (er_istore (i := 4) (x_dk dn_83_0_0_ok 1 rfl) (by decide +kernel)) nx_stor))
  (e_Lok (ld_iload_n_3 (x_dk dn_83_0_0_ok 2 rfl)))))
  (e_Tok2
  (e_Tok2
  (e_Lok (e_st (I := eI) (er_i2l (x_dk dn_83_0_0_ok 3 rfl)) (nx_un (fun _ => rfl))))
  (e_Lok (ld_iload_n_3 (x_dk dn_83_0_0_ok 4 rfl))))
  (e_Tok2
  (e_Lok (e_st (I := eI) (er_i2l (x_dk dn_83_0_0_ok 5 rfl)) (nx_un (fun _ => rfl))))
  (e_Lok (e_st (I := eI) (er_lmul (x_dk dn_83_0_0_ok 6 rfl)) (nx_binL bG_lmul))))))
  (e_Tok2
  (e_Tok2
  (e_Lok (e_st (I := eI) (er_lstore (i := 5) (x_dk dn_83_0_0_ok 7 rfl) (by decide +kernel)) nx_stor))
  (e_Tok2
  (e_Lok (ps_iconst_0 (x_dk dn_83_0_0_ok 8 rfl)))
  (e_Lok (e_st (I := eI) (er_istore (i := 7) (x_dk dn_83_0_0_ok 9 rfl) (by decide +kernel)) nx_stor))))
  (e_Tok2
  (e_Tok2
  (e_Lok (ld_iload_7 (x_dk dn_83_0_0_ok 10 rfl)))
  (e_Lok (ld_aload_n_0 (x_dk dn_83_0_0_ok 11 rfl))))
  (e_Tok2
  (e_Lok (lk_4_79g ho_83 (x_dk dn_83_0_0_ok 12 rfl)))
  (e_Lok (e_st (I := eI) (er_icmpge (off := 85) (tg := 104) (x_dk dn_83_0_0_ok 13 rfl) (by decide)) nx_if2))))))
  (e_Tok2
  (e_Tok2
  (e_Tok2
  (e_Lok (ld_aload_n_0 (x_dk dn_83_0_0_ok 14 rfl)))
  (e_Tok2
  (e_Lok (lk_4_50g ho_83 (x_dk dn_83_0_0_ok 15 rfl)))
  (e_Lok (ld_iload_7 (x_dk dn_83_0_0_ok 16 rfl)))))
  (e_Tok2
  (e_Tok2
  (e_Lok (sm_iaload (x_dk dn_83_0_0_ok 17 rfl)))
  (e_Lok (ps_iconst_4 (x_dk dn_83_0_0_ok 18 rfl))))
  (e_Tok2
  (e_Lok (e_st (I := eI) (er_icmplt (off := 18) (tg := 48) (x_dk dn_83_0_0_ok 19 rfl) (by decide)) nx_if2))
  (e_Lok (ld_aload_n_0 (x_dk dn_83_0_0_ok 20 rfl))))))
  (e_Tok2
  (e_Tok2
  (e_Lok (lk_4_50g ho_83 (x_dk dn_83_0_0_ok 21 rfl)))
  (e_Tok2
  (e_Lok (ld_iload_7 (x_dk dn_83_0_0_ok 22 rfl)))
  (e_Lok (sm_iaload (x_dk dn_83_0_0_ok 23 rfl)))))
  (e_Tok2
  (e_Tok2
  (e_Lok (ps_bipush_8 (x_dk dn_83_0_0_ok 24 rfl)))
  (e_Lok (e_st (I := eI) (er_icmpeq (off := 6) (tg := 48) (x_dk dn_83_0_1_ok 0 rfl) (by decide)) nx_if2)))
  (e_Tok2
  (e_Lok (e_st (I := eI) (er_goto (off := 53) (tg := 98) (x_dk dn_83_0_1_ok 1 rfl) (by decide)) nx_goto))
  (e_Lok (ld_aload_n_0 (x_dk dn_83_0_1_ok 2 rfl))))))))
def te_83_28 : Nat → eE := (e_T 73 (e_T 59 (e_T 54 (e_T 49 (e_L 49 (0, ei_load 7 0 51, 0, 0)) (e_T 51 (e_L 51 (2, e_nof, 81, 2)) (e_L 54 (0, ei_load 1 0 55, 0, 0)))) (e_T 56 (e_T 55 (e_L 55 (0, ei_bin eF_sub 56, 0, 0)) (e_L 56 (0, ei_load 0 2 57, 0, 0))) (e_T 57 (e_L 57 (0, ei_load 7 0 59, 0, 0)) (e_L 59 (2, e_nof, 82, 2))))) (e_T 64 (e_T 62 (e_L 62 (0, ei_load 2 0 63, 0, 0)) (e_T 63 (e_L 63 (0, ei_bin eF_sub 64, 0, 0)) (e_L 64 (2, e_nof, 178, 2)))) (e_T 69 (e_T 67 (e_L 67 (0, ei_stor 8 1 69, 0, 0)) (e_L 69 (0, ei_load 8 1 71, 0, 0))) (e_T 71 (e_L 71 (0, ei_load 5 1 73, 0, 0)) (e_L 73 (0, ei_binL eG_cmp 74, 0, 0)))))) (e_T 87 (e_T 79 (e_T 74 (e_L 74 (0, ei_if1 2 90 77, 0, 0)) (e_T 77 (e_L 77 (0, ei_load 8 1 79, 0, 0)) (e_L 79 (0, ei_load 5 1 81, 0, 0)))) (e_T 82 (e_T 81 (e_L 81 (0, ei_binL eG_cmp 82, 0, 0)) (e_L 82 (0, ei_if1 1 98 85, 0, 0))) (e_T 85 (e_L 85 (0, ei_load 4 0 87, 0, 0)) (e_L 87 (0, ei_if1 3 98 90, 0, 0))))) (e_T 96 (e_T 92 (e_T 90 (e_L 90 (0, ei_load 7 0 92, 0, 0)) (e_L 92 (0, ei_stor 4 0 94, 0, 0))) (e_T 94 (e_L 94 (0, ei_load 8 1 96, 0, 0)) (e_L 96 (0, ei_stor 5 1 98, 0, 0)))) (e_T 101 (e_T 98 (e_L 98 (0, ei_inc 7 1 101, 0, 0)) (e_L 101 (0, ei_goto 13, 0, 0))) (e_T 104 (e_L 104 (0, ei_load 4 0 106, 0, 0)) (e_L 106 (1, e_nof, 1, 0)))))))
set_option maxRecDepth 20000 in
set_option maxHeartbeats 4000000 in
theorem te_83_28_ok : ∀ pc, e_EOq eft cls elay eI n_83 pc (te_83_28 pc) :=
  (e_Tok2
  (e_Tok2
  (e_Tok2
  (e_Tok2
  (e_Lok (ld_iload_7 (x_dk dn_83_0_1_ok 3 rfl)))
  (e_Tok2
  (e_Lok (lk_4_93 ho_83 (x_dk dn_83_0_1_ok 4 rfl)))
  (e_Lok (ld_iload_n_1 (x_dk dn_83_0_1_ok 5 rfl)))))
  (e_Tok2
  (e_Tok2
  (e_Lok (sm_isub (x_dk dn_83_0_1_ok 6 rfl)))
  (e_Lok (ld_aload_n_0 (x_dk dn_83_0_1_ok 7 rfl))))
  (e_Tok2
  (e_Lok (ld_iload_7 (x_dk dn_83_0_1_ok 8 rfl)))
  (e_Lok (lk_4_96 ho_83 (x_dk dn_83_0_1_ok 9 rfl))))))
  (e_Tok2
  (e_Tok2
  (e_Lok (ld_iload_n_2 (x_dk dn_83_0_1_ok 10 rfl)))
  (e_Tok2
  (e_Lok (sm_isub (x_dk dn_83_0_1_ok 11 rfl)))
  (e_Lok (lk_4_99 ho_83 (x_dk dn_83_0_1_ok 12 rfl)))))
  (e_Tok2
  (e_Tok2
  (e_Lok (e_st (I := eI) (er_lstore (i := 8) (x_dk dn_83_0_1_ok 13 rfl) (by decide +kernel)) nx_stor))
  (e_Lok (ld_lload_8 (x_dk dn_83_0_1_ok 14 rfl))))
  (e_Tok2
  (e_Lok (ld_lload_5 (x_dk dn_83_0_1_ok 15 rfl)))
  (e_Lok (e_st (I := eI) (er_lcmp (x_dk dn_83_0_1_ok 16 rfl)) (nx_binL bG_lcmp)))))))
  (e_Tok2
  (e_Tok2
  (e_Tok2
  (e_Lok (e_st (I := eI) (er_iflt (off := 16) (tg := 90) (x_dk dn_83_0_1_ok 17 rfl) (by decide)) nx_if1))
  (e_Tok2
  (e_Lok (ld_lload_8 (x_dk dn_83_0_1_ok 18 rfl)))
  (e_Lok (ld_lload_5 (x_dk dn_83_0_1_ok 19 rfl)))))
  (e_Tok2
  (e_Tok2
  (e_Lok (e_st (I := eI) (er_lcmp (x_dk dn_83_0_1_ok 20 rfl)) (nx_binL bG_lcmp)))
  (e_Lok (e_st (I := eI) (er_ifne (off := 16) (tg := 98) (x_dk dn_83_0_1_ok 21 rfl) (by decide)) nx_if1)))
  (e_Tok2
  (e_Lok (ld_iload_4 (x_dk dn_83_0_1_ok 22 rfl)))
  (e_Lok (e_st (I := eI) (er_ifge (off := 11) (tg := 98) (x_dk dn_83_0_1_ok 23 rfl) (by decide)) nx_if1)))))
  (e_Tok2
  (e_Tok2
  (e_Tok2
  (e_Lok (ld_iload_7 (x_dk dn_83_0_1_ok 24 rfl)))
  (e_Lok (e_st (I := eI) (er_istore (i := 4) (x_dk dn_83_0_2_ok 0 rfl) (by decide +kernel)) nx_stor)))
  (e_Tok2
  (e_Lok (ld_lload_8 (x_dk dn_83_0_2_ok 1 rfl)))
  (e_Lok (e_st (I := eI) (er_lstore (i := 5) (x_dk dn_83_0_2_ok 2 rfl) (by decide +kernel)) nx_stor))))
  (e_Tok2
  (e_Tok2
  (e_Lok (e_st (I := eI) (er_iinc (i := 7) (n := 1) (x_dk dn_83_0_2_ok 3 rfl) (by decide +kernel) (by decide)) nx_inc))
  (e_Lok (e_st (I := eI) (er_goto (off := (-88)) (tg := 13) (x_dk dn_83_0_2_ok 4 rfl) (by decide)) nx_goto)))
  (e_Tok2
  (e_Lok (ld_iload_4 (x_dk dn_83_0_2_ok 5 rfl)))
  (e_Lok (e_rt (I := eI) (k := 1) ⟨(x_dk dn_83_0_2_ok 6 rfl), rfl⟩)))))))
def te_83 : Nat → eE := (e_T 48 te_83_0 te_83_28)
theorem te_83_ok : ∀ pc, e_EOq eft cls elay eI n_83 pc (te_83 pc) := (e_Tok2 (te_83_0_ok) (te_83_28_ok))
end
end
-- part 41af
section
noncomputable section
theorem ho_84 : (xm_y n_84).cls = "RobotCellHouse$Floor" := rfl
def dn_84_0_0 : List (Nat × Instr × Nat) := [(0, .aload_n 0, 1), (1, .getfield 50, 3), (4, .iload_n 2, 1), (5, .iaload, 1), (6, .istore_n 3, 1), (7, .aload_n 0, 1), (8, .getfield 50, 3), (11, .iload_n 2, 1), (12, .iconst 4, 1), (13, .iload_n 1, 1), (14, .iadd, 1), (15, .iastore, 1), (16, .iload_n 3, 1), (17, .iconst 4, 1), (18, .if_icmp .lt 4, 3), (21, .return_, 1), (22, .iconst 0, 1), (23, .istore 4, 2), (25, .iconst 0, 1), (26, .istore 5, 2), (28, .iload 5, 2), (30, .aload_n 0, 1), (31, .getfield 47, 3), (34, .iload_n 3, 1), (35, .iaload, 1)]
set_option maxRecDepth 20000 in
theorem dn_84_0_0_ok : dn_84_0_0.all (fun q => decide (decode (xm_b n_84) q.1 = .ok (q.2.1, q.2.2))) = true := xa_g_ok (by decide +kernel)
def dn_84_0_1 : List (Nat × Instr × Nat) := [(36, .if_icmp .ge 43, 3), (39, .aload_n 0, 1), (40, .getfield 44, 3), (43, .iload_n 3, 1), (44, .aaload, 1), (45, .iload 5, 2), (47, .iaload, 1), (48, .iload_n 2, 1), (49, .if_icmp .eq 24, 3), (52, .aload_n 0, 1), (53, .getfield 44, 3), (56, .iload_n 3, 1), (57, .aaload, 1), (58, .iload 4, 2), (60, .aload_n 0, 1), (61, .getfield 44, 3), (64, .iload_n 3, 1), (65, .aaload, 1), (66, .iload 5, 2), (68, .iaload, 1), (69, .iastore, 1), (70, .iinc 4 1, 3), (73, .iinc 5 1, 3), (76, .goto (-48), 3), (79, .aload_n 0, 1)]
set_option maxRecDepth 20000 in
theorem dn_84_0_1_ok : dn_84_0_1.all (fun q => decide (decode (xm_b n_84) q.1 = .ok (q.2.1, q.2.2))) = true := xa_g_ok (by decide +kernel)
def dn_84_0_2 : List (Nat × Instr × Nat) := [(80, .getfield 47, 3), (83, .iload_n 3, 1), (84, .iload 4, 2), (86, .iastore, 1), (87, .return_, 1)]
set_option maxRecDepth 20000 in
theorem dn_84_0_2_ok : dn_84_0_2.all (fun q => decide (decode (xm_b n_84) q.1 = .ok (q.2.1, q.2.2))) = true := xa_g_ok (by decide +kernel)
def te_84_0 : Nat → eE := (e_T 16 (e_T 7 (e_T 4 (e_T 0 (e_L 0 (0, ei_load 0 2 1, 0, 0)) (e_T 1 (e_L 1 (0, ei_getf eft elay 4 14 4, 0, 0)) (e_L 4 (0, ei_load 2 0 5, 0, 0)))) (e_T 5 (e_L 5 (0, ei_ald elay false 6, 0, 0)) (e_T 6 (e_L 6 (0, ei_stor 3 0 7, 0, 0)) (e_L 7 (0, ei_load 0 2 8, 0, 0))))) (e_T 12 (e_T 8 (e_L 8 (0, ei_getf eft elay 4 14 11, 0, 0)) (e_T 11 (e_L 11 (0, ei_load 2 0 12, 0, 0)) (e_L 12 (0, ei_push (0, 4) 13, 0, 0)))) (e_T 14 (e_T 13 (e_L 13 (0, ei_load 1 0 14, 0, 0)) (e_L 14 (0, ei_bin eF_add 15, 0, 0))) (e_T 15 (e_L 15 (0, ei_ast elay false 16, 0, 0)) (e_L 16 (0, ei_load 3 0 17, 0, 0)))))) (e_T 26 (e_T 21 (e_T 17 (e_L 17 (0, ei_push (0, 4) 18, 0, 0)) (e_T 18 (e_L 18 (0, ei_if2 2 22 21, 0, 0)) (e_L 21 (1, e_nof, 0, 0)))) (e_T 23 (e_T 22 (e_L 22 (0, ei_push (0, 0) 23, 0, 0)) (e_L 23 (0, ei_stor 4 0 25, 0, 0))) (e_T 25 (e_L 25 (0, ei_push (0, 0) 26, 0, 0)) (e_L 26 (0, ei_stor 5 0 28, 0, 0))))) (e_T 31 (e_T 28 (e_L 28 (0, ei_load 5 0 30, 0, 0)) (e_T 30 (e_L 30 (0, ei_load 0 2 31, 0, 0)) (e_L 31 (0, ei_getf eft elay 4 13 34, 0, 0)))) (e_T 35 (e_T 34 (e_L 34 (0, ei_load 3 0 35, 0, 0)) (e_L 35 (0, ei_ald elay false 36, 0, 0))) (e_T 36 (e_L 36 (0, ei_if2 3 79 39, 0, 0)) (e_L 39 (0, ei_load 0 2 40, 0, 0)))))))
set_option maxRecDepth 20000 in
set_option maxHeartbeats 4000000 in
theorem te_84_0_ok : ∀ pc, e_EOq eft cls elay eI n_84 pc (te_84_0 pc) :=
  (e_Tok2
  (e_Tok2
  (e_Tok2
  (e_Tok2
  (e_Lok (ld_aload_n_0 (x_dk dn_84_0_0_ok 0 rfl)))
  (e_Tok2
  (e_Lok (lk_4_50g ho_84 (x_dk dn_84_0_0_ok 1 rfl)))
  (e_Lok (ld_iload_n_2 (x_dk dn_84_0_0_ok 2 rfl)))))
  (e_Tok2
  (e_Lok (sm_iaload (x_dk dn_84_0_0_ok 3 rfl)))
  (e_Tok2
  (e_Lok (e_st (I := eI) (er_istore_n (i := 3) (x_dk dn_84_0_0_ok 4 rfl) (by decide +kernel)) nx_stor))
  (e_Lok (ld_aload_n_0 (x_dk dn_84_0_0_ok 5 rfl))))))
  (e_Tok2
  (e_Tok2
  (e_Lok (lk_4_50g ho_84 (x_dk dn_84_0_0_ok 6 rfl)))
  (e_Tok2
  (e_Lok (ld_iload_n_2 (x_dk dn_84_0_0_ok 7 rfl)))
  (e_Lok (ps_iconst_4 (x_dk dn_84_0_0_ok 8 rfl)))))
  (e_Tok2
  (e_Tok2
  (e_Lok (ld_iload_n_1 (x_dk dn_84_0_0_ok 9 rfl)))
  (e_Lok (sm_iadd (x_dk dn_84_0_0_ok 10 rfl))))
  (e_Tok2
  (e_Lok (sm_iastore (x_dk dn_84_0_0_ok 11 rfl)))
  (e_Lok (ld_iload_n_3 (x_dk dn_84_0_0_ok 12 rfl)))))))
  (e_Tok2
  (e_Tok2
  (e_Tok2
  (e_Lok (ps_iconst_4 (x_dk dn_84_0_0_ok 13 rfl)))
  (e_Tok2
  (e_Lok (e_st (I := eI) (er_icmplt (off := 4) (tg := 22) (x_dk dn_84_0_0_ok 14 rfl) (by decide)) nx_if2))
  (e_Lok (e_rt (I := eI) (k := 0) ⟨(x_dk dn_84_0_0_ok 15 rfl), rfl⟩))))
  (e_Tok2
  (e_Tok2
  (e_Lok (ps_iconst_0 (x_dk dn_84_0_0_ok 16 rfl)))
  (e_Lok (e_st (I := eI) (er_istore (i := 4) (x_dk dn_84_0_0_ok 17 rfl) (by decide +kernel)) nx_stor)))
  (e_Tok2
  (e_Lok (ps_iconst_0 (x_dk dn_84_0_0_ok 18 rfl)))
  (e_Lok (e_st (I := eI) (er_istore (i := 5) (x_dk dn_84_0_0_ok 19 rfl) (by decide +kernel)) nx_stor)))))
  (e_Tok2
  (e_Tok2
  (e_Lok (ld_iload_5 (x_dk dn_84_0_0_ok 20 rfl)))
  (e_Tok2
  (e_Lok (ld_aload_n_0 (x_dk dn_84_0_0_ok 21 rfl)))
  (e_Lok (lk_4_47g ho_84 (x_dk dn_84_0_0_ok 22 rfl)))))
  (e_Tok2
  (e_Tok2
  (e_Lok (ld_iload_n_3 (x_dk dn_84_0_0_ok 23 rfl)))
  (e_Lok (sm_iaload (x_dk dn_84_0_0_ok 24 rfl))))
  (e_Tok2
  (e_Lok (e_st (I := eI) (er_icmpge (off := 43) (tg := 79) (x_dk dn_84_0_1_ok 0 rfl) (by decide)) nx_if2))
  (e_Lok (ld_aload_n_0 (x_dk dn_84_0_1_ok 1 rfl))))))))
def te_84_27 : Nat → eE := (e_T 61 (e_T 49 (e_T 44 (e_T 40 (e_L 40 (0, ei_getf eft elay 4 12 43, 0, 0)) (e_T 43 (e_L 43 (0, ei_load 3 0 44, 0, 0)) (e_L 44 (0, ei_aald elay 45, 0, 0)))) (e_T 47 (e_T 45 (e_L 45 (0, ei_load 5 0 47, 0, 0)) (e_L 47 (0, ei_ald elay false 48, 0, 0))) (e_T 48 (e_L 48 (0, ei_load 2 0 49, 0, 0)) (e_L 49 (0, ei_if2 0 73 52, 0, 0))))) (e_T 56 (e_T 52 (e_L 52 (0, ei_load 0 2 53, 0, 0)) (e_T 53 (e_L 53 (0, ei_getf eft elay 4 12 56, 0, 0)) (e_L 56 (0, ei_load 3 0 57, 0, 0)))) (e_T 58 (e_T 57 (e_L 57 (0, ei_aald elay 58, 0, 0)) (e_L 58 (0, ei_load 4 0 60, 0, 0))) (e_T 60 (e_L 60 (0, ei_load 0 2 61, 0, 0)) (e_L 61 (0, ei_getf eft elay 4 12 64, 0, 0)))))) (e_T 73 (e_T 66 (e_T 64 (e_L 64 (0, ei_load 3 0 65, 0, 0)) (e_T 65 (e_L 65 (0, ei_aald elay 66, 0, 0)) (e_L 66 (0, ei_load 5 0 68, 0, 0)))) (e_T 69 (e_T 68 (e_L 68 (0, ei_ald elay false 69, 0, 0)) (e_L 69 (0, ei_ast elay false 70, 0, 0))) (e_T 70 (e_L 70 (0, ei_inc 4 1 73, 0, 0)) (e_L 73 (0, ei_inc 5 1 76, 0, 0))))) (e_T 80 (e_T 76 (e_L 76 (0, ei_goto 28, 0, 0)) (e_T 79 (e_L 79 (0, ei_load 0 2 80, 0, 0)) (e_L 80 (0, ei_getf eft elay 4 13 83, 0, 0)))) (e_T 84 (e_T 83 (e_L 83 (0, ei_load 3 0 84, 0, 0)) (e_L 84 (0, ei_load 4 0 86, 0, 0))) (e_T 86 (e_L 86 (0, ei_ast elay false 87, 0, 0)) (e_L 87 (1, e_nof, 0, 0)))))))
set_option maxRecDepth 20000 in
set_option maxHeartbeats 4000000 in
theorem te_84_27_ok : ∀ pc, e_EOq eft cls elay eI n_84 pc (te_84_27 pc) :=
  (e_Tok2
  (e_Tok2
  (e_Tok2
  (e_Tok2
  (e_Lok (lk_4_44g ho_84 (x_dk dn_84_0_1_ok 2 rfl)))
  (e_Tok2
  (e_Lok (ld_iload_n_3 (x_dk dn_84_0_1_ok 3 rfl)))
  (e_Lok (e_st (I := eI) (er_aaload (x_dk dn_84_0_1_ok 4 rfl)) nx_aald))))
  (e_Tok2
  (e_Tok2
  (e_Lok (ld_iload_5 (x_dk dn_84_0_1_ok 5 rfl)))
  (e_Lok (sm_iaload (x_dk dn_84_0_1_ok 6 rfl))))
  (e_Tok2
  (e_Lok (ld_iload_n_2 (x_dk dn_84_0_1_ok 7 rfl)))
  (e_Lok (e_st (I := eI) (er_icmpeq (off := 24) (tg := 73) (x_dk dn_84_0_1_ok 8 rfl) (by decide)) nx_if2)))))
  (e_Tok2
  (e_Tok2
  (e_Lok (ld_aload_n_0 (x_dk dn_84_0_1_ok 9 rfl)))
  (e_Tok2
  (e_Lok (lk_4_44g ho_84 (x_dk dn_84_0_1_ok 10 rfl)))
  (e_Lok (ld_iload_n_3 (x_dk dn_84_0_1_ok 11 rfl)))))
  (e_Tok2
  (e_Tok2
  (e_Lok (e_st (I := eI) (er_aaload (x_dk dn_84_0_1_ok 12 rfl)) nx_aald))
  (e_Lok (ld_iload_4 (x_dk dn_84_0_1_ok 13 rfl))))
  (e_Tok2
  (e_Lok (ld_aload_n_0 (x_dk dn_84_0_1_ok 14 rfl)))
  (e_Lok (lk_4_44g ho_84 (x_dk dn_84_0_1_ok 15 rfl)))))))
  (e_Tok2
  (e_Tok2
  (e_Tok2
  (e_Lok (ld_iload_n_3 (x_dk dn_84_0_1_ok 16 rfl)))
  (e_Tok2
  (e_Lok (e_st (I := eI) (er_aaload (x_dk dn_84_0_1_ok 17 rfl)) nx_aald))
  (e_Lok (ld_iload_5 (x_dk dn_84_0_1_ok 18 rfl)))))
  (e_Tok2
  (e_Tok2
  (e_Lok (sm_iaload (x_dk dn_84_0_1_ok 19 rfl)))
  (e_Lok (sm_iastore (x_dk dn_84_0_1_ok 20 rfl))))
  (e_Tok2
  (e_Lok (e_st (I := eI) (er_iinc (i := 4) (n := 1) (x_dk dn_84_0_1_ok 21 rfl) (by decide +kernel) (by decide)) nx_inc))
  (e_Lok (e_st (I := eI) (er_iinc (i := 5) (n := 1) (x_dk dn_84_0_1_ok 22 rfl) (by decide +kernel) (by decide)) nx_inc)))))
  (e_Tok2
  (e_Tok2
  (e_Lok (e_st (I := eI) (er_goto (off := (-48)) (tg := 28) (x_dk dn_84_0_1_ok 23 rfl) (by decide)) nx_goto))
  (e_Tok2
  (e_Lok (ld_aload_n_0 (x_dk dn_84_0_1_ok 24 rfl)))
  (e_Lok (lk_4_47g ho_84 (x_dk dn_84_0_2_ok 0 rfl)))))
  (e_Tok2
  (e_Tok2
  (e_Lok (ld_iload_n_3 (x_dk dn_84_0_2_ok 1 rfl)))
  (e_Lok (ld_iload_4 (x_dk dn_84_0_2_ok 2 rfl))))
  (e_Tok2
  (e_Lok (sm_iastore (x_dk dn_84_0_2_ok 3 rfl)))
  (e_Lok (e_rt (I := eI) (k := 0) ⟨(x_dk dn_84_0_2_ok 4 rfl), rfl⟩)))))))
def te_84 : Nat → eE := (e_T 39 te_84_0 te_84_27)
theorem te_84_ok : ∀ pc, e_EOq eft cls elay eI n_84 pc (te_84 pc) := (e_Tok2 (te_84_0_ok) (te_84_27_ok))
theorem ho_85 : (xm_y n_85).cls = "RobotCellHouse$Floor" := rfl
def dn_85_0_0 : List (Nat × Instr × Nat) := [(0, .iconst 0, 1), (1, .istore 4, 2), (3, .iload 4, 2), (5, .aload_n 0, 1), (6, .getfield 68, 3), (9, .if_icmp .ge 118, 3), (12, .iload_n 2, 1), (13, .aload_n 0, 1), (14, .getfield 27, 3), (17, .iload 4, 2), (19, .iaload, 1), (20, .isub, 1), (21, .istore 5, 2), (23, .iload_n 3, 1), (24, .aload_n 0, 1), (25, .getfield 30, 3), (28, .iload 4, 2), (30, .iaload, 1), (31, .isub, 1), (32, .istore 6, 2), (34, .iload 5, 2), (36, .aload_n 0, 1), (37, .getfield 33, 3), (40, .iload 4, 2), (42, .iaload, 1)]
set_option maxRecDepth 20000 in
theorem dn_85_0_0_ok : dn_85_0_0.all (fun q => decide (decode (xm_b n_85) q.1 = .ok (q.2.1, q.2.2))) = true := xa_g_ok (by decide +kernel)
def dn_85_0_1 : List (Nat × Instr × Nat) := [(43, .imul, 1), (44, .iload 6, 2), (46, .aload_n 0, 1), (47, .getfield 36, 3), (50, .iload 4, 2), (52, .iaload, 1), (53, .imul, 1), (54, .iadd, 1), (55, .istore 7, 2), (57, .iload 5, 2), (59, .aload_n 0, 1), (60, .getfield 36, 3), (63, .iload 4, 2), (65, .iaload, 1), (66, .imul, 1), (67, .iload 6, 2), (69, .aload_n 0, 1), (70, .getfield 33, 3), (73, .iload 4, 2), (75, .iaload, 1), (76, .imul, 1), (77, .isub, 1), (78, .invokestatic 105, 3), (81, .istore 8, 2), (83, .iload 7, 2)]
set_option maxRecDepth 20000 in
theorem dn_85_0_1_ok : dn_85_0_1.all (fun q => decide (decode (xm_b n_85) q.1 = .ok (q.2.1, q.2.2))) = true := xa_g_ok (by decide +kernel)
def dn_85_0_2 : List (Nat × Instr × Nat) := [(85, .iconst 0, 1), (86, .aload_n 0, 1), (87, .getfield 9, 3), (90, .iload 4, 2), (92, .iaload, 1), (93, .invokestatic 110, 3), (96, .ifCond .eq 25, 3), (99, .iload 8, 2), (101, .aload_n 0, 1), (102, .getfield 39, 3), (105, .iload 4, 2), (107, .iaload, 1), (108, .if_icmp .gt 13, 3), (111, .aload_n 0, 1), (112, .iload 4, 2), (114, .iload_n 1, 1), (115, .iload 7, 2), (117, .invokevirtual 86, 3), (120, .return_, 1), (121, .iinc 4 1, 3), (124, .goto (-121), 3), (127, .aload_n 0, 1), (128, .iload_n 1, 1), (129, .iload_n 2, 1), (130, .iload_n 3, 1)]
set_option maxRecDepth 20000 in
theorem dn_85_0_2_ok : dn_85_0_2.all (fun q => decide (decode (xm_b n_85) q.1 = .ok (q.2.1, q.2.2))) = true := xa_g_ok (by decide +kernel)
def dn_85_0_3 : List (Nat × Instr × Nat) := [(131, .invokevirtual 90, 3), (134, .return_, 1)]
set_option maxRecDepth 20000 in
theorem dn_85_0_3_ok : dn_85_0_3.all (fun q => decide (decode (xm_b n_85) q.1 = .ok (q.2.1, q.2.2))) = true := xa_g_ok (by decide +kernel)
def te_85_0 : Nat → eE := (e_T 31 (e_T 14 (e_T 5 (e_T 1 (e_T 0 (e_L 0 (0, ei_push (0, 0) 1, 0, 0)) (e_L 1 (0, ei_stor 4 0 3, 0, 0))) (e_T 3 (e_L 3 (0, ei_load 4 0 5, 0, 0)) (e_L 5 (0, ei_load 0 2 6, 0, 0)))) (e_T 9 (e_T 6 (e_L 6 (0, ei_getf eft elay 4 0 9, 0, 0)) (e_L 9 (0, ei_if2 3 127 12, 0, 0))) (e_T 12 (e_L 12 (0, ei_load 2 0 13, 0, 0)) (e_T 13 (e_L 13 (0, ei_load 0 2 14, 0, 0)) (e_L 14 (0, ei_getf eft elay 4 7 17, 0, 0)))))) (e_T 23 (e_T 19 (e_T 17 (e_L 17 (0, ei_load 4 0 19, 0, 0)) (e_L 19 (0, ei_ald elay false 20, 0, 0))) (e_T 20 (e_L 20 (0, ei_bin eF_sub 21, 0, 0)) (e_T 21 (e_L 21 (0, ei_stor 5 0 23, 0, 0)) (e_L 23 (0, ei_load 3 0 24, 0, 0))))) (e_T 25 (e_T 24 (e_L 24 (0, ei_load 0 2 25, 0, 0)) (e_L 25 (0, ei_getf eft elay 4 8 28, 0, 0))) (e_T 28 (e_L 28 (0, ei_load 4 0 30, 0, 0)) (e_T 30 (e_L 30 (0, ei_ald elay false 31, 0, 0)) (e_L 31 (0, ei_bin eF_sub 32, 0, 0))))))) (e_T 46 (e_T 37 (e_T 34 (e_T 32 (e_L 32 (0, ei_stor 6 0 34, 0, 0)) (e_L 34 (0, ei_load 5 0 36, 0, 0))) (e_T 36 (e_L 36 (0, ei_load 0 2 37, 0, 0)) (e_L 37 (0, ei_getf eft elay 4 9 40, 0, 0)))) (e_T 42 (e_T 40 (e_L 40 (0, ei_load 4 0 42, 0, 0)) (e_L 42 (0, ei_ald elay false 43, 0, 0))) (e_T 43 (e_L 43 (0, ei_bin eF_mul 44, 0, 0)) (e_T 44 (e_L 44 (0, ei_load 6 0 46, 0, 0)) (e_L 46 (0, ei_load 0 2 47, 0, 0)))))) (e_T 54 (e_T 50 (e_T 47 (e_L 47 (0, ei_getf eft elay 4 10 50, 0, 0)) (e_L 50 (0, ei_load 4 0 52, 0, 0))) (e_T 52 (e_L 52 (0, ei_ald elay false 53, 0, 0)) (e_T 53 (e_L 53 (0, ei_bin eF_mul 54, 0, 0)) (e_L 54 (0, ei_bin eF_add 55, 0, 0))))) (e_T 57 (e_T 55 (e_L 55 (0, ei_stor 7 0 57, 0, 0)) (e_L 57 (0, ei_load 5 0 59, 0, 0))) (e_T 59 (e_L 59 (0, ei_load 0 2 60, 0, 0)) (e_T 60 (e_L 60 (0, ei_getf eft elay 4 10 63, 0, 0)) (e_L 63 (0, ei_load 4 0 65, 0, 0))))))))
set_option maxRecDepth 20000 in
set_option maxHeartbeats 4000000 in
theorem te_85_0_ok : ∀ pc, e_EOq eft cls elay eI n_85 pc (te_85_0 pc) :=
  (e_Tok2
  (e_Tok2
  (e_Tok2
  (e_Tok2
  (e_Tok2
  (e_Lok (ps_iconst_0 (x_dk dn_85_0_0_ok 0 rfl)))
  (e_Lok (e_st (I := eI) (er_istore (i := 4) (x_dk dn_85_0_0_ok 1 rfl) (by decide +kernel)) nx_stor)))
  (e_Tok2
  (e_Lok (ld_iload_4 (x_dk dn_85_0_0_ok 2 rfl)))
  (e_Lok (ld_aload_n_0 (x_dk dn_85_0_0_ok 3 rfl)))))
  (e_Tok2
  (e_Tok2
  (e_Lok (lk_4_68g ho_85 (x_dk dn_85_0_0_ok 4 rfl)))
  (e_Lok (e_st (I := eI) (er_icmpge (off := 118) (tg := 127) (x_dk dn_85_0_0_ok 5 rfl) (by decide)) nx_if2)))
  (e_Tok2
  (e_Lok (ld_iload_n_2 (x_dk dn_85_0_0_ok 6 rfl)))
  (e_Tok2
  (e_Lok (ld_aload_n_0 (x_dk dn_85_0_0_ok 7 rfl)))
  (e_Lok (lk_4_27g ho_85 (x_dk dn_85_0_0_ok 8 rfl)))))))
  (e_Tok2
  (e_Tok2
  (e_Tok2
  (e_Lok (ld_iload_4 (x_dk dn_85_0_0_ok 9 rfl)))
  (e_Lok (sm_iaload (x_dk dn_85_0_0_ok 10 rfl))))
  (e_Tok2
  (e_Lok (sm_isub (x_dk dn_85_0_0_ok 11 rfl)))
  (e_Tok2
  (e_Lok (e_st (I := eI) (er_istore (i := 5) (x_dk dn_85_0_0_ok 12 rfl) (by decide +kernel)) nx_stor))
  (e_Lok (ld_iload_n_3 (x_dk dn_85_0_0_ok 13 rfl))))))
  (e_Tok2
  (e_Tok2
  (e_Lok (ld_aload_n_0 (x_dk dn_85_0_0_ok 14 rfl)))
  (e_Lok (lk_4_30g ho_85 (x_dk dn_85_0_0_ok 15 rfl))))
  (e_Tok2
  (e_Lok (ld_iload_4 (x_dk dn_85_0_0_ok 16 rfl)))
  (e_Tok2
  (e_Lok (sm_iaload (x_dk dn_85_0_0_ok 17 rfl)))
  (e_Lok (sm_isub (x_dk dn_85_0_0_ok 18 rfl))))))))
  (e_Tok2
  (e_Tok2
  (e_Tok2
  (e_Tok2
  (e_Lok (e_st (I := eI) (er_istore (i := 6) (x_dk dn_85_0_0_ok 19 rfl) (by decide +kernel)) nx_stor))
  (e_Lok (ld_iload_5 (x_dk dn_85_0_0_ok 20 rfl))))
  (e_Tok2
  (e_Lok (ld_aload_n_0 (x_dk dn_85_0_0_ok 21 rfl)))
  (e_Lok (lk_4_33g ho_85 (x_dk dn_85_0_0_ok 22 rfl)))))
  (e_Tok2
  (e_Tok2
  (e_Lok (ld_iload_4 (x_dk dn_85_0_0_ok 23 rfl)))
  (e_Lok (sm_iaload (x_dk dn_85_0_0_ok 24 rfl))))
  (e_Tok2
  (e_Lok (sm_imul (x_dk dn_85_0_1_ok 0 rfl)))
  (e_Tok2
  (e_Lok (ld_iload_6 (x_dk dn_85_0_1_ok 1 rfl)))
  (e_Lok (ld_aload_n_0 (x_dk dn_85_0_1_ok 2 rfl)))))))
  (e_Tok2
  (e_Tok2
  (e_Tok2
  (e_Lok (lk_4_36g ho_85 (x_dk dn_85_0_1_ok 3 rfl)))
  (e_Lok (ld_iload_4 (x_dk dn_85_0_1_ok 4 rfl))))
  (e_Tok2
  (e_Lok (sm_iaload (x_dk dn_85_0_1_ok 5 rfl)))
  (e_Tok2
  (e_Lok (sm_imul (x_dk dn_85_0_1_ok 6 rfl)))
  (e_Lok (sm_iadd (x_dk dn_85_0_1_ok 7 rfl))))))
  (e_Tok2
  (e_Tok2
  (e_Lok (e_st (I := eI) (er_istore (i := 7) (x_dk dn_85_0_1_ok 8 rfl) (by decide +kernel)) nx_stor))
  (e_Lok (ld_iload_5 (x_dk dn_85_0_1_ok 9 rfl))))
  (e_Tok2
  (e_Lok (ld_aload_n_0 (x_dk dn_85_0_1_ok 10 rfl)))
  (e_Tok2
  (e_Lok (lk_4_36g ho_85 (x_dk dn_85_0_1_ok 11 rfl)))
  (e_Lok (ld_iload_4 (x_dk dn_85_0_1_ok 12 rfl)))))))))
def te_85_38 : Nat → eE := (e_T 96 (e_T 77 (e_T 69 (e_T 66 (e_T 65 (e_L 65 (0, ei_ald elay false 66, 0, 0)) (e_L 66 (0, ei_bin eF_mul 67, 0, 0))) (e_T 67 (e_L 67 (0, ei_load 6 0 69, 0, 0)) (e_L 69 (0, ei_load 0 2 70, 0, 0)))) (e_T 73 (e_T 70 (e_L 70 (0, ei_getf eft elay 4 9 73, 0, 0)) (e_L 73 (0, ei_load 4 0 75, 0, 0))) (e_T 75 (e_L 75 (0, ei_ald elay false 76, 0, 0)) (e_T 76 (e_L 76 (0, ei_bin eF_mul 77, 0, 0)) (e_L 77 (0, ei_bin eF_sub 78, 0, 0)))))) (e_T 86 (e_T 81 (e_T 78 (e_L 78 (0, ei_abs 81, 0, 0)) (e_L 81 (0, ei_stor 8 0 83, 0, 0))) (e_T 83 (e_L 83 (0, ei_load 7 0 85, 0, 0)) (e_T 85 (e_L 85 (0, ei_push (0, 0) 86, 0, 0)) (e_L 86 (0, ei_load 0 2 87, 0, 0))))) (e_T 90 (e_T 87 (e_L 87 (0, ei_getf eft elay 4 2 90, 0, 0)) (e_L 90 (0, ei_load 4 0 92, 0, 0))) (e_T 92 (e_L 92 (0, ei_ald elay false 93, 0, 0)) (e_T 93 (e_L 93 (2, e_nof, 242, 3)) (e_L 96 (0, ei_if1 0 121 99, 0, 0))))))) (e_T 115 (e_T 107 (e_T 101 (e_T 99 (e_L 99 (0, ei_load 8 0 101, 0, 0)) (e_L 101 (0, ei_load 0 2 102, 0, 0))) (e_T 102 (e_L 102 (0, ei_getf eft elay 4 11 105, 0, 0)) (e_T 105 (e_L 105 (0, ei_load 4 0 107, 0, 0)) (e_L 107 (0, ei_ald elay false 108, 0, 0))))) (e_T 111 (e_T 108 (e_L 108 (0, ei_if2 4 121 111, 0, 0)) (e_L 111 (0, ei_load 0 2 112, 0, 0))) (e_T 112 (e_L 112 (0, ei_load 4 0 114, 0, 0)) (e_T 114 (e_L 114 (0, ei_load 1 0 115, 0, 0)) (e_L 115 (0, ei_load 7 0 117, 0, 0)))))) (e_T 127 (e_T 120 (e_T 117 (e_L 117 (2, e_nof, 80, 4)) (e_L 120 (1, e_nof, 0, 0))) (e_T 121 (e_L 121 (0, ei_inc 4 1 124, 0, 0)) (e_T 124 (e_L 124 (0, ei_goto 3, 0, 0)) (e_L 127 (0, ei_load 0 2 128, 0, 0))))) (e_T 129 (e_T 128 (e_L 128 (0, ei_load 1 0 129, 0, 0)) (e_L 129 (0, ei_load 2 0 130, 0, 0))) (e_T 130 (e_L 130 (0, ei_load 3 0 131, 0, 0)) (e_T 131 (e_L 131 (2, e_nof, 79, 4)) (e_L 134 (1, e_nof, 0, 0))))))))
set_option maxRecDepth 20000 in
set_option maxHeartbeats 4000000 in
theorem te_85_38_ok : ∀ pc, e_EOq eft cls elay eI n_85 pc (te_85_38 pc) :=
  (e_Tok2
  (e_Tok2
  (e_Tok2
  (e_Tok2
  (e_Tok2
  (e_Lok (sm_iaload (x_dk dn_85_0_1_ok 13 rfl)))
  (e_Lok (sm_imul (x_dk dn_85_0_1_ok 14 rfl))))
  (e_Tok2
  (e_Lok (ld_iload_6 (x_dk dn_85_0_1_ok 15 rfl)))
  (e_Lok (ld_aload_n_0 (x_dk dn_85_0_1_ok 16 rfl)))))
  (e_Tok2
  (e_Tok2
  (e_Lok (lk_4_33g ho_85 (x_dk dn_85_0_1_ok 17 rfl)))
  (e_Lok (ld_iload_4 (x_dk dn_85_0_1_ok 18 rfl))))
  (e_Tok2
  (e_Lok (sm_iaload (x_dk dn_85_0_1_ok 19 rfl)))
  (e_Tok2
  (e_Lok (sm_imul (x_dk dn_85_0_1_ok 20 rfl)))
  (e_Lok (sm_isub (x_dk dn_85_0_1_ok 21 rfl)))))))
  (e_Tok2
  (e_Tok2
  (e_Tok2
  (e_Lok (e_st (I := eI) (er_abs (ix := 105) (in_t7 (List.mem_of_getElem? (i := 223) rfl) rfl) (in_t7 (List.mem_of_getElem? (i := 224) rfl) rfl) (in_t1 (List.mem_of_getElem? (i := 15) rfl) rfl) (in_t7 (List.mem_of_getElem? (i := 225) rfl) rfl) (x_dk dn_85_0_1_ok 22 rfl)) nx_abs))
  (e_Lok (e_st (I := eI) (er_istore (i := 8) (x_dk dn_85_0_1_ok 23 rfl) (by decide +kernel)) nx_stor)))
  (e_Tok2
  (e_Lok (ld_iload_7 (x_dk dn_85_0_1_ok 24 rfl)))
  (e_Tok2
  (e_Lok (ps_iconst_0 (x_dk dn_85_0_2_ok 0 rfl)))
  (e_Lok (ld_aload_n_0 (x_dk dn_85_0_2_ok 1 rfl))))))
  (e_Tok2
  (e_Tok2
  (e_Lok (lk_4_9g ho_85 (x_dk dn_85_0_2_ok 2 rfl)))
  (e_Lok (ld_iload_4 (x_dk dn_85_0_2_ok 3 rfl))))
  (e_Tok2
  (e_Lok (sm_iaload (x_dk dn_85_0_2_ok 4 rfl)))
  (e_Tok2
  (e_Lok (lk_4_110 ho_85 (x_dk dn_85_0_2_ok 5 rfl)))
  (e_Lok (e_st (I := eI) (er_ifeq (off := 25) (tg := 121) (x_dk dn_85_0_2_ok 6 rfl) (by decide)) nx_if1)))))))
  (e_Tok2
  (e_Tok2
  (e_Tok2
  (e_Tok2
  (e_Lok (ld_iload_8 (x_dk dn_85_0_2_ok 7 rfl)))
  (e_Lok (ld_aload_n_0 (x_dk dn_85_0_2_ok 8 rfl))))
  (e_Tok2
  (e_Lok (lk_4_39g ho_85 (x_dk dn_85_0_2_ok 9 rfl)))
  (e_Tok2
  (e_Lok (ld_iload_4 (x_dk dn_85_0_2_ok 10 rfl)))
  (e_Lok (sm_iaload (x_dk dn_85_0_2_ok 11 rfl))))))
  (e_Tok2
  (e_Tok2
  (e_Lok (e_st (I := eI) (er_icmpgt (off := 13) (tg := 121) (x_dk dn_85_0_2_ok 12 rfl) (by decide)) nx_if2))
  (e_Lok (ld_aload_n_0 (x_dk dn_85_0_2_ok 13 rfl))))
  (e_Tok2
  (e_Lok (ld_iload_4 (x_dk dn_85_0_2_ok 14 rfl)))
  (e_Tok2
  (e_Lok (ld_iload_n_1 (x_dk dn_85_0_2_ok 15 rfl)))
  (e_Lok (ld_iload_7 (x_dk dn_85_0_2_ok 16 rfl)))))))
  (e_Tok2
  (e_Tok2
  (e_Tok2
  (e_Lok (lk_4_86 ho_85 (x_dk dn_85_0_2_ok 17 rfl)))
  (e_Lok (e_rt (I := eI) (k := 0) ⟨(x_dk dn_85_0_2_ok 18 rfl), rfl⟩)))
  (e_Tok2
  (e_Lok (e_st (I := eI) (er_iinc (i := 4) (n := 1) (x_dk dn_85_0_2_ok 19 rfl) (by decide +kernel) (by decide)) nx_inc))
  (e_Tok2
  (e_Lok (e_st (I := eI) (er_goto (off := (-121)) (tg := 3) (x_dk dn_85_0_2_ok 20 rfl) (by decide)) nx_goto))
  (e_Lok (ld_aload_n_0 (x_dk dn_85_0_2_ok 21 rfl))))))
  (e_Tok2
  (e_Tok2
  (e_Lok (ld_iload_n_1 (x_dk dn_85_0_2_ok 22 rfl)))
  (e_Lok (ld_iload_n_2 (x_dk dn_85_0_2_ok 23 rfl))))
  (e_Tok2
  (e_Lok (ld_iload_n_3 (x_dk dn_85_0_2_ok 24 rfl)))
  (e_Tok2
  (e_Lok (lk_4_90 ho_85 (x_dk dn_85_0_3_ok 0 rfl)))
  (e_Lok (e_rt (I := eI) (k := 0) ⟨(x_dk dn_85_0_3_ok 1 rfl), rfl⟩))))))))
def te_85 : Nat → eE := (e_T 63 te_85_0 te_85_38)
theorem te_85_ok : ∀ pc, e_EOq eft cls elay eI n_85 pc (te_85 pc) := (e_Tok2 (te_85_0_ok) (te_85_38_ok))
theorem ho_86 : (xm_y n_86).cls = "RobotCellHouse$Floor" := rfl
def dn_86_0_0 : List (Nat × Instr × Nat) := [(0, .iconst 0, 1), (1, .istore_n 2, 1), (2, .iload_n 2, 1), (3, .aload_n 0, 1), (4, .getfield 47, 3), (7, .iload_n 1, 1), (8, .iaload, 1), (9, .if_icmp .ge 104, 3), (12, .aload_n 0, 1), (13, .getfield 44, 3), (16, .iload_n 1, 1), (17, .aaload, 1), (18, .iload_n 2, 1), (19, .iaload, 1), (20, .istore_n 3, 1), (21, .aload_n 0, 1), (22, .getfield 53, 3), (25, .iload_n 3, 1), (26, .iaload, 1), (27, .aload_n 0, 1), (28, .getfield 15, 3), (31, .iload_n 1, 1), (32, .iaload, 1), (33, .iadd, 1), (34, .aload_n 0, 1)]
set_option maxRecDepth 20000 in
theorem dn_86_0_0_ok : dn_86_0_0.all (fun q => decide (decode (xm_b n_86) q.1 = .ok (q.2.1, q.2.2))) = true := xa_g_ok (by decide +kernel)
def dn_86_0_1 : List (Nat × Instr × Nat) := [(35, .getfield 9, 3), (38, .iload_n 1, 1), (39, .iaload, 1), (40, .invokestatic 114, 3), (43, .istore 4, 2), (45, .iload_n 2, 1), (46, .ifCond .le 44, 3), (49, .aload_n 0, 1), (50, .getfield 44, 3), (53, .iload_n 1, 1), (54, .aaload, 1), (55, .iload_n 2, 1), (56, .iconst 1, 1), (57, .isub, 1), (58, .iaload, 1), (59, .istore 5, 2), (61, .iload 4, 2), (63, .aload_n 0, 1), (64, .getfield 53, 3), (67, .iload 5, 2), (69, .iaload, 1), (70, .aload_n 0, 1), (71, .getfield 56, 3), (74, .iload 5, 2), (76, .iaload, 1)]
set_option maxRecDepth 20000 in
theorem dn_86_0_1_ok : dn_86_0_1.all (fun q => decide (decode (xm_b n_86) q.1 = .ok (q.2.1, q.2.2))) = true := xa_g_ok (by decide +kernel)
def dn_86_0_2 : List (Nat × Instr × Nat) := [(77, .isub, 1), (78, .aload_n 0, 1), (79, .getfield 56, 3), (82, .iload_n 3, 1), (83, .iaload, 1), (84, .isub, 1), (85, .invokestatic 114, 3), (88, .istore 4, 2), (90, .aload_n 0, 1), (91, .getfield 53, 3), (94, .iload_n 3, 1), (95, .aload_n 0, 1), (96, .getfield 53, 3), (99, .iload_n 3, 1), (100, .iaload, 1), (101, .iload 4, 2), (103, .invokestatic 118, 3), (106, .iastore, 1), (107, .iinc 2 1, 3), (110, .goto (-108), 3), (113, .return_, 1)]
set_option maxRecDepth 20000 in
theorem dn_86_0_2_ok : dn_86_0_2.all (fun q => decide (decode (xm_b n_86) q.1 = .ok (q.2.1, q.2.2))) = true := xa_g_ok (by decide +kernel)
def te_86_0 : Nat → eE := (e_T 22 (e_T 9 (e_T 3 (e_T 1 (e_T 0 (e_L 0 (0, ei_push (0, 0) 1, 0, 0)) (e_L 1 (0, ei_stor 2 0 2, 0, 0))) (e_T 2 (e_L 2 (0, ei_load 2 0 3, 0, 0)) (e_L 3 (0, ei_load 0 2 4, 0, 0)))) (e_T 7 (e_T 4 (e_L 4 (0, ei_getf eft elay 4 13 7, 0, 0)) (e_L 7 (0, ei_load 1 0 8, 0, 0))) (e_T 8 (e_L 8 (0, ei_ald elay false 9, 0, 0)) (e_L 9 (0, ei_if2 3 113 12, 0, 0))))) (e_T 17 (e_T 13 (e_T 12 (e_L 12 (0, ei_load 0 2 13, 0, 0)) (e_L 13 (0, ei_getf eft elay 4 12 16, 0, 0))) (e_T 16 (e_L 16 (0, ei_load 1 0 17, 0, 0)) (e_L 17 (0, ei_aald elay 18, 0, 0)))) (e_T 19 (e_T 18 (e_L 18 (0, ei_load 2 0 19, 0, 0)) (e_L 19 (0, ei_ald elay false 20, 0, 0))) (e_T 20 (e_L 20 (0, ei_stor 3 0 21, 0, 0)) (e_T 21 (e_L 21 (0, ei_load 0 2 22, 0, 0)) (e_L 22 (0, ei_getf eft elay 4 15 25, 0, 0))))))) (e_T 35 (e_T 28 (e_T 26 (e_T 25 (e_L 25 (0, ei_load 3 0 26, 0, 0)) (e_L 26 (0, ei_ald elay false 27, 0, 0))) (e_T 27 (e_L 27 (0, ei_load 0 2 28, 0, 0)) (e_L 28 (0, ei_getf eft elay 4 3 31, 0, 0)))) (e_T 32 (e_T 31 (e_L 31 (0, ei_load 1 0 32, 0, 0)) (e_L 32 (0, ei_ald elay false 33, 0, 0))) (e_T 33 (e_L 33 (0, ei_bin eF_add 34, 0, 0)) (e_T 34 (e_L 34 (0, ei_load 0 2 35, 0, 0)) (e_L 35 (0, ei_getf eft elay 4 2 38, 0, 0)))))) (e_T 43 (e_T 39 (e_T 38 (e_L 38 (0, ei_load 1 0 39, 0, 0)) (e_L 39 (0, ei_ald elay false 40, 0, 0))) (e_T 40 (e_L 40 (0, ei_m2 eM_min 43, 0, 0)) (e_L 43 (0, ei_stor 4 0 45, 0, 0)))) (e_T 46 (e_T 45 (e_L 45 (0, ei_load 2 0 46, 0, 0)) (e_L 46 (0, ei_if1 5 90 49, 0, 0))) (e_T 49 (e_L 49 (0, ei_load 0 2 50, 0, 0)) (e_T 50 (e_L 50 (0, ei_getf eft elay 4 12 53, 0, 0)) (e_L 53 (0, ei_load 1 0 54, 0, 0))))))))
set_option maxRecDepth 20000 in
set_option maxHeartbeats 4000000 in
theorem te_86_0_ok : ∀ pc, e_EOq eft cls elay eI n_86 pc (te_86_0 pc) :=
  (e_Tok2
  (e_Tok2
  (e_Tok2
  (e_Tok2
  (e_Tok2
  (e_Lok (ps_iconst_0 (x_dk dn_86_0_0_ok 0 rfl)))
  (e_Lok (e_st (I := eI) (er_istore_n (i := 2) (x_dk dn_86_0_0_ok 1 rfl) (by decide +kernel)) nx_stor)))
  (e_Tok2
  (e_Lok (ld_iload_n_2 (x_dk dn_86_0_0_ok 2 rfl)))
  (e_Lok (ld_aload_n_0 (x_dk dn_86_0_0_ok 3 rfl)))))
  (e_Tok2
  (e_Tok2
  (e_Lok (lk_4_47g ho_86 (x_dk dn_86_0_0_ok 4 rfl)))
  (e_Lok (ld_iload_n_1 (x_dk dn_86_0_0_ok 5 rfl))))
  (e_Tok2
  (e_Lok (sm_iaload (x_dk dn_86_0_0_ok 6 rfl)))
  (e_Lok (e_st (I := eI) (er_icmpge (off := 104) (tg := 113) (x_dk dn_86_0_0_ok 7 rfl) (by decide)) nx_if2)))))
  (e_Tok2
  (e_Tok2
  (e_Tok2
  (e_Lok (ld_aload_n_0 (x_dk dn_86_0_0_ok 8 rfl)))
  (e_Lok (lk_4_44g ho_86 (x_dk dn_86_0_0_ok 9 rfl))))
  (e_Tok2
  (e_Lok (ld_iload_n_1 (x_dk dn_86_0_0_ok 10 rfl)))
  (e_Lok (e_st (I := eI) (er_aaload (x_dk dn_86_0_0_ok 11 rfl)) nx_aald))))
  (e_Tok2
  (e_Tok2
  (e_Lok (ld_iload_n_2 (x_dk dn_86_0_0_ok 12 rfl)))
  (e_Lok (sm_iaload (x_dk dn_86_0_0_ok 13 rfl))))
  (e_Tok2
  (e_Lok (e_st (I := eI) (er_istore_n (i := 3) (x_dk dn_86_0_0_ok 14 rfl) (by decide +kernel)) nx_stor))
  (e_Tok2
  (e_Lok (ld_aload_n_0 (x_dk dn_86_0_0_ok 15 rfl)))
  (e_Lok (lk_4_53g ho_86 (x_dk dn_86_0_0_ok 16 rfl))))))))
  (e_Tok2
  (e_Tok2
  (e_Tok2
  (e_Tok2
  (e_Lok (ld_iload_n_3 (x_dk dn_86_0_0_ok 17 rfl)))
  (e_Lok (sm_iaload (x_dk dn_86_0_0_ok 18 rfl))))
  (e_Tok2
  (e_Lok (ld_aload_n_0 (x_dk dn_86_0_0_ok 19 rfl)))
  (e_Lok (lk_4_15g ho_86 (x_dk dn_86_0_0_ok 20 rfl)))))
  (e_Tok2
  (e_Tok2
  (e_Lok (ld_iload_n_1 (x_dk dn_86_0_0_ok 21 rfl)))
  (e_Lok (sm_iaload (x_dk dn_86_0_0_ok 22 rfl))))
  (e_Tok2
  (e_Lok (sm_iadd (x_dk dn_86_0_0_ok 23 rfl)))
  (e_Tok2
  (e_Lok (ld_aload_n_0 (x_dk dn_86_0_0_ok 24 rfl)))
  (e_Lok (lk_4_9g ho_86 (x_dk dn_86_0_1_ok 0 rfl)))))))
  (e_Tok2
  (e_Tok2
  (e_Tok2
  (e_Lok (ld_iload_n_1 (x_dk dn_86_0_1_ok 1 rfl)))
  (e_Lok (sm_iaload (x_dk dn_86_0_1_ok 2 rfl))))
  (e_Tok2
  (e_Lok (e_st (I := eI) (er_min (ix := 114) (in_t8 (List.mem_of_getElem? (i := 144) rfl) rfl) (in_t5 (List.mem_of_getElem? (i := 187) rfl) rfl) (in_t1 (List.mem_of_getElem? (i := 15) rfl) rfl) (in_t5 (List.mem_of_getElem? (i := 188) rfl) rfl) (x_dk dn_86_0_1_ok 3 rfl)) nx_m2))
  (e_Lok (e_st (I := eI) (er_istore (i := 4) (x_dk dn_86_0_1_ok 4 rfl) (by decide +kernel)) nx_stor))))
  (e_Tok2
  (e_Tok2
  (e_Lok (ld_iload_n_2 (x_dk dn_86_0_1_ok 5 rfl)))
  (e_Lok (e_st (I := eI) (er_ifle (off := 44) (tg := 90) (x_dk dn_86_0_1_ok 6 rfl) (by decide)) nx_if1)))
  (e_Tok2
  (e_Lok (ld_aload_n_0 (x_dk dn_86_0_1_ok 7 rfl)))
  (e_Tok2
  (e_Lok (lk_4_44g ho_86 (x_dk dn_86_0_1_ok 8 rfl)))
  (e_Lok (ld_iload_n_1 (x_dk dn_86_0_1_ok 9 rfl)))))))))
def te_86_35 : Nat → eE := (e_T 79 (e_T 64 (e_T 57 (e_T 55 (e_T 54 (e_L 54 (0, ei_aald elay 55, 0, 0)) (e_L 55 (0, ei_load 2 0 56, 0, 0))) (e_T 56 (e_L 56 (0, ei_push (0, 1) 57, 0, 0)) (e_L 57 (0, ei_bin eF_sub 58, 0, 0)))) (e_T 59 (e_T 58 (e_L 58 (0, ei_ald elay false 59, 0, 0)) (e_L 59 (0, ei_stor 5 0 61, 0, 0))) (e_T 61 (e_L 61 (0, ei_load 4 0 63, 0, 0)) (e_T 63 (e_L 63 (0, ei_load 0 2 64, 0, 0)) (e_L 64 (0, ei_getf eft elay 4 15 67, 0, 0)))))) (e_T 71 (e_T 69 (e_T 67 (e_L 67 (0, ei_load 5 0 69, 0, 0)) (e_L 69 (0, ei_ald elay false 70, 0, 0))) (e_T 70 (e_L 70 (0, ei_load 0 2 71, 0, 0)) (e_L 71 (0, ei_getf eft elay 4 16 74, 0, 0)))) (e_T 76 (e_T 74 (e_L 74 (0, ei_load 5 0 76, 0, 0)) (e_L 76 (0, ei_ald elay false 77, 0, 0))) (e_T 77 (e_L 77 (0, ei_bin eF_sub 78, 0, 0)) (e_T 78 (e_L 78 (0, ei_load 0 2 79, 0, 0)) (e_L 79 (0, ei_getf eft elay 4 16 82, 0, 0))))))) (e_T 95 (e_T 85 (e_T 83 (e_T 82 (e_L 82 (0, ei_load 3 0 83, 0, 0)) (e_L 83 (0, ei_ald elay false 84, 0, 0))) (e_T 84 (e_L 84 (0, ei_bin eF_sub 85, 0, 0)) (e_L 85 (0, ei_m2 eM_min 88, 0, 0)))) (e_T 90 (e_T 88 (e_L 88 (0, ei_stor 4 0 90, 0, 0)) (e_L 90 (0, ei_load 0 2 91, 0, 0))) (e_T 91 (e_L 91 (0, ei_getf eft elay 4 15 94, 0, 0)) (e_T 94 (e_L 94 (0, ei_load 3 0 95, 0, 0)) (e_L 95 (0, ei_load 0 2 96, 0, 0)))))) (e_T 101 (e_T 99 (e_T 96 (e_L 96 (0, ei_getf eft elay 4 15 99, 0, 0)) (e_L 99 (0, ei_load 3 0 100, 0, 0))) (e_T 100 (e_L 100 (0, ei_ald elay false 101, 0, 0)) (e_L 101 (0, ei_load 4 0 103, 0, 0)))) (e_T 106 (e_T 103 (e_L 103 (0, ei_m2 eM_max 106, 0, 0)) (e_L 106 (0, ei_ast elay false 107, 0, 0))) (e_T 107 (e_L 107 (0, ei_inc 2 1 110, 0, 0)) (e_T 110 (e_L 110 (0, ei_goto 2, 0, 0)) (e_L 113 (1, e_nof, 0, 0))))))))
set_option maxRecDepth 20000 in
set_option maxHeartbeats 4000000 in
theorem te_86_35_ok : ∀ pc, e_EOq eft cls elay eI n_86 pc (te_86_35 pc) :=
  (e_Tok2
  (e_Tok2
  (e_Tok2
  (e_Tok2
  (e_Tok2
  (e_Lok (e_st (I := eI) (er_aaload (x_dk dn_86_0_1_ok 10 rfl)) nx_aald))
  (e_Lok (ld_iload_n_2 (x_dk dn_86_0_1_ok 11 rfl))))
  (e_Tok2
  (e_Lok (ps_iconst_1 (x_dk dn_86_0_1_ok 12 rfl)))
  (e_Lok (sm_isub (x_dk dn_86_0_1_ok 13 rfl)))))
  (e_Tok2
  (e_Tok2
  (e_Lok (sm_iaload (x_dk dn_86_0_1_ok 14 rfl)))
  (e_Lok (e_st (I := eI) (er_istore (i := 5) (x_dk dn_86_0_1_ok 15 rfl) (by decide +kernel)) nx_stor)))
  (e_Tok2
  (e_Lok (ld_iload_4 (x_dk dn_86_0_1_ok 16 rfl)))
  (e_Tok2
  (e_Lok (ld_aload_n_0 (x_dk dn_86_0_1_ok 17 rfl)))
  (e_Lok (lk_4_53g ho_86 (x_dk dn_86_0_1_ok 18 rfl)))))))
  (e_Tok2
  (e_Tok2
  (e_Tok2
  (e_Lok (ld_iload_5 (x_dk dn_86_0_1_ok 19 rfl)))
  (e_Lok (sm_iaload (x_dk dn_86_0_1_ok 20 rfl))))
  (e_Tok2
  (e_Lok (ld_aload_n_0 (x_dk dn_86_0_1_ok 21 rfl)))
  (e_Lok (lk_4_56g ho_86 (x_dk dn_86_0_1_ok 22 rfl)))))
  (e_Tok2
  (e_Tok2
  (e_Lok (ld_iload_5 (x_dk dn_86_0_1_ok 23 rfl)))
  (e_Lok (sm_iaload (x_dk dn_86_0_1_ok 24 rfl))))
  (e_Tok2
  (e_Lok (sm_isub (x_dk dn_86_0_2_ok 0 rfl)))
  (e_Tok2
  (e_Lok (ld_aload_n_0 (x_dk dn_86_0_2_ok 1 rfl)))
  (e_Lok (lk_4_56g ho_86 (x_dk dn_86_0_2_ok 2 rfl))))))))
  (e_Tok2
  (e_Tok2
  (e_Tok2
  (e_Tok2
  (e_Lok (ld_iload_n_3 (x_dk dn_86_0_2_ok 3 rfl)))
  (e_Lok (sm_iaload (x_dk dn_86_0_2_ok 4 rfl))))
  (e_Tok2
  (e_Lok (sm_isub (x_dk dn_86_0_2_ok 5 rfl)))
  (e_Lok (e_st (I := eI) (er_min (ix := 114) (in_t8 (List.mem_of_getElem? (i := 144) rfl) rfl) (in_t5 (List.mem_of_getElem? (i := 187) rfl) rfl) (in_t1 (List.mem_of_getElem? (i := 15) rfl) rfl) (in_t5 (List.mem_of_getElem? (i := 188) rfl) rfl) (x_dk dn_86_0_2_ok 6 rfl)) nx_m2))))
  (e_Tok2
  (e_Tok2
  (e_Lok (e_st (I := eI) (er_istore (i := 4) (x_dk dn_86_0_2_ok 7 rfl) (by decide +kernel)) nx_stor))
  (e_Lok (ld_aload_n_0 (x_dk dn_86_0_2_ok 8 rfl))))
  (e_Tok2
  (e_Lok (lk_4_53g ho_86 (x_dk dn_86_0_2_ok 9 rfl)))
  (e_Tok2
  (e_Lok (ld_iload_n_3 (x_dk dn_86_0_2_ok 10 rfl)))
  (e_Lok (ld_aload_n_0 (x_dk dn_86_0_2_ok 11 rfl)))))))
  (e_Tok2
  (e_Tok2
  (e_Tok2
  (e_Lok (lk_4_53g ho_86 (x_dk dn_86_0_2_ok 12 rfl)))
  (e_Lok (ld_iload_n_3 (x_dk dn_86_0_2_ok 13 rfl))))
  (e_Tok2
  (e_Lok (sm_iaload (x_dk dn_86_0_2_ok 14 rfl)))
  (e_Lok (ld_iload_4 (x_dk dn_86_0_2_ok 15 rfl)))))
  (e_Tok2
  (e_Tok2
  (e_Lok (e_st (I := eI) (er_max (ix := 118) (in_t8 (List.mem_of_getElem? (i := 145) rfl) rfl) (in_t5 (List.mem_of_getElem? (i := 184) rfl) rfl) (in_t1 (List.mem_of_getElem? (i := 15) rfl) rfl) (in_t5 (List.mem_of_getElem? (i := 185) rfl) rfl) (x_dk dn_86_0_2_ok 16 rfl)) nx_m2))
  (e_Lok (sm_iastore (x_dk dn_86_0_2_ok 17 rfl))))
  (e_Tok2
  (e_Lok (e_st (I := eI) (er_iinc (i := 2) (n := 1) (x_dk dn_86_0_2_ok 18 rfl) (by decide +kernel) (by decide)) nx_inc))
  (e_Tok2
  (e_Lok (e_st (I := eI) (er_goto (off := (-108)) (tg := 2) (x_dk dn_86_0_2_ok 19 rfl) (by decide)) nx_goto))
  (e_Lok (e_rt (I := eI) (k := 0) ⟨(x_dk dn_86_0_2_ok 20 rfl), rfl⟩))))))))
def te_86 : Nat → eE := (e_T 53 te_86_0 te_86_35)
theorem te_86_ok : ∀ pc, e_EOq eft cls elay eI n_86 pc (te_86 pc) := (e_Tok2 (te_86_0_ok) (te_86_35_ok))
theorem ho_87 : (xm_y n_87).cls = "RobotCellHouse$Floor" := rfl
def dn_87_0_0 : List (Nat × Instr × Nat) := [(0, .iconst 0, 1), (1, .istore_n 2, 1), (2, .iload_n 2, 1), (3, .aload_n 0, 1), (4, .getfield 47, 3), (7, .iload_n 1, 1), (8, .iaload, 1), (9, .if_icmp .ge 42, 3), (12, .aload_n 0, 1), (13, .getfield 53, 3), (16, .aload_n 0, 1), (17, .getfield 44, 3), (20, .iload_n 1, 1), (21, .aaload, 1), (22, .iload_n 2, 1), (23, .iaload, 1), (24, .iaload, 1), (25, .aload_n 0, 1), (26, .getfield 21, 3), (29, .iload_n 1, 1), (30, .iaload, 1), (31, .aload_n 0, 1), (32, .getfield 24, 3), (35, .iload_n 1, 1), (36, .iaload, 1)]
set_option maxRecDepth 20000 in
theorem dn_87_0_0_ok : dn_87_0_0.all (fun q => decide (decode (xm_b n_87) q.1 = .ok (q.2.1, q.2.2))) = true := xa_g_ok (by decide +kernel)
def dn_87_0_1 : List (Nat × Instr × Nat) := [(37, .invokestatic 110, 3), (40, .ifCond .eq 5, 3), (43, .iconst 1, 1), (44, .ireturn, 1), (45, .iinc 2 1, 3), (48, .goto (-46), 3), (51, .iconst 0, 1), (52, .ireturn, 1)]
set_option maxRecDepth 20000 in
theorem dn_87_0_1_ok : dn_87_0_1.all (fun q => decide (decode (xm_b n_87) q.1 = .ok (q.2.1, q.2.2))) = true := xa_g_ok (by decide +kernel)
def te_87_0 : Nat → eE := (e_T 23 (e_T 9 (e_T 3 (e_T 1 (e_T 0 (e_L 0 (0, ei_push (0, 0) 1, 0, 0)) (e_L 1 (0, ei_stor 2 0 2, 0, 0))) (e_T 2 (e_L 2 (0, ei_load 2 0 3, 0, 0)) (e_L 3 (0, ei_load 0 2 4, 0, 0)))) (e_T 7 (e_T 4 (e_L 4 (0, ei_getf eft elay 4 13 7, 0, 0)) (e_L 7 (0, ei_load 1 0 8, 0, 0))) (e_T 8 (e_L 8 (0, ei_ald elay false 9, 0, 0)) (e_L 9 (0, ei_if2 3 51 12, 0, 0))))) (e_T 17 (e_T 13 (e_T 12 (e_L 12 (0, ei_load 0 2 13, 0, 0)) (e_L 13 (0, ei_getf eft elay 4 15 16, 0, 0))) (e_T 16 (e_L 16 (0, ei_load 0 2 17, 0, 0)) (e_L 17 (0, ei_getf eft elay 4 12 20, 0, 0)))) (e_T 21 (e_T 20 (e_L 20 (0, ei_load 1 0 21, 0, 0)) (e_L 21 (0, ei_aald elay 22, 0, 0))) (e_T 22 (e_L 22 (0, ei_load 2 0 23, 0, 0)) (e_L 23 (0, ei_ald elay false 24, 0, 0)))))) (e_T 35 (e_T 29 (e_T 25 (e_T 24 (e_L 24 (0, ei_ald elay false 25, 0, 0)) (e_L 25 (0, ei_load 0 2 26, 0, 0))) (e_T 26 (e_L 26 (0, ei_getf eft elay 4 5 29, 0, 0)) (e_L 29 (0, ei_load 1 0 30, 0, 0)))) (e_T 31 (e_T 30 (e_L 30 (0, ei_ald elay false 31, 0, 0)) (e_L 31 (0, ei_load 0 2 32, 0, 0))) (e_T 32 (e_L 32 (0, ei_getf eft elay 4 6 35, 0, 0)) (e_L 35 (0, ei_load 1 0 36, 0, 0))))) (e_T 43 (e_T 37 (e_T 36 (e_L 36 (0, ei_ald elay false 37, 0, 0)) (e_L 37 (2, e_nof, 242, 3))) (e_T 40 (e_L 40 (0, ei_if1 0 45 43, 0, 0)) (e_L 43 (0, ei_push (0, 1) 44, 0, 0)))) (e_T 45 (e_T 44 (e_L 44 (1, e_nof, 4, 0)) (e_L 45 (0, ei_inc 2 1 48, 0, 0))) (e_T 48 (e_L 48 (0, ei_goto 2, 0, 0)) (e_T 51 (e_L 51 (0, ei_push (0, 0) 52, 0, 0)) (e_L 52 (1, e_nof, 4, 0))))))))
set_option maxRecDepth 20000 in
set_option maxHeartbeats 4000000 in
theorem te_87_0_ok : ∀ pc, e_EOq eft cls elay eI n_87 pc (te_87_0 pc) :=
  (e_Tok2
  (e_Tok2
  (e_Tok2
  (e_Tok2
  (e_Tok2
  (e_Lok (ps_iconst_0 (x_dk dn_87_0_0_ok 0 rfl)))
  (e_Lok (e_st (I := eI) (er_istore_n (i := 2) (x_dk dn_87_0_0_ok 1 rfl) (by decide +kernel)) nx_stor)))
  (e_Tok2
  (e_Lok (ld_iload_n_2 (x_dk dn_87_0_0_ok 2 rfl)))
  (e_Lok (ld_aload_n_0 (x_dk dn_87_0_0_ok 3 rfl)))))
  (e_Tok2
  (e_Tok2
  (e_Lok (lk_4_47g ho_87 (x_dk dn_87_0_0_ok 4 rfl)))
  (e_Lok (ld_iload_n_1 (x_dk dn_87_0_0_ok 5 rfl))))
  (e_Tok2
  (e_Lok (sm_iaload (x_dk dn_87_0_0_ok 6 rfl)))
  (e_Lok (e_st (I := eI) (er_icmpge (off := 42) (tg := 51) (x_dk dn_87_0_0_ok 7 rfl) (by decide)) nx_if2)))))
  (e_Tok2
  (e_Tok2
  (e_Tok2
  (e_Lok (ld_aload_n_0 (x_dk dn_87_0_0_ok 8 rfl)))
  (e_Lok (lk_4_53g ho_87 (x_dk dn_87_0_0_ok 9 rfl))))
  (e_Tok2
  (e_Lok (ld_aload_n_0 (x_dk dn_87_0_0_ok 10 rfl)))
  (e_Lok (lk_4_44g ho_87 (x_dk dn_87_0_0_ok 11 rfl)))))
  (e_Tok2
  (e_Tok2
  (e_Lok (ld_iload_n_1 (x_dk dn_87_0_0_ok 12 rfl)))
  (e_Lok (e_st (I := eI) (er_aaload (x_dk dn_87_0_0_ok 13 rfl)) nx_aald)))
  (e_Tok2
  (e_Lok (ld_iload_n_2 (x_dk dn_87_0_0_ok 14 rfl)))
  (e_Lok (sm_iaload (x_dk dn_87_0_0_ok 15 rfl)))))))
  (e_Tok2
  (e_Tok2
  (e_Tok2
  (e_Tok2
  (e_Lok (sm_iaload (x_dk dn_87_0_0_ok 16 rfl)))
  (e_Lok (ld_aload_n_0 (x_dk dn_87_0_0_ok 17 rfl))))
  (e_Tok2
  (e_Lok (lk_4_21g ho_87 (x_dk dn_87_0_0_ok 18 rfl)))
  (e_Lok (ld_iload_n_1 (x_dk dn_87_0_0_ok 19 rfl)))))
  (e_Tok2
  (e_Tok2
  (e_Lok (sm_iaload (x_dk dn_87_0_0_ok 20 rfl)))
  (e_Lok (ld_aload_n_0 (x_dk dn_87_0_0_ok 21 rfl))))
  (e_Tok2
  (e_Lok (lk_4_24g ho_87 (x_dk dn_87_0_0_ok 22 rfl)))
  (e_Lok (ld_iload_n_1 (x_dk dn_87_0_0_ok 23 rfl))))))
  (e_Tok2
  (e_Tok2
  (e_Tok2
  (e_Lok (sm_iaload (x_dk dn_87_0_0_ok 24 rfl)))
  (e_Lok (lk_4_110 ho_87 (x_dk dn_87_0_1_ok 0 rfl))))
  (e_Tok2
  (e_Lok (e_st (I := eI) (er_ifeq (off := 5) (tg := 45) (x_dk dn_87_0_1_ok 1 rfl) (by decide)) nx_if1))
  (e_Lok (ps_iconst_1 (x_dk dn_87_0_1_ok 2 rfl)))))
  (e_Tok2
  (e_Tok2
  (e_Lok (e_rt (I := eI) (k := 4) ⟨(x_dk dn_87_0_1_ok 3 rfl), rfl⟩))
  (e_Lok (e_st (I := eI) (er_iinc (i := 2) (n := 1) (x_dk dn_87_0_1_ok 4 rfl) (by decide +kernel) (by decide)) nx_inc)))
  (e_Tok2
  (e_Lok (e_st (I := eI) (er_goto (off := (-46)) (tg := 2) (x_dk dn_87_0_1_ok 5 rfl) (by decide)) nx_goto))
  (e_Tok2
  (e_Lok (ps_iconst_0 (x_dk dn_87_0_1_ok 6 rfl)))
  (e_Lok (e_rt (I := eI) (k := 4) ⟨(x_dk dn_87_0_1_ok 7 rfl), rfl⟩))))))))
def te_87 : Nat → eE := te_87_0
theorem te_87_ok : ∀ pc, e_EOq eft cls elay eI n_87 pc (te_87 pc) := te_87_0_ok
theorem ho_88 : (xm_y n_88).cls = "RobotCellHouse$Floor" := rfl
def dn_88_0_0 : List (Nat × Instr × Nat) := [(0, .iconst 0, 1), (1, .istore_n 3, 1), (2, .iconst 0, 1), (3, .istore 4, 2), (5, .iconst 0, 1), (6, .istore 5, 2), (8, .iload 5, 2), (10, .aload_n 0, 1), (11, .getfield 68, 3), (14, .if_icmp .ge 64, 3), (17, .iconst 0, 1), (18, .istore 6, 2), (20, .iload 6, 2), (22, .aload_n 0, 1), (23, .getfield 47, 3), (26, .iload 5, 2), (28, .iaload, 1), (29, .if_icmp .ge 43, 3), (32, .iload 4, 2), (34, .iload_n 3, 1), (35, .iconst 1, 1), (36, .aload_n 0, 1), (37, .getfield 44, 3), (40, .iload 5, 2), (42, .aaload, 1)]
set_option maxRecDepth 20000 in
theorem dn_88_0_0_ok : dn_88_0_0.all (fun q => decide (decode (xm_b n_88) q.1 = .ok (q.2.1, q.2.2))) = true := xa_g_ok (by decide +kernel)
def dn_88_0_1 : List (Nat × Instr × Nat) := [(43, .iload 6, 2), (45, .iaload, 1), (46, .ishl, 1), (47, .iand, 1), (48, .ior, 1), (49, .istore 4, 2), (51, .iload_n 3, 1), (52, .iconst 1, 1), (53, .aload_n 0, 1), (54, .getfield 44, 3), (57, .iload 5, 2), (59, .aaload, 1), (60, .iload 6, 2), (62, .iaload, 1), (63, .ishl, 1), (64, .ior, 1), (65, .istore_n 3, 1), (66, .iinc 6 1, 3), (69, .goto (-49), 3), (72, .iinc 5 1, 3), (75, .goto (-67), 3), (78, .iconst 0, 1), (79, .istore 5, 2), (81, .iload 5, 2), (83, .iload_n 2, 1)]
set_option maxRecDepth 20000 in
theorem dn_88_0_1_ok : dn_88_0_1.all (fun q => decide (decode (xm_b n_88) q.1 = .ok (q.2.1, q.2.2))) = true := xa_g_ok (by decide +kernel)
def dn_88_0_2 : List (Nat × Instr × Nat) := [(84, .if_icmp .ge 48, 3), (87, .aload_n 1, 1), (88, .iload 5, 2), (90, .aaload, 1), (91, .getfield 121, 3), (94, .ifCond .ge 7, 3), (97, .iconst 0, 1), (98, .goto 12, 3), (101, .iconst 1, 1), (102, .aload_n 1, 1), (103, .iload 5, 2), (105, .aaload, 1), (106, .getfield 121, 3), (109, .ishl, 1), (110, .istore 6, 2), (112, .iload 4, 2), (114, .iload_n 3, 1), (115, .iload 6, 2), (117, .iand, 1), (118, .ior, 1), (119, .istore 4, 2), (121, .iload_n 3, 1), (122, .iload 6, 2), (124, .ior, 1), (125, .istore_n 3, 1)]
set_option maxRecDepth 20000 in
theorem dn_88_0_2_ok : dn_88_0_2.all (fun q => decide (decode (xm_b n_88) q.1 = .ok (q.2.1, q.2.2))) = true := xa_g_ok (by decide +kernel)
def dn_88_0_3 : List (Nat × Instr × Nat) := [(126, .iinc 5 1, 3), (129, .goto (-48), 3), (132, .iconst 0, 1), (133, .istore 5, 2), (135, .iconst 0, 1), (136, .istore 6, 2), (138, .iload 6, 2), (140, .aload_n 0, 1), (141, .getfield 79, 3), (144, .if_icmp .ge 52, 3), (147, .iload_n 3, 1), (148, .iload 6, 2), (150, .ishr, 1), (151, .iconst 1, 1), (152, .iand, 1), (153, .iload 4, 2), (155, .iload 6, 2), (157, .ishr, 1), (158, .iconst 1, 1), (159, .iand, 1), (160, .iadd, 1), (161, .aload_n 0, 1), (162, .getfield 50, 3), (165, .iload 6, 2), (167, .iaload, 1)]
set_option maxRecDepth 20000 in
theorem dn_88_0_3_ok : dn_88_0_3.all (fun q => decide (decode (xm_b n_88) q.1 = .ok (q.2.1, q.2.2))) = true := xa_g_ok (by decide +kernel)
def dn_88_1_0 : List (Nat × Instr × Nat) := [(168, .bipush 8, 2), (170, .if_icmp .ne 7, 3), (173, .iconst 1, 1), (174, .goto 4, 3), (177, .iconst 0, 1), (178, .iadd, 1), (179, .istore 7, 2), (181, .iload 7, 2), (183, .iconst 1, 1), (184, .if_icmp .eq 6, 3), (187, .iinc 5 1, 3), (190, .iinc 6 1, 3), (193, .goto (-55), 3), (196, .iload 5, 2), (198, .ireturn, 1)]
set_option maxRecDepth 20000 in
theorem dn_88_1_0_ok : dn_88_1_0.all (fun q => decide (decode (xm_b n_88) q.1 = .ok (q.2.1, q.2.2))) = true := xa_g_ok (by decide +kernel)
def te_88_0 : Nat → eE := (e_T 22 (e_T 8 (e_T 2 (e_T 0 (e_L 0 (0, ei_push (0, 0) 1, 0, 0)) (e_T 1 (e_L 1 (0, ei_stor 3 0 2, 0, 0)) (e_L 2 (0, ei_push (0, 0) 3, 0, 0)))) (e_T 5 (e_T 3 (e_L 3 (0, ei_stor 4 0 5, 0, 0)) (e_L 5 (0, ei_push (0, 0) 6, 0, 0))) (e_T 6 (e_L 6 (0, ei_stor 5 0 8, 0, 0)) (e_L 8 (0, ei_load 5 0 10, 0, 0))))) (e_T 14 (e_T 10 (e_L 10 (0, ei_load 0 2 11, 0, 0)) (e_T 11 (e_L 11 (0, ei_getf eft elay 4 0 14, 0, 0)) (e_L 14 (0, ei_if2 3 78 17, 0, 0)))) (e_T 18 (e_T 17 (e_L 17 (0, ei_push (0, 0) 18, 0, 0)) (e_L 18 (0, ei_stor 6 0 20, 0, 0))) (e_T 20 (e_L 20 (0, ei_load 6 0 22, 0, 0)) (e_L 22 (0, ei_load 0 2 23, 0, 0)))))) (e_T 35 (e_T 28 (e_T 23 (e_L 23 (0, ei_getf eft elay 4 13 26, 0, 0)) (e_T 26 (e_L 26 (0, ei_load 5 0 28, 0, 0)) (e_L 28 (0, ei_ald elay false 29, 0, 0)))) (e_T 32 (e_T 29 (e_L 29 (0, ei_if2 3 72 32, 0, 0)) (e_L 32 (0, ei_load 4 0 34, 0, 0))) (e_T 34 (e_L 34 (0, ei_load 3 0 35, 0, 0)) (e_L 35 (0, ei_push (0, 1) 36, 0, 0))))) (e_T 40 (e_T 36 (e_L 36 (0, ei_load 0 2 37, 0, 0)) (e_T 37 (e_L 37 (0, ei_getf eft elay 4 12 40, 0, 0)) (e_L 40 (0, ei_load 5 0 42, 0, 0)))) (e_T 43 (e_T 42 (e_L 42 (0, ei_aald elay 43, 0, 0)) (e_L 43 (0, ei_load 6 0 45, 0, 0))) (e_T 45 (e_L 45 (0, ei_ald elay false 46, 0, 0)) (e_L 46 (0, ei_bin (eB (fun x y => x <<< (y &&& 31))) 47, 0, 0)))))))
set_option maxRecDepth 20000 in
set_option maxHeartbeats 4000000 in
theorem te_88_0_ok : ∀ pc, e_EOq eft cls elay eI n_88 pc (te_88_0 pc) :=
  (e_Tok2
  (e_Tok2
  (e_Tok2
  (e_Tok2
  (e_Lok (ps_iconst_0 (x_dk dn_88_0_0_ok 0 rfl)))
  (e_Tok2
  (e_Lok (e_st (I := eI) (er_istore_n (i := 3) (x_dk dn_88_0_0_ok 1 rfl) (by decide +kernel)) nx_stor))
  (e_Lok (ps_iconst_0 (x_dk dn_88_0_0_ok 2 rfl)))))
  (e_Tok2
  (e_Tok2
  (e_Lok (e_st (I := eI) (er_istore (i := 4) (x_dk dn_88_0_0_ok 3 rfl) (by decide +kernel)) nx_stor))
  (e_Lok (ps_iconst_0 (x_dk dn_88_0_0_ok 4 rfl))))
  (e_Tok2
  (e_Lok (e_st (I := eI) (er_istore (i := 5) (x_dk dn_88_0_0_ok 5 rfl) (by decide +kernel)) nx_stor))
  (e_Lok (ld_iload_5 (x_dk dn_88_0_0_ok 6 rfl))))))
  (e_Tok2
  (e_Tok2
  (e_Lok (ld_aload_n_0 (x_dk dn_88_0_0_ok 7 rfl)))
  (e_Tok2
  (e_Lok (lk_4_68g ho_88 (x_dk dn_88_0_0_ok 8 rfl)))
  (e_Lok (e_st (I := eI) (er_icmpge (off := 64) (tg := 78) (x_dk dn_88_0_0_ok 9 rfl) (by decide)) nx_if2))))
  (e_Tok2
  (e_Tok2
  (e_Lok (ps_iconst_0 (x_dk dn_88_0_0_ok 10 rfl)))
  (e_Lok (e_st (I := eI) (er_istore (i := 6) (x_dk dn_88_0_0_ok 11 rfl) (by decide +kernel)) nx_stor)))
  (e_Tok2
  (e_Lok (ld_iload_6 (x_dk dn_88_0_0_ok 12 rfl)))
  (e_Lok (ld_aload_n_0 (x_dk dn_88_0_0_ok 13 rfl)))))))
  (e_Tok2
  (e_Tok2
  (e_Tok2
  (e_Lok (lk_4_47g ho_88 (x_dk dn_88_0_0_ok 14 rfl)))
  (e_Tok2
  (e_Lok (ld_iload_5 (x_dk dn_88_0_0_ok 15 rfl)))
  (e_Lok (sm_iaload (x_dk dn_88_0_0_ok 16 rfl)))))
  (e_Tok2
  (e_Tok2
  (e_Lok (e_st (I := eI) (er_icmpge (off := 43) (tg := 72) (x_dk dn_88_0_0_ok 17 rfl) (by decide)) nx_if2))
  (e_Lok (ld_iload_4 (x_dk dn_88_0_0_ok 18 rfl))))
  (e_Tok2
  (e_Lok (ld_iload_n_3 (x_dk dn_88_0_0_ok 19 rfl)))
  (e_Lok (ps_iconst_1 (x_dk dn_88_0_0_ok 20 rfl))))))
  (e_Tok2
  (e_Tok2
  (e_Lok (ld_aload_n_0 (x_dk dn_88_0_0_ok 21 rfl)))
  (e_Tok2
  (e_Lok (lk_4_44g ho_88 (x_dk dn_88_0_0_ok 22 rfl)))
  (e_Lok (ld_iload_5 (x_dk dn_88_0_0_ok 23 rfl)))))
  (e_Tok2
  (e_Tok2
  (e_Lok (e_st (I := eI) (er_aaload (x_dk dn_88_0_0_ok 24 rfl)) nx_aald))
  (e_Lok (ld_iload_6 (x_dk dn_88_0_1_ok 0 rfl))))
  (e_Tok2
  (e_Lok (sm_iaload (x_dk dn_88_0_1_ok 1 rfl)))
  (e_Lok (e_st (I := eI) (er_ishl (x_dk dn_88_0_1_ok 2 rfl)) nx_bin)))))))
def te_88_28 : Nat → eE := (e_T 65 (e_T 54 (e_T 49 (e_T 47 (e_L 47 (0, ei_bin (eB (fun x y => x &&& y)) 48, 0, 0)) (e_T 48 (e_L 48 (0, ei_bin (eB (fun x y => x ||| y)) 49, 0, 0)) (e_L 49 (0, ei_stor 4 0 51, 0, 0)))) (e_T 52 (e_T 51 (e_L 51 (0, ei_load 3 0 52, 0, 0)) (e_L 52 (0, ei_push (0, 1) 53, 0, 0))) (e_T 53 (e_L 53 (0, ei_load 0 2 54, 0, 0)) (e_L 54 (0, ei_getf eft elay 4 12 57, 0, 0))))) (e_T 60 (e_T 57 (e_L 57 (0, ei_load 5 0 59, 0, 0)) (e_T 59 (e_L 59 (0, ei_aald elay 60, 0, 0)) (e_L 60 (0, ei_load 6 0 62, 0, 0)))) (e_T 63 (e_T 62 (e_L 62 (0, ei_ald elay false 63, 0, 0)) (e_L 63 (0, ei_bin (eB (fun x y => x <<< (y &&& 31))) 64, 0, 0))) (e_T 64 (e_L 64 (0, ei_bin (eB (fun x y => x ||| y)) 65, 0, 0)) (e_L 65 (0, ei_stor 3 0 66, 0, 0)))))) (e_T 81 (e_T 72 (e_T 66 (e_L 66 (0, ei_inc 6 1 69, 0, 0)) (e_T 69 (e_L 69 (0, ei_goto 20, 0, 0)) (e_L 72 (0, ei_inc 5 1 75, 0, 0)))) (e_T 78 (e_T 75 (e_L 75 (0, ei_goto 8, 0, 0)) (e_L 78 (0, ei_push (0, 0) 79, 0, 0))) (e_T 79 (e_L 79 (0, ei_stor 5 0 81, 0, 0)) (e_L 81 (0, ei_load 5 0 83, 0, 0))))) (e_T 88 (e_T 84 (e_T 83 (e_L 83 (0, ei_load 2 0 84, 0, 0)) (e_L 84 (0, ei_if2 3 132 87, 0, 0))) (e_T 87 (e_L 87 (0, ei_load 1 2 88, 0, 0)) (e_L 88 (0, ei_load 5 0 90, 0, 0)))) (e_T 91 (e_T 90 (e_L 90 (0, ei_aald elay 91, 0, 0)) (e_L 91 (0, ei_getf eft elay 0 14 94, 0, 0))) (e_T 94 (e_L 94 (0, ei_if1 3 101 97, 0, 0)) (e_L 97 (0, ei_push (0, 0) 98, 0, 0)))))))
set_option maxRecDepth 20000 in
set_option maxHeartbeats 4000000 in
theorem te_88_28_ok : ∀ pc, e_EOq eft cls elay eI n_88 pc (te_88_28 pc) :=
  (e_Tok2
  (e_Tok2
  (e_Tok2
  (e_Tok2
  (e_Lok (e_st (I := eI) (er_iand (x_dk dn_88_0_1_ok 3 rfl)) nx_bin))
  (e_Tok2
  (e_Lok (e_st (I := eI) (er_ior (x_dk dn_88_0_1_ok 4 rfl)) nx_bin))
  (e_Lok (e_st (I := eI) (er_istore (i := 4) (x_dk dn_88_0_1_ok 5 rfl) (by decide +kernel)) nx_stor))))
  (e_Tok2
  (e_Tok2
  (e_Lok (ld_iload_n_3 (x_dk dn_88_0_1_ok 6 rfl)))
  (e_Lok (ps_iconst_1 (x_dk dn_88_0_1_ok 7 rfl))))
  (e_Tok2
  (e_Lok (ld_aload_n_0 (x_dk dn_88_0_1_ok 8 rfl)))
  (e_Lok (lk_4_44g ho_88 (x_dk dn_88_0_1_ok 9 rfl))))))
  (e_Tok2
  (e_Tok2
  (e_Lok (ld_iload_5 (x_dk dn_88_0_1_ok 10 rfl)))
  (e_Tok2
  (e_Lok (e_st (I := eI) (er_aaload (x_dk dn_88_0_1_ok 11 rfl)) nx_aald))
  (e_Lok (ld_iload_6 (x_dk dn_88_0_1_ok 12 rfl)))))
  (e_Tok2
  (e_Tok2
  (e_Lok (sm_iaload (x_dk dn_88_0_1_ok 13 rfl)))
  (e_Lok (e_st (I := eI) (er_ishl (x_dk dn_88_0_1_ok 14 rfl)) nx_bin)))
  (e_Tok2
  (e_Lok (e_st (I := eI) (er_ior (x_dk dn_88_0_1_ok 15 rfl)) nx_bin))
  (e_Lok (e_st (I := eI) (er_istore_n (i := 3) (x_dk dn_88_0_1_ok 16 rfl) (by decide +kernel)) nx_stor))))))
  (e_Tok2
  (e_Tok2
  (e_Tok2
  (e_Lok (e_st (I := eI) (er_iinc (i := 6) (n := 1) (x_dk dn_88_0_1_ok 17 rfl) (by decide +kernel) (by decide)) nx_inc))
  (e_Tok2
  (e_Lok (e_st (I := eI) (er_goto (off := (-49)) (tg := 20) (x_dk dn_88_0_1_ok 18 rfl) (by decide)) nx_goto))
  (e_Lok (e_st (I := eI) (er_iinc (i := 5) (n := 1) (x_dk dn_88_0_1_ok 19 rfl) (by decide +kernel) (by decide)) nx_inc))))
  (e_Tok2
  (e_Tok2
  (e_Lok (e_st (I := eI) (er_goto (off := (-67)) (tg := 8) (x_dk dn_88_0_1_ok 20 rfl) (by decide)) nx_goto))
  (e_Lok (ps_iconst_0 (x_dk dn_88_0_1_ok 21 rfl))))
  (e_Tok2
  (e_Lok (e_st (I := eI) (er_istore (i := 5) (x_dk dn_88_0_1_ok 22 rfl) (by decide +kernel)) nx_stor))
  (e_Lok (ld_iload_5 (x_dk dn_88_0_1_ok 23 rfl))))))
  (e_Tok2
  (e_Tok2
  (e_Tok2
  (e_Lok (ld_iload_n_2 (x_dk dn_88_0_1_ok 24 rfl)))
  (e_Lok (e_st (I := eI) (er_icmpge (off := 48) (tg := 132) (x_dk dn_88_0_2_ok 0 rfl) (by decide)) nx_if2)))
  (e_Tok2
  (e_Lok (ld_aload_n_1 (x_dk dn_88_0_2_ok 1 rfl)))
  (e_Lok (ld_iload_5 (x_dk dn_88_0_2_ok 2 rfl)))))
  (e_Tok2
  (e_Tok2
  (e_Lok (e_st (I := eI) (er_aaload (x_dk dn_88_0_2_ok 3 rfl)) nx_aald))
  (e_Lok (lk_4_121g ho_88 (x_dk dn_88_0_2_ok 4 rfl))))
  (e_Tok2
  (e_Lok (e_st (I := eI) (er_ifge (off := 7) (tg := 101) (x_dk dn_88_0_2_ok 5 rfl) (by decide)) nx_if1))
  (e_Lok (ps_iconst_0 (x_dk dn_88_0_2_ok 6 rfl))))))))
def te_88_57 : Nat → eE := (e_T 119 (e_T 109 (e_T 102 (e_T 98 (e_L 98 (0, ei_goto 110, 0, 0)) (e_T 101 (e_L 101 (0, ei_push (0, 1) 102, 0, 0)) (e_L 102 (0, ei_load 1 2 103, 0, 0)))) (e_T 105 (e_T 103 (e_L 103 (0, ei_load 5 0 105, 0, 0)) (e_L 105 (0, ei_aald elay 106, 0, 0))) (e_T 106 (e_L 106 (0, ei_getf eft elay 0 14 109, 0, 0)) (e_L 109 (0, ei_bin (eB (fun x y => x <<< (y &&& 31))) 110, 0, 0))))) (e_T 114 (e_T 110 (e_L 110 (0, ei_stor 6 0 112, 0, 0)) (e_T 112 (e_L 112 (0, ei_load 4 0 114, 0, 0)) (e_L 114 (0, ei_load 3 0 115, 0, 0)))) (e_T 117 (e_T 115 (e_L 115 (0, ei_load 6 0 117, 0, 0)) (e_L 117 (0, ei_bin (eB (fun x y => x &&& y)) 118, 0, 0))) (e_T 118 (e_L 118 (0, ei_bin (eB (fun x y => x ||| y)) 119, 0, 0)) (e_L 119 (0, ei_stor 4 0 121, 0, 0)))))) (e_T 132 (e_T 124 (e_T 121 (e_L 121 (0, ei_load 3 0 122, 0, 0)) (e_T 122 (e_L 122 (0, ei_load 6 0 124, 0, 0)) (e_L 124 (0, ei_bin (eB (fun x y => x ||| y)) 125, 0, 0)))) (e_T 126 (e_T 125 (e_L 125 (0, ei_stor 3 0 126, 0, 0)) (e_L 126 (0, ei_inc 5 1 129, 0, 0))) (e_T 129 (e_L 129 (0, ei_goto 81, 0, 0)) (e_L 132 (0, ei_push (0, 0) 133, 0, 0))))) (e_T 138 (e_T 135 (e_T 133 (e_L 133 (0, ei_stor 5 0 135, 0, 0)) (e_L 135 (0, ei_push (0, 0) 136, 0, 0))) (e_T 136 (e_L 136 (0, ei_stor 6 0 138, 0, 0)) (e_L 138 (0, ei_load 6 0 140, 0, 0)))) (e_T 141 (e_T 140 (e_L 140 (0, ei_load 0 2 141, 0, 0)) (e_L 141 (0, ei_getf eft elay 4 1 144, 0, 0))) (e_T 144 (e_L 144 (0, ei_if2 3 196 147, 0, 0)) (e_L 147 (0, ei_load 3 0 148, 0, 0)))))))
set_option maxRecDepth 20000 in
set_option maxHeartbeats 4000000 in
theorem te_88_57_ok : ∀ pc, e_EOq eft cls elay eI n_88 pc (te_88_57 pc) :=
  (e_Tok2
  (e_Tok2
  (e_Tok2
  (e_Tok2
  (e_Lok (e_st (I := eI) (er_goto (off := 12) (tg := 110) (x_dk dn_88_0_2_ok 7 rfl) (by decide)) nx_goto))
  (e_Tok2
  (e_Lok (ps_iconst_1 (x_dk dn_88_0_2_ok 8 rfl)))
  (e_Lok (ld_aload_n_1 (x_dk dn_88_0_2_ok 9 rfl)))))
  (e_Tok2
  (e_Tok2
  (e_Lok (ld_iload_5 (x_dk dn_88_0_2_ok 10 rfl)))
  (e_Lok (e_st (I := eI) (er_aaload (x_dk dn_88_0_2_ok 11 rfl)) nx_aald)))
  (e_Tok2
  (e_Lok (lk_4_121g ho_88 (x_dk dn_88_0_2_ok 12 rfl)))
  (e_Lok (e_st (I := eI) (er_ishl (x_dk dn_88_0_2_ok 13 rfl)) nx_bin)))))
  (e_Tok2
  (e_Tok2
  (e_Lok (e_st (I := eI) (er_istore (i := 6) (x_dk dn_88_0_2_ok 14 rfl) (by decide +kernel)) nx_stor))
  (e_Tok2
  (e_Lok (ld_iload_4 (x_dk dn_88_0_2_ok 15 rfl)))
  (e_Lok (ld_iload_n_3 (x_dk dn_88_0_2_ok 16 rfl)))))
  (e_Tok2
  (e_Tok2
  (e_Lok (ld_iload_6 (x_dk dn_88_0_2_ok 17 rfl)))
  (e_Lok (e_st (I := eI) (er_iand (x_dk dn_88_0_2_ok 18 rfl)) nx_bin)))
  (e_Tok2
  (e_Lok (e_st (I := eI) (er_ior (x_dk dn_88_0_2_ok 19 rfl)) nx_bin))
  (e_Lok (e_st (I := eI) (er_istore (i := 4) (x_dk dn_88_0_2_ok 20 rfl) (by decide +kernel)) nx_stor))))))
  (e_Tok2
  (e_Tok2
  (e_Tok2
  (e_Lok (ld_iload_n_3 (x_dk dn_88_0_2_ok 21 rfl)))
  (e_Tok2
  (e_Lok (ld_iload_6 (x_dk dn_88_0_2_ok 22 rfl)))
  (e_Lok (e_st (I := eI) (er_ior (x_dk dn_88_0_2_ok 23 rfl)) nx_bin))))
  (e_Tok2
  (e_Tok2
  (e_Lok (e_st (I := eI) (er_istore_n (i := 3) (x_dk dn_88_0_2_ok 24 rfl) (by decide +kernel)) nx_stor))
  (e_Lok (e_st (I := eI) (er_iinc (i := 5) (n := 1) (x_dk dn_88_0_3_ok 0 rfl) (by decide +kernel) (by decide)) nx_inc)))
  (e_Tok2
  (e_Lok (e_st (I := eI) (er_goto (off := (-48)) (tg := 81) (x_dk dn_88_0_3_ok 1 rfl) (by decide)) nx_goto))
  (e_Lok (ps_iconst_0 (x_dk dn_88_0_3_ok 2 rfl))))))
  (e_Tok2
  (e_Tok2
  (e_Tok2
  (e_Lok (e_st (I := eI) (er_istore (i := 5) (x_dk dn_88_0_3_ok 3 rfl) (by decide +kernel)) nx_stor))
  (e_Lok (ps_iconst_0 (x_dk dn_88_0_3_ok 4 rfl))))
  (e_Tok2
  (e_Lok (e_st (I := eI) (er_istore (i := 6) (x_dk dn_88_0_3_ok 5 rfl) (by decide +kernel)) nx_stor))
  (e_Lok (ld_iload_6 (x_dk dn_88_0_3_ok 6 rfl)))))
  (e_Tok2
  (e_Tok2
  (e_Lok (ld_aload_n_0 (x_dk dn_88_0_3_ok 7 rfl)))
  (e_Lok (lk_4_79g ho_88 (x_dk dn_88_0_3_ok 8 rfl))))
  (e_Tok2
  (e_Lok (e_st (I := eI) (er_icmpge (off := 52) (tg := 196) (x_dk dn_88_0_3_ok 9 rfl) (by decide)) nx_if2))
  (e_Lok (ld_iload_n_3 (x_dk dn_88_0_3_ok 10 rfl))))))))
def te_88_86 : Nat → eE := (e_T 167 (e_T 157 (e_T 151 (e_T 148 (e_L 148 (0, ei_load 6 0 150, 0, 0)) (e_T 150 (e_L 150 (0, ei_bin (eB (fun x y => x >>> (y &&& 31))) 151, 0, 0)) (e_L 151 (0, ei_push (0, 1) 152, 0, 0)))) (e_T 153 (e_T 152 (e_L 152 (0, ei_bin (eB (fun x y => x &&& y)) 153, 0, 0)) (e_L 153 (0, ei_load 4 0 155, 0, 0))) (e_T 155 (e_L 155 (0, ei_load 6 0 157, 0, 0)) (e_L 157 (0, ei_bin (eB (fun x y => x >>> (y &&& 31))) 158, 0, 0))))) (e_T 160 (e_T 158 (e_L 158 (0, ei_push (0, 1) 159, 0, 0)) (e_T 159 (e_L 159 (0, ei_bin (eB (fun x y => x &&& y)) 160, 0, 0)) (e_L 160 (0, ei_bin eF_add 161, 0, 0)))) (e_T 162 (e_T 161 (e_L 161 (0, ei_load 0 2 162, 0, 0)) (e_L 162 (0, ei_getf eft elay 4 14 165, 0, 0))) (e_T 165 (e_L 165 (0, ei_load 6 0 167, 0, 0)) (e_L 167 (0, ei_ald elay false 168, 0, 0)))))) (e_T 179 (e_T 173 (e_T 168 (e_L 168 (0, ei_push (0, 8) 170, 0, 0)) (e_T 170 (e_L 170 (0, ei_if2 1 177 173, 0, 0)) (e_L 173 (0, ei_push (0, 1) 174, 0, 0)))) (e_T 177 (e_T 174 (e_L 174 (0, ei_goto 178, 0, 0)) (e_L 177 (0, ei_push (0, 0) 178, 0, 0))) (e_T 178 (e_L 178 (0, ei_bin eF_add 179, 0, 0)) (e_L 179 (0, ei_stor 7 0 181, 0, 0))))) (e_T 187 (e_T 183 (e_T 181 (e_L 181 (0, ei_load 7 0 183, 0, 0)) (e_L 183 (0, ei_push (0, 1) 184, 0, 0))) (e_T 184 (e_L 184 (0, ei_if2 0 190 187, 0, 0)) (e_L 187 (0, ei_inc 5 1 190, 0, 0)))) (e_T 193 (e_T 190 (e_L 190 (0, ei_inc 6 1 193, 0, 0)) (e_L 193 (0, ei_goto 138, 0, 0))) (e_T 196 (e_L 196 (0, ei_load 5 0 198, 0, 0)) (e_L 198 (1, e_nof, 1, 0)))))))
set_option maxRecDepth 20000 in
set_option maxHeartbeats 4000000 in
theorem te_88_86_ok : ∀ pc, e_EOq eft cls elay eI n_88 pc (te_88_86 pc) :=
  (e_Tok2
  (e_Tok2
  (e_Tok2
  (e_Tok2
  (e_Lok (ld_iload_6 (x_dk dn_88_0_3_ok 11 rfl)))
  (e_Tok2
  (e_Lok (e_st (I := eI) (er_ishr (x_dk dn_88_0_3_ok 12 rfl)) nx_bin))
  (e_Lok (ps_iconst_1 (x_dk dn_88_0_3_ok 13 rfl)))))
  (e_Tok2
  (e_Tok2
  (e_Lok (e_st (I := eI) (er_iand (x_dk dn_88_0_3_ok 14 rfl)) nx_bin))
  (e_Lok (ld_iload_4 (x_dk dn_88_0_3_ok 15 rfl))))
  (e_Tok2
  (e_Lok (ld_iload_6 (x_dk dn_88_0_3_ok 16 rfl)))
  (e_Lok (e_st (I := eI) (er_ishr (x_dk dn_88_0_3_ok 17 rfl)) nx_bin)))))
  (e_Tok2
  (e_Tok2
  (e_Lok (ps_iconst_1 (x_dk dn_88_0_3_ok 18 rfl)))
  (e_Tok2
  (e_Lok (e_st (I := eI) (er_iand (x_dk dn_88_0_3_ok 19 rfl)) nx_bin))
  (e_Lok (sm_iadd (x_dk dn_88_0_3_ok 20 rfl)))))
  (e_Tok2
  (e_Tok2
  (e_Lok (ld_aload_n_0 (x_dk dn_88_0_3_ok 21 rfl)))
  (e_Lok (lk_4_50g ho_88 (x_dk dn_88_0_3_ok 22 rfl))))
  (e_Tok2
  (e_Lok (ld_iload_6 (x_dk dn_88_0_3_ok 23 rfl)))
  (e_Lok (sm_iaload (x_dk dn_88_0_3_ok 24 rfl)))))))
  (e_Tok2
  (e_Tok2
  (e_Tok2
  (e_Lok (ps_bipush_8 (x_dk dn_88_1_0_ok 0 rfl)))
  (e_Tok2
  (e_Lok (e_st (I := eI) (er_icmpne (off := 7) (tg := 177) (x_dk dn_88_1_0_ok 1 rfl) (by decide)) nx_if2))
  (e_Lok (ps_iconst_1 (x_dk dn_88_1_0_ok 2 rfl)))))
  (e_Tok2
  (e_Tok2
  (e_Lok (e_st (I := eI) (er_goto (off := 4) (tg := 178) (x_dk dn_88_1_0_ok 3 rfl) (by decide)) nx_goto))
  (e_Lok (ps_iconst_0 (x_dk dn_88_1_0_ok 4 rfl))))
  (e_Tok2
  (e_Lok (sm_iadd (x_dk dn_88_1_0_ok 5 rfl)))
  (e_Lok (e_st (I := eI) (er_istore (i := 7) (x_dk dn_88_1_0_ok 6 rfl) (by decide +kernel)) nx_stor)))))
  (e_Tok2
  (e_Tok2
  (e_Tok2
  (e_Lok (ld_iload_7 (x_dk dn_88_1_0_ok 7 rfl)))
  (e_Lok (ps_iconst_1 (x_dk dn_88_1_0_ok 8 rfl))))
  (e_Tok2
  (e_Lok (e_st (I := eI) (er_icmpeq (off := 6) (tg := 190) (x_dk dn_88_1_0_ok 9 rfl) (by decide)) nx_if2))
  (e_Lok (e_st (I := eI) (er_iinc (i := 5) (n := 1) (x_dk dn_88_1_0_ok 10 rfl) (by decide +kernel) (by decide)) nx_inc))))
  (e_Tok2
  (e_Tok2
  (e_Lok (e_st (I := eI) (er_iinc (i := 6) (n := 1) (x_dk dn_88_1_0_ok 11 rfl) (by decide +kernel) (by decide)) nx_inc))
  (e_Lok (e_st (I := eI) (er_goto (off := (-55)) (tg := 138) (x_dk dn_88_1_0_ok 12 rfl) (by decide)) nx_goto)))
  (e_Tok2
  (e_Lok (ld_iload_5 (x_dk dn_88_1_0_ok 13 rfl)))
  (e_Lok (e_rt (I := eI) (k := 1) ⟨(x_dk dn_88_1_0_ok 14 rfl), rfl⟩)))))))
def te_88 : Nat → eE := (e_T 97 (e_T 46 te_88_0 te_88_28) (e_T 147 te_88_57 te_88_86))
theorem te_88_ok : ∀ pc, e_EOq eft cls elay eI n_88 pc (te_88 pc) := (e_Tok2 ((e_Tok2 (te_88_0_ok) (te_88_28_ok))) ((e_Tok2 (te_88_57_ok) (te_88_86_ok))))
theorem ho_89 : (xm_y n_89).cls = "RobotCellHouse$Joint" := rfl
def dn_89_0_0 : List (Nat × Instr × Nat) := [(0, .iload_n 1, 1), (1, .aload_n 0, 1), (2, .getfield 9, 3), (5, .aload_n 0, 1), (6, .getfield 15, 3), (9, .invokestatic 18, 3), (12, .ireturn, 1)]
set_option maxRecDepth 20000 in
theorem dn_89_0_0_ok : dn_89_0_0.all (fun q => decide (decode (xm_b n_89) q.1 = .ok (q.2.1, q.2.2))) = true := xa_g_ok (by decide +kernel)
def te_89_0 : Nat → eE := (e_T 2 (e_T 0 (e_L 0 (0, ei_load 1 0 1, 0, 0)) (e_T 1 (e_L 1 (0, ei_load 0 2 2, 0, 0)) (e_L 2 (0, ei_getf eft elay 5 1 5, 0, 0)))) (e_T 6 (e_T 5 (e_L 5 (0, ei_load 0 2 6, 0, 0)) (e_L 6 (0, ei_getf eft elay 5 2 9, 0, 0))) (e_T 9 (e_L 9 (2, e_nof, 242, 3)) (e_L 12 (1, e_nof, 4, 0)))))
set_option maxRecDepth 20000 in
set_option maxHeartbeats 4000000 in
theorem te_89_0_ok : ∀ pc, e_EOq eft cls elay eI n_89 pc (te_89_0 pc) :=
  (e_Tok2
  (e_Tok2
  (e_Lok (ld_iload_n_1 (x_dk dn_89_0_0_ok 0 rfl)))
  (e_Tok2
  (e_Lok (ld_aload_n_0 (x_dk dn_89_0_0_ok 1 rfl)))
  (e_Lok (lk_5_9g ho_89 (x_dk dn_89_0_0_ok 2 rfl)))))
  (e_Tok2
  (e_Tok2
  (e_Lok (ld_aload_n_0 (x_dk dn_89_0_0_ok 3 rfl)))
  (e_Lok (lk_5_15g ho_89 (x_dk dn_89_0_0_ok 4 rfl))))
  (e_Tok2
  (e_Lok (lk_5_18 ho_89 (x_dk dn_89_0_0_ok 5 rfl)))
  (e_Lok (e_rt (I := eI) (k := 4) ⟨(x_dk dn_89_0_0_ok 6 rfl), rfl⟩)))))
def te_89 : Nat → eE := te_89_0
theorem te_89_ok : ∀ pc, e_EOq eft cls elay eI n_89 pc (te_89 pc) := te_89_0_ok
theorem ho_90 : (xm_y n_90).cls = "RobotCellHouse$Joint" := rfl
def dn_90_0_0 : List (Nat × Instr × Nat) := [(0, .aload_n 0, 1), (1, .getfield 22, 3), (4, .aload_n 0, 1), (5, .getfield 25, 3), (8, .if_icmp .ge 7, 3), (11, .iconst (-1), 1), (12, .goto 4, 3), (15, .iconst 1, 1), (16, .istore_n 1, 1), (17, .aload_n 0, 1), (18, .getfield 22, 3), (21, .aload_n 0, 1), (22, .getfield 25, 3), (25, .isub, 1), (26, .iload_n 1, 1), (27, .imul, 1), (28, .istore_n 2, 1), (29, .iconst 0, 1), (30, .istore_n 3, 1), (31, .iconst 0, 1), (32, .aload_n 0, 1), (33, .getfield 28, 3), (36, .aload_n 0, 1), (37, .getfield 31, 3), (40, .iload_n 1, 1)]
set_option maxRecDepth 20000 in
theorem dn_90_0_0_ok : dn_90_0_0.all (fun q => decide (decode (xm_b n_90) q.1 = .ok (q.2.1, q.2.2))) = true := xa_g_ok (by decide +kernel)
def dn_90_0_1 : List (Nat × Instr × Nat) := [(41, .imul, 1), (42, .aload_n 0, 1), (43, .getfield 34, 3), (46, .iadd, 1), (47, .invokestatic 37, 3), (50, .invokestatic 43, 3), (53, .istore 4, 2), (55, .iconst 0, 1), (56, .istore 5, 2), (58, .iload 5, 2), (60, .bipush 12, 2), (62, .if_icmp .ge 47, 3), (65, .iload_n 3, 1), (66, .iload 4, 2), (68, .if_icmp .ge 41, 3), (71, .iload_n 3, 1), (72, .iload 4, 2), (74, .iadd, 1), (75, .iconst 1, 1), (76, .iadd, 1), (77, .iconst 2, 1), (78, .idiv, 1), (79, .istore 6, 2), (81, .aload_n 0, 1), (82, .iload 6, 2)]
set_option maxRecDepth 20000 in
theorem dn_90_0_1_ok : dn_90_0_1.all (fun q => decide (decode (xm_b n_90) q.1 = .ok (q.2.1, q.2.2))) = true := xa_g_ok (by decide +kernel)
def dn_90_0_2 : List (Nat × Instr × Nat) := [(84, .invokevirtual 46, 3), (87, .iload_n 2, 1), (88, .if_icmp .gt 9, 3), (91, .iload 6, 2), (93, .istore_n 3, 1), (94, .goto 9, 3), (97, .iload 6, 2), (99, .iconst 1, 1), (100, .isub, 1), (101, .istore 4, 2), (103, .iinc 5 1, 3), (106, .goto (-48), 3), (109, .iload_n 3, 1), (110, .iload_n 1, 1), (111, .imul, 1), (112, .ireturn, 1)]
set_option maxRecDepth 20000 in
theorem dn_90_0_2_ok : dn_90_0_2.all (fun q => decide (decode (xm_b n_90) q.1 = .ok (q.2.1, q.2.2))) = true := xa_g_ok (by decide +kernel)
def te_90_0 : Nat → eE := (e_T 27 (e_T 15 (e_T 5 (e_T 1 (e_T 0 (e_L 0 (0, ei_load 0 2 1, 0, 0)) (e_L 1 (0, ei_getf eft elay 5 9 4, 0, 0))) (e_T 4 (e_L 4 (0, ei_load 0 2 5, 0, 0)) (e_L 5 (0, ei_getf eft elay 5 7 8, 0, 0)))) (e_T 11 (e_T 8 (e_L 8 (0, ei_if2 3 15 11, 0, 0)) (e_L 11 (0, ei_push (0, (-1)) 12, 0, 0))) (e_T 12 (e_L 12 (0, ei_goto 16, 0, 0)) (e_L 15 (0, ei_push (0, 1) 16, 0, 0))))) (e_T 21 (e_T 17 (e_T 16 (e_L 16 (0, ei_stor 1 0 17, 0, 0)) (e_L 17 (0, ei_load 0 2 18, 0, 0))) (e_T 18 (e_L 18 (0, ei_getf eft elay 5 9 21, 0, 0)) (e_L 21 (0, ei_load 0 2 22, 0, 0)))) (e_T 25 (e_T 22 (e_L 22 (0, ei_getf eft elay 5 7 25, 0, 0)) (e_L 25 (0, ei_bin eF_sub 26, 0, 0))) (e_T 26 (e_L 26 (0, ei_load 1 0 27, 0, 0)) (e_L 27 (0, ei_bin eF_mul 28, 0, 0)))))) (e_T 37 (e_T 31 (e_T 29 (e_T 28 (e_L 28 (0, ei_stor 2 0 29, 0, 0)) (e_L 29 (0, ei_push (0, 0) 30, 0, 0))) (e_T 30 (e_L 30 (0, ei_stor 3 0 31, 0, 0)) (e_L 31 (0, ei_push (0, 0) 32, 0, 0)))) (e_T 33 (e_T 32 (e_L 32 (0, ei_load 0 2 33, 0, 0)) (e_L 33 (0, ei_getf eft elay 5 5 36, 0, 0))) (e_T 36 (e_L 36 (0, ei_load 0 2 37, 0, 0)) (e_L 37 (0, ei_getf eft elay 5 8 40, 0, 0))))) (e_T 43 (e_T 41 (e_T 40 (e_L 40 (0, ei_load 1 0 41, 0, 0)) (e_L 41 (0, ei_bin eF_mul 42, 0, 0))) (e_T 42 (e_L 42 (0, ei_load 0 2 43, 0, 0)) (e_L 43 (0, ei_getf eft elay 5 6 46, 0, 0)))) (e_T 47 (e_T 46 (e_L 46 (0, ei_bin eF_add 47, 0, 0)) (e_L 47 (0, ei_m2 eM_min 50, 0, 0))) (e_T 50 (e_L 50 (0, ei_m2 eM_max 53, 0, 0)) (e_T 53 (e_L 53 (0, ei_stor 4 0 55, 0, 0)) (e_L 55 (0, ei_push (0, 0) 56, 0, 0))))))))
set_option maxRecDepth 20000 in
set_option maxHeartbeats 4000000 in
theorem te_90_0_ok : ∀ pc, e_EOq eft cls elay eI n_90 pc (te_90_0 pc) :=
  (e_Tok2
  (e_Tok2
  (e_Tok2
  (e_Tok2
  (e_Tok2
  (e_Lok (ld_aload_n_0 (x_dk dn_90_0_0_ok 0 rfl)))
  (e_Lok (lk_5_22g ho_90 (x_dk dn_90_0_0_ok 1 rfl))))
  (e_Tok2
  (e_Lok (ld_aload_n_0 (x_dk dn_90_0_0_ok 2 rfl)))
  (e_Lok (lk_5_25g ho_90 (x_dk dn_90_0_0_ok 3 rfl)))))
  (e_Tok2
  (e_Tok2
  (e_Lok (e_st (I := eI) (er_icmpge (off := 7) (tg := 15) (x_dk dn_90_0_0_ok 4 rfl) (by decide)) nx_if2))
  (e_Lok (ps_iconst_m1 (x_dk dn_90_0_0_ok 5 rfl))))
  (e_Tok2
  (e_Lok (e_st (I := eI) (er_goto (off := 4) (tg := 16) (x_dk dn_90_0_0_ok 6 rfl) (by decide)) nx_goto))
  (e_Lok (ps_iconst_1 (x_dk dn_90_0_0_ok 7 rfl))))))
  (e_Tok2
  (e_Tok2
  (e_Tok2
  (e_Lok (e_st (I := eI) (er_istore_n (i := 1) (x_dk dn_90_0_0_ok 8 rfl) (by decide +kernel)) nx_stor))
  (e_Lok (ld_aload_n_0 (x_dk dn_90_0_0_ok 9 rfl))))
  (e_Tok2
  (e_Lok (lk_5_22g ho_90 (x_dk dn_90_0_0_ok 10 rfl)))
  (e_Lok (ld_aload_n_0 (x_dk dn_90_0_0_ok 11 rfl)))))
  (e_Tok2
  (e_Tok2
  (e_Lok (lk_5_25g ho_90 (x_dk dn_90_0_0_ok 12 rfl)))
  (e_Lok (sm_isub (x_dk dn_90_0_0_ok 13 rfl))))
  (e_Tok2
  (e_Lok (ld_iload_n_1 (x_dk dn_90_0_0_ok 14 rfl)))
  (e_Lok (sm_imul (x_dk dn_90_0_0_ok 15 rfl)))))))
  (e_Tok2
  (e_Tok2
  (e_Tok2
  (e_Tok2
  (e_Lok (e_st (I := eI) (er_istore_n (i := 2) (x_dk dn_90_0_0_ok 16 rfl) (by decide +kernel)) nx_stor))
  (e_Lok (ps_iconst_0 (x_dk dn_90_0_0_ok 17 rfl))))
  (e_Tok2
  (e_Lok (e_st (I := eI) (er_istore_n (i := 3) (x_dk dn_90_0_0_ok 18 rfl) (by decide +kernel)) nx_stor))
  (e_Lok (ps_iconst_0 (x_dk dn_90_0_0_ok 19 rfl)))))
  (e_Tok2
  (e_Tok2
  (e_Lok (ld_aload_n_0 (x_dk dn_90_0_0_ok 20 rfl)))
  (e_Lok (lk_5_28g ho_90 (x_dk dn_90_0_0_ok 21 rfl))))
  (e_Tok2
  (e_Lok (ld_aload_n_0 (x_dk dn_90_0_0_ok 22 rfl)))
  (e_Lok (lk_5_31g ho_90 (x_dk dn_90_0_0_ok 23 rfl))))))
  (e_Tok2
  (e_Tok2
  (e_Tok2
  (e_Lok (ld_iload_n_1 (x_dk dn_90_0_0_ok 24 rfl)))
  (e_Lok (sm_imul (x_dk dn_90_0_1_ok 0 rfl))))
  (e_Tok2
  (e_Lok (ld_aload_n_0 (x_dk dn_90_0_1_ok 1 rfl)))
  (e_Lok (lk_5_34g ho_90 (x_dk dn_90_0_1_ok 2 rfl)))))
  (e_Tok2
  (e_Tok2
  (e_Lok (sm_iadd (x_dk dn_90_0_1_ok 3 rfl)))
  (e_Lok (e_st (I := eI) (er_min (ix := 37) (in_t8 (List.mem_of_getElem? (i := 37) rfl) rfl) (in_t5 (List.mem_of_getElem? (i := 187) rfl) rfl) (in_t1 (List.mem_of_getElem? (i := 15) rfl) rfl) (in_t5 (List.mem_of_getElem? (i := 188) rfl) rfl) (x_dk dn_90_0_1_ok 4 rfl)) nx_m2)))
  (e_Tok2
  (e_Lok (e_st (I := eI) (er_max (ix := 43) (in_t8 (List.mem_of_getElem? (i := 36) rfl) rfl) (in_t5 (List.mem_of_getElem? (i := 184) rfl) rfl) (in_t1 (List.mem_of_getElem? (i := 15) rfl) rfl) (in_t5 (List.mem_of_getElem? (i := 185) rfl) rfl) (x_dk dn_90_0_1_ok 5 rfl)) nx_m2))
  (e_Tok2
  (e_Lok (e_st (I := eI) (er_istore (i := 4) (x_dk dn_90_0_1_ok 6 rfl) (by decide +kernel)) nx_stor))
  (e_Lok (ps_iconst_0 (x_dk dn_90_0_1_ok 7 rfl)))))))))
def te_90_33 : Nat → eE := (e_T 81 (e_T 71 (e_T 62 (e_T 58 (e_T 56 (e_L 56 (0, ei_stor 5 0 58, 0, 0)) (e_L 58 (0, ei_load 5 0 60, 0, 0))) (e_T 60 (e_L 60 (0, ei_push (0, 12) 62, 0, 0)) (e_L 62 (0, ei_if2 3 109 65, 0, 0)))) (e_T 66 (e_T 65 (e_L 65 (0, ei_load 3 0 66, 0, 0)) (e_L 66 (0, ei_load 4 0 68, 0, 0))) (e_T 68 (e_L 68 (0, ei_if2 3 109 71, 0, 0)) (e_L 71 (0, ei_load 3 0 72, 0, 0))))) (e_T 76 (e_T 74 (e_T 72 (e_L 72 (0, ei_load 4 0 74, 0, 0)) (e_L 74 (0, ei_bin eF_add 75, 0, 0))) (e_T 75 (e_L 75 (0, ei_push (0, 1) 76, 0, 0)) (e_L 76 (0, ei_bin eF_add 77, 0, 0)))) (e_T 78 (e_T 77 (e_L 77 (0, ei_push (0, 2) 78, 0, 0)) (e_L 78 (0, ei_bin eF_div 79, 0, 0))) (e_T 79 (e_L 79 (0, ei_stor 6 0 81, 0, 0)) (e_L 81 (0, ei_load 0 2 82, 0, 0)))))) (e_T 97 (e_T 88 (e_T 84 (e_T 82 (e_L 82 (0, ei_load 6 0 84, 0, 0)) (e_L 84 (2, e_nof, 92, 2))) (e_T 87 (e_L 87 (0, ei_load 2 0 88, 0, 0)) (e_L 88 (0, ei_if2 4 97 91, 0, 0)))) (e_T 93 (e_T 91 (e_L 91 (0, ei_load 6 0 93, 0, 0)) (e_L 93 (0, ei_stor 3 0 94, 0, 0))) (e_T 94 (e_L 94 (0, ei_goto 103, 0, 0)) (e_L 97 (0, ei_load 6 0 99, 0, 0))))) (e_T 103 (e_T 100 (e_T 99 (e_L 99 (0, ei_push (0, 1) 100, 0, 0)) (e_L 100 (0, ei_bin eF_sub 101, 0, 0))) (e_T 101 (e_L 101 (0, ei_stor 4 0 103, 0, 0)) (e_L 103 (0, ei_inc 5 1 106, 0, 0)))) (e_T 109 (e_T 106 (e_L 106 (0, ei_goto 58, 0, 0)) (e_L 109 (0, ei_load 3 0 110, 0, 0))) (e_T 110 (e_L 110 (0, ei_load 1 0 111, 0, 0)) (e_T 111 (e_L 111 (0, ei_bin eF_mul 112, 0, 0)) (e_L 112 (1, e_nof, 1, 0))))))))
set_option maxRecDepth 20000 in
set_option maxHeartbeats 4000000 in
theorem te_90_33_ok : ∀ pc, e_EOq eft cls elay eI n_90 pc (te_90_33 pc) :=
  (e_Tok2
  (e_Tok2
  (e_Tok2
  (e_Tok2
  (e_Tok2
  (e_Lok (e_st (I := eI) (er_istore (i := 5) (x_dk dn_90_0_1_ok 8 rfl) (by decide +kernel)) nx_stor))
  (e_Lok (ld_iload_5 (x_dk dn_90_0_1_ok 9 rfl))))
  (e_Tok2
  (e_Lok (ps_bipush_12 (x_dk dn_90_0_1_ok 10 rfl)))
  (e_Lok (e_st (I := eI) (er_icmpge (off := 47) (tg := 109) (x_dk dn_90_0_1_ok 11 rfl) (by decide)) nx_if2))))
  (e_Tok2
  (e_Tok2
  (e_Lok (ld_iload_n_3 (x_dk dn_90_0_1_ok 12 rfl)))
  (e_Lok (ld_iload_4 (x_dk dn_90_0_1_ok 13 rfl))))
  (e_Tok2
  (e_Lok (e_st (I := eI) (er_icmpge (off := 41) (tg := 109) (x_dk dn_90_0_1_ok 14 rfl) (by decide)) nx_if2))
  (e_Lok (ld_iload_n_3 (x_dk dn_90_0_1_ok 15 rfl))))))
  (e_Tok2
  (e_Tok2
  (e_Tok2
  (e_Lok (ld_iload_4 (x_dk dn_90_0_1_ok 16 rfl)))
  (e_Lok (sm_iadd (x_dk dn_90_0_1_ok 17 rfl))))
  (e_Tok2
  (e_Lok (ps_iconst_1 (x_dk dn_90_0_1_ok 18 rfl)))
  (e_Lok (sm_iadd (x_dk dn_90_0_1_ok 19 rfl)))))
  (e_Tok2
  (e_Tok2
  (e_Lok (ps_iconst_2 (x_dk dn_90_0_1_ok 20 rfl)))
  (e_Lok (e_st (I := eI) (er_idiv (x_dk dn_90_0_1_ok 21 rfl)) nx_bin)))
  (e_Tok2
  (e_Lok (e_st (I := eI) (er_istore (i := 6) (x_dk dn_90_0_1_ok 22 rfl) (by decide +kernel)) nx_stor))
  (e_Lok (ld_aload_n_0 (x_dk dn_90_0_1_ok 23 rfl)))))))
  (e_Tok2
  (e_Tok2
  (e_Tok2
  (e_Tok2
  (e_Lok (ld_iload_6 (x_dk dn_90_0_1_ok 24 rfl)))
  (e_Lok (lk_5_46 ho_90 (x_dk dn_90_0_2_ok 0 rfl))))
  (e_Tok2
  (e_Lok (ld_iload_n_2 (x_dk dn_90_0_2_ok 1 rfl)))
  (e_Lok (e_st (I := eI) (er_icmpgt (off := 9) (tg := 97) (x_dk dn_90_0_2_ok 2 rfl) (by decide)) nx_if2))))
  (e_Tok2
  (e_Tok2
  (e_Lok (ld_iload_6 (x_dk dn_90_0_2_ok 3 rfl)))
  (e_Lok (e_st (I := eI) (er_istore_n (i := 3) (x_dk dn_90_0_2_ok 4 rfl) (by decide +kernel)) nx_stor)))
  (e_Tok2
  (e_Lok (e_st (I := eI) (er_goto (off := 9) (tg := 103) (x_dk dn_90_0_2_ok 5 rfl) (by decide)) nx_goto))
  (e_Lok (ld_iload_6 (x_dk dn_90_0_2_ok 6 rfl))))))
  (e_Tok2
  (e_Tok2
  (e_Tok2
  (e_Lok (ps_iconst_1 (x_dk dn_90_0_2_ok 7 rfl)))
  (e_Lok (sm_isub (x_dk dn_90_0_2_ok 8 rfl))))
  (e_Tok2
  (e_Lok (e_st (I := eI) (er_istore (i := 4) (x_dk dn_90_0_2_ok 9 rfl) (by decide +kernel)) nx_stor))
  (e_Lok (e_st (I := eI) (er_iinc (i := 5) (n := 1) (x_dk dn_90_0_2_ok 10 rfl) (by decide +kernel) (by decide)) nx_inc))))
  (e_Tok2
  (e_Tok2
  (e_Lok (e_st (I := eI) (er_goto (off := (-48)) (tg := 58) (x_dk dn_90_0_2_ok 11 rfl) (by decide)) nx_goto))
  (e_Lok (ld_iload_n_3 (x_dk dn_90_0_2_ok 12 rfl))))
  (e_Tok2
  (e_Lok (ld_iload_n_1 (x_dk dn_90_0_2_ok 13 rfl)))
  (e_Tok2
  (e_Lok (sm_imul (x_dk dn_90_0_2_ok 14 rfl)))
  (e_Lok (e_rt (I := eI) (k := 1) ⟨(x_dk dn_90_0_2_ok 15 rfl), rfl⟩))))))))
def te_90 : Nat → eE := (e_T 55 te_90_0 te_90_33)
theorem te_90_ok : ∀ pc, e_EOq eft cls elay eI n_90 pc (te_90 pc) := (e_Tok2 (te_90_0_ok) (te_90_33_ok))
theorem ho_91 : (xm_y n_91).cls = "RobotCellHouse$Joint" := rfl
def dn_91_0_0 : List (Nat × Instr × Nat) := [(0, .aload_n 0, 1), (1, .getfield 31, 3), (4, .ifCond .le 17, 3), (7, .iconst 0, 1), (8, .aload_n 0, 1), (9, .getfield 31, 3), (12, .aload_n 0, 1), (13, .getfield 34, 3), (16, .isub, 1), (17, .invokestatic 43, 3), (20, .ireturn, 1), (21, .iconst 0, 1), (22, .aload_n 0, 1), (23, .getfield 31, 3), (26, .aload_n 0, 1), (27, .getfield 34, 3), (30, .iadd, 1), (31, .invokestatic 37, 3), (34, .ireturn, 1)]
set_option maxRecDepth 20000 in
theorem dn_91_0_0_ok : dn_91_0_0.all (fun q => decide (decode (xm_b n_91) q.1 = .ok (q.2.1, q.2.2))) = true := xa_g_ok (by decide +kernel)
def te_91_0 : Nat → eE := (e_T 16 (e_T 7 (e_T 1 (e_T 0 (e_L 0 (0, ei_load 0 2 1, 0, 0)) (e_L 1 (0, ei_getf eft elay 5 8 4, 0, 0))) (e_T 4 (e_L 4 (0, ei_if1 5 21 7, 0, 0)) (e_L 7 (0, ei_push (0, 0) 8, 0, 0)))) (e_T 9 (e_T 8 (e_L 8 (0, ei_load 0 2 9, 0, 0)) (e_L 9 (0, ei_getf eft elay 5 8 12, 0, 0))) (e_T 12 (e_L 12 (0, ei_load 0 2 13, 0, 0)) (e_T 13 (e_L 13 (0, ei_getf eft elay 5 6 16, 0, 0)) (e_L 16 (0, ei_bin eF_sub 17, 0, 0)))))) (e_T 23 (e_T 20 (e_T 17 (e_L 17 (0, ei_m2 eM_max 20, 0, 0)) (e_L 20 (1, e_nof, 1, 0))) (e_T 21 (e_L 21 (0, ei_push (0, 0) 22, 0, 0)) (e_T 22 (e_L 22 (0, ei_load 0 2 23, 0, 0)) (e_L 23 (0, ei_getf eft elay 5 8 26, 0, 0))))) (e_T 27 (e_T 26 (e_L 26 (0, ei_load 0 2 27, 0, 0)) (e_L 27 (0, ei_getf eft elay 5 6 30, 0, 0))) (e_T 30 (e_L 30 (0, ei_bin eF_add 31, 0, 0)) (e_T 31 (e_L 31 (0, ei_m2 eM_min 34, 0, 0)) (e_L 34 (1, e_nof, 1, 0)))))))
set_option maxRecDepth 20000 in
set_option maxHeartbeats 4000000 in
theorem te_91_0_ok : ∀ pc, e_EOq eft cls elay eI n_91 pc (te_91_0 pc) :=
  (e_Tok2
  (e_Tok2
  (e_Tok2
  (e_Tok2
  (e_Lok (ld_aload_n_0 (x_dk dn_91_0_0_ok 0 rfl)))
  (e_Lok (lk_5_31g ho_91 (x_dk dn_91_0_0_ok 1 rfl))))
  (e_Tok2
  (e_Lok (e_st (I := eI) (er_ifle (off := 17) (tg := 21) (x_dk dn_91_0_0_ok 2 rfl) (by decide)) nx_if1))
  (e_Lok (ps_iconst_0 (x_dk dn_91_0_0_ok 3 rfl)))))
  (e_Tok2
  (e_Tok2
  (e_Lok (ld_aload_n_0 (x_dk dn_91_0_0_ok 4 rfl)))
  (e_Lok (lk_5_31g ho_91 (x_dk dn_91_0_0_ok 5 rfl))))
  (e_Tok2
  (e_Lok (ld_aload_n_0 (x_dk dn_91_0_0_ok 6 rfl)))
  (e_Tok2
  (e_Lok (lk_5_34g ho_91 (x_dk dn_91_0_0_ok 7 rfl)))
  (e_Lok (sm_isub (x_dk dn_91_0_0_ok 8 rfl)))))))
  (e_Tok2
  (e_Tok2
  (e_Tok2
  (e_Lok (e_st (I := eI) (er_max (ix := 43) (in_t8 (List.mem_of_getElem? (i := 36) rfl) rfl) (in_t5 (List.mem_of_getElem? (i := 184) rfl) rfl) (in_t1 (List.mem_of_getElem? (i := 15) rfl) rfl) (in_t5 (List.mem_of_getElem? (i := 185) rfl) rfl) (x_dk dn_91_0_0_ok 9 rfl)) nx_m2))
  (e_Lok (e_rt (I := eI) (k := 1) ⟨(x_dk dn_91_0_0_ok 10 rfl), rfl⟩)))
  (e_Tok2
  (e_Lok (ps_iconst_0 (x_dk dn_91_0_0_ok 11 rfl)))
  (e_Tok2
  (e_Lok (ld_aload_n_0 (x_dk dn_91_0_0_ok 12 rfl)))
  (e_Lok (lk_5_31g ho_91 (x_dk dn_91_0_0_ok 13 rfl))))))
  (e_Tok2
  (e_Tok2
  (e_Lok (ld_aload_n_0 (x_dk dn_91_0_0_ok 14 rfl)))
  (e_Lok (lk_5_34g ho_91 (x_dk dn_91_0_0_ok 15 rfl))))
  (e_Tok2
  (e_Lok (sm_iadd (x_dk dn_91_0_0_ok 16 rfl)))
  (e_Tok2
  (e_Lok (e_st (I := eI) (er_min (ix := 37) (in_t8 (List.mem_of_getElem? (i := 37) rfl) rfl) (in_t5 (List.mem_of_getElem? (i := 187) rfl) rfl) (in_t1 (List.mem_of_getElem? (i := 15) rfl) rfl) (in_t5 (List.mem_of_getElem? (i := 188) rfl) rfl) (x_dk dn_91_0_0_ok 17 rfl)) nx_m2))
  (e_Lok (e_rt (I := eI) (k := 1) ⟨(x_dk dn_91_0_0_ok 18 rfl), rfl⟩)))))))
def te_91 : Nat → eE := te_91_0
theorem te_91_ok : ∀ pc, e_EOq eft cls elay eI n_91 pc (te_91 pc) := te_91_0_ok
theorem ho_92 : (xm_y n_92).cls = "RobotCellHouse$Joint" := rfl
def dn_92_0_0 : List (Nat × Instr × Nat) := [(0, .aload_n 0, 1), (1, .getfield 34, 3), (4, .iconst 1, 1), (5, .if_icmp .ge 5, 3), (8, .iload_n 1, 1), (9, .ireturn, 1), (10, .iload_n 1, 1), (11, .aload_n 0, 1), (12, .getfield 34, 3), (15, .iadd, 1), (16, .iconst 1, 1), (17, .isub, 1), (18, .aload_n 0, 1), (19, .getfield 34, 3), (22, .idiv, 1), (23, .istore_n 2, 1), (24, .iload_n 2, 1), (25, .iload_n 1, 1), (26, .imul, 1), (27, .aload_n 0, 1), (28, .getfield 34, 3), (31, .iload_n 2, 1), (32, .iload_n 2, 1), (33, .iconst 1, 1), (34, .isub, 1)]
set_option maxRecDepth 20000 in
theorem dn_92_0_0_ok : dn_92_0_0.all (fun q => decide (decode (xm_b n_92) q.1 = .ok (q.2.1, q.2.2))) = true := xa_g_ok (by decide +kernel)
def dn_92_0_1 : List (Nat × Instr × Nat) := [(35, .imul, 1), (36, .iconst 2, 1), (37, .idiv, 1), (38, .imul, 1), (39, .isub, 1), (40, .ireturn, 1)]
set_option maxRecDepth 20000 in
theorem dn_92_0_1_ok : dn_92_0_1.all (fun q => decide (decode (xm_b n_92) q.1 = .ok (q.2.1, q.2.2))) = true := xa_g_ok (by decide +kernel)
def te_92_0 : Nat → eE := (e_T 22 (e_T 10 (e_T 4 (e_T 0 (e_L 0 (0, ei_load 0 2 1, 0, 0)) (e_T 1 (e_L 1 (0, ei_getf eft elay 5 6 4, 0, 0)) (e_L 4 (0, ei_push (0, 1) 5, 0, 0)))) (e_T 8 (e_T 5 (e_L 5 (0, ei_if2 3 10 8, 0, 0)) (e_L 8 (0, ei_load 1 0 9, 0, 0))) (e_T 9 (e_L 9 (1, e_nof, 1, 0)) (e_L 10 (0, ei_load 1 0 11, 0, 0))))) (e_T 16 (e_T 12 (e_T 11 (e_L 11 (0, ei_load 0 2 12, 0, 0)) (e_L 12 (0, ei_getf eft elay 5 6 15, 0, 0))) (e_T 15 (e_L 15 (0, ei_bin eF_add 16, 0, 0)) (e_L 16 (0, ei_push (0, 1) 17, 0, 0)))) (e_T 18 (e_T 17 (e_L 17 (0, ei_bin eF_sub 18, 0, 0)) (e_L 18 (0, ei_load 0 2 19, 0, 0))) (e_T 19 (e_L 19 (0, ei_getf eft elay 5 6 22, 0, 0)) (e_L 22 (0, ei_bin eF_div 23, 0, 0)))))) (e_T 32 (e_T 26 (e_T 24 (e_T 23 (e_L 23 (0, ei_stor 2 0 24, 0, 0)) (e_L 24 (0, ei_load 2 0 25, 0, 0))) (e_T 25 (e_L 25 (0, ei_load 1 0 26, 0, 0)) (e_L 26 (0, ei_bin eF_mul 27, 0, 0)))) (e_T 28 (e_T 27 (e_L 27 (0, ei_load 0 2 28, 0, 0)) (e_L 28 (0, ei_getf eft elay 5 6 31, 0, 0))) (e_T 31 (e_L 31 (0, ei_load 2 0 32, 0, 0)) (e_L 32 (0, ei_load 2 0 33, 0, 0))))) (e_T 36 (e_T 34 (e_T 33 (e_L 33 (0, ei_push (0, 1) 34, 0, 0)) (e_L 34 (0, ei_bin eF_sub 35, 0, 0))) (e_T 35 (e_L 35 (0, ei_bin eF_mul 36, 0, 0)) (e_L 36 (0, ei_push (0, 2) 37, 0, 0)))) (e_T 38 (e_T 37 (e_L 37 (0, ei_bin eF_div 38, 0, 0)) (e_L 38 (0, ei_bin eF_mul 39, 0, 0))) (e_T 39 (e_L 39 (0, ei_bin eF_sub 40, 0, 0)) (e_L 40 (1, e_nof, 1, 0)))))))
set_option maxRecDepth 20000 in
set_option maxHeartbeats 4000000 in
theorem te_92_0_ok : ∀ pc, e_EOq eft cls elay eI n_92 pc (te_92_0 pc) :=
  (e_Tok2
  (e_Tok2
  (e_Tok2
  (e_Tok2
  (e_Lok (ld_aload_n_0 (x_dk dn_92_0_0_ok 0 rfl)))
  (e_Tok2
  (e_Lok (lk_5_34g ho_92 (x_dk dn_92_0_0_ok 1 rfl)))
  (e_Lok (ps_iconst_1 (x_dk dn_92_0_0_ok 2 rfl)))))
  (e_Tok2
  (e_Tok2
  (e_Lok (e_st (I := eI) (er_icmpge (off := 5) (tg := 10) (x_dk dn_92_0_0_ok 3 rfl) (by decide)) nx_if2))
  (e_Lok (ld_iload_n_1 (x_dk dn_92_0_0_ok 4 rfl))))
  (e_Tok2
  (e_Lok (e_rt (I := eI) (k := 1) ⟨(x_dk dn_92_0_0_ok 5 rfl), rfl⟩))
  (e_Lok (ld_iload_n_1 (x_dk dn_92_0_0_ok 6 rfl))))))
  (e_Tok2
  (e_Tok2
  (e_Tok2
  (e_Lok (ld_aload_n_0 (x_dk dn_92_0_0_ok 7 rfl)))
  (e_Lok (lk_5_34g ho_92 (x_dk dn_92_0_0_ok 8 rfl))))
  (e_Tok2
  (e_Lok (sm_iadd (x_dk dn_92_0_0_ok 9 rfl)))
  (e_Lok (ps_iconst_1 (x_dk dn_92_0_0_ok 10 rfl)))))
  (e_Tok2
  (e_Tok2
  (e_Lok (sm_isub (x_dk dn_92_0_0_ok 11 rfl)))
  (e_Lok (ld_aload_n_0 (x_dk dn_92_0_0_ok 12 rfl))))
  (e_Tok2
  (e_Lok (lk_5_34g ho_92 (x_dk dn_92_0_0_ok 13 rfl)))
  (e_Lok (e_st (I := eI) (er_idiv (x_dk dn_92_0_0_ok 14 rfl)) nx_bin))))))
  (e_Tok2
  (e_Tok2
  (e_Tok2
  (e_Tok2
  (e_Lok (e_st (I := eI) (er_istore_n (i := 2) (x_dk dn_92_0_0_ok 15 rfl) (by decide +kernel)) nx_stor))
  (e_Lok (ld_iload_n_2 (x_dk dn_92_0_0_ok 16 rfl))))
  (e_Tok2
  (e_Lok (ld_iload_n_1 (x_dk dn_92_0_0_ok 17 rfl)))
  (e_Lok (sm_imul (x_dk dn_92_0_0_ok 18 rfl)))))
  (e_Tok2
  (e_Tok2
  (e_Lok (ld_aload_n_0 (x_dk dn_92_0_0_ok 19 rfl)))
  (e_Lok (lk_5_34g ho_92 (x_dk dn_92_0_0_ok 20 rfl))))
  (e_Tok2
  (e_Lok (ld_iload_n_2 (x_dk dn_92_0_0_ok 21 rfl)))
  (e_Lok (ld_iload_n_2 (x_dk dn_92_0_0_ok 22 rfl))))))
  (e_Tok2
  (e_Tok2
  (e_Tok2
  (e_Lok (ps_iconst_1 (x_dk dn_92_0_0_ok 23 rfl)))
  (e_Lok (sm_isub (x_dk dn_92_0_0_ok 24 rfl))))
  (e_Tok2
  (e_Lok (sm_imul (x_dk dn_92_0_1_ok 0 rfl)))
  (e_Lok (ps_iconst_2 (x_dk dn_92_0_1_ok 1 rfl)))))
  (e_Tok2
  (e_Tok2
  (e_Lok (e_st (I := eI) (er_idiv (x_dk dn_92_0_1_ok 2 rfl)) nx_bin))
  (e_Lok (sm_imul (x_dk dn_92_0_1_ok 3 rfl))))
  (e_Tok2
  (e_Lok (sm_isub (x_dk dn_92_0_1_ok 4 rfl)))
  (e_Lok (e_rt (I := eI) (k := 1) ⟨(x_dk dn_92_0_1_ok 5 rfl), rfl⟩)))))))
def te_92 : Nat → eE := te_92_0
theorem te_92_ok : ∀ pc, e_EOq eft cls elay eI n_92 pc (te_92 pc) := te_92_0_ok
theorem ho_93 : (xm_y n_93).cls = "RobotCellHouse$Joint" := rfl
def dn_93_0_0 : List (Nat × Instr × Nat) := [(0, .aload_n 0, 1), (1, .getfield 22, 3), (4, .aload_n 0, 1), (5, .getfield 50, 3), (8, .isub, 1), (9, .invokestatic 53, 3), (12, .istore_n 1, 1), (13, .iconst 0, 1), (14, .istore_n 2, 1), (15, .iconst 0, 1), (16, .istore_n 3, 1), (17, .iload_n 2, 1), (18, .iload_n 1, 1), (19, .if_icmp .ge 36, 3), (22, .iload_n 3, 1), (23, .sipush 6000, 3), (26, .if_icmp .ge 29, 3), (29, .iinc 3 1, 3), (32, .iload_n 2, 1), (33, .aload_n 0, 1), (34, .getfield 28, 3), (37, .aload_n 0, 1), (38, .getfield 34, 3), (41, .iload_n 3, 1), (42, .iconst 1, 1)]
set_option maxRecDepth 20000 in
theorem dn_93_0_0_ok : dn_93_0_0.all (fun q => decide (decode (xm_b n_93) q.1 = .ok (q.2.1, q.2.2))) = true := xa_g_ok (by decide +kernel)
def dn_93_0_1 : List (Nat × Instr × Nat) := [(43, .iadd, 1), (44, .iconst 2, 1), (45, .idiv, 1), (46, .imul, 1), (47, .invokestatic 37, 3), (50, .iadd, 1), (51, .istore_n 2, 1), (52, .goto (-35), 3), (55, .iload_n 3, 1), (56, .ireturn, 1)]
set_option maxRecDepth 20000 in
theorem dn_93_0_1_ok : dn_93_0_1.all (fun q => decide (decode (xm_b n_93) q.1 = .ok (q.2.1, q.2.2))) = true := xa_g_ok (by decide +kernel)
def te_93_0 : Nat → eE := (e_T 26 (e_T 13 (e_T 5 (e_T 1 (e_T 0 (e_L 0 (0, ei_load 0 2 1, 0, 0)) (e_L 1 (0, ei_getf eft elay 5 9 4, 0, 0))) (e_T 4 (e_L 4 (0, ei_load 0 2 5, 0, 0)) (e_L 5 (0, ei_getf eft elay 5 10 8, 0, 0)))) (e_T 9 (e_T 8 (e_L 8 (0, ei_bin eF_sub 9, 0, 0)) (e_L 9 (0, ei_abs 12, 0, 0))) (e_T 12 (e_L 12 (0, ei_stor 1 0 13, 0, 0)) (e_L 13 (0, ei_push (0, 0) 14, 0, 0))))) (e_T 17 (e_T 15 (e_T 14 (e_L 14 (0, ei_stor 2 0 15, 0, 0)) (e_L 15 (0, ei_push (0, 0) 16, 0, 0))) (e_T 16 (e_L 16 (0, ei_stor 3 0 17, 0, 0)) (e_L 17 (0, ei_load 2 0 18, 0, 0)))) (e_T 19 (e_T 18 (e_L 18 (0, ei_load 1 0 19, 0, 0)) (e_L 19 (0, ei_if2 3 55 22, 0, 0))) (e_T 22 (e_L 22 (0, ei_load 3 0 23, 0, 0)) (e_T 23 (e_L 23 (0, ei_push (0, 6000) 26, 0, 0)) (e_L 26 (0, ei_if2 3 55 29, 0, 0))))))) (e_T 43 (e_T 34 (e_T 32 (e_T 29 (e_L 29 (0, ei_inc 3 1 32, 0, 0)) (e_L 32 (0, ei_load 2 0 33, 0, 0))) (e_T 33 (e_L 33 (0, ei_load 0 2 34, 0, 0)) (e_L 34 (0, ei_getf eft elay 5 5 37, 0, 0)))) (e_T 38 (e_T 37 (e_L 37 (0, ei_load 0 2 38, 0, 0)) (e_L 38 (0, ei_getf eft elay 5 6 41, 0, 0))) (e_T 41 (e_L 41 (0, ei_load 3 0 42, 0, 0)) (e_T 42 (e_L 42 (0, ei_push (0, 1) 43, 0, 0)) (e_L 43 (0, ei_bin eF_add 44, 0, 0)))))) (e_T 47 (e_T 45 (e_T 44 (e_L 44 (0, ei_push (0, 2) 45, 0, 0)) (e_L 45 (0, ei_bin eF_div 46, 0, 0))) (e_T 46 (e_L 46 (0, ei_bin eF_mul 47, 0, 0)) (e_L 47 (0, ei_m2 eM_min 50, 0, 0)))) (e_T 51 (e_T 50 (e_L 50 (0, ei_bin eF_add 51, 0, 0)) (e_L 51 (0, ei_stor 2 0 52, 0, 0))) (e_T 52 (e_L 52 (0, ei_goto 17, 0, 0)) (e_T 55 (e_L 55 (0, ei_load 3 0 56, 0, 0)) (e_L 56 (1, e_nof, 1, 0))))))))
set_option maxRecDepth 20000 in
set_option maxHeartbeats 4000000 in
theorem te_93_0_ok : ∀ pc, e_EOq eft cls elay eI n_93 pc (te_93_0 pc) :=
  (e_Tok2
  (e_Tok2
  (e_Tok2
  (e_Tok2
  (e_Tok2
  (e_Lok (ld_aload_n_0 (x_dk dn_93_0_0_ok 0 rfl)))
  (e_Lok (lk_5_22g ho_93 (x_dk dn_93_0_0_ok 1 rfl))))
  (e_Tok2
  (e_Lok (ld_aload_n_0 (x_dk dn_93_0_0_ok 2 rfl)))
  (e_Lok (lk_5_50g ho_93 (x_dk dn_93_0_0_ok 3 rfl)))))
  (e_Tok2
  (e_Tok2
  (e_Lok (sm_isub (x_dk dn_93_0_0_ok 4 rfl)))
  (e_Lok (e_st (I := eI) (er_abs (ix := 53) (in_t8 (List.mem_of_getElem? (i := 68) rfl) rfl) (in_t7 (List.mem_of_getElem? (i := 224) rfl) rfl) (in_t1 (List.mem_of_getElem? (i := 15) rfl) rfl) (in_t7 (List.mem_of_getElem? (i := 225) rfl) rfl) (x_dk dn_93_0_0_ok 5 rfl)) nx_abs)))
  (e_Tok2
  (e_Lok (e_st (I := eI) (er_istore_n (i := 1) (x_dk dn_93_0_0_ok 6 rfl) (by decide +kernel)) nx_stor))
  (e_Lok (ps_iconst_0 (x_dk dn_93_0_0_ok 7 rfl))))))
  (e_Tok2
  (e_Tok2
  (e_Tok2
  (e_Lok (e_st (I := eI) (er_istore_n (i := 2) (x_dk dn_93_0_0_ok 8 rfl) (by decide +kernel)) nx_stor))
  (e_Lok (ps_iconst_0 (x_dk dn_93_0_0_ok 9 rfl))))
  (e_Tok2
  (e_Lok (e_st (I := eI) (er_istore_n (i := 3) (x_dk dn_93_0_0_ok 10 rfl) (by decide +kernel)) nx_stor))
  (e_Lok (ld_iload_n_2 (x_dk dn_93_0_0_ok 11 rfl)))))
  (e_Tok2
  (e_Tok2
  (e_Lok (ld_iload_n_1 (x_dk dn_93_0_0_ok 12 rfl)))
  (e_Lok (e_st (I := eI) (er_icmpge (off := 36) (tg := 55) (x_dk dn_93_0_0_ok 13 rfl) (by decide)) nx_if2)))
  (e_Tok2
  (e_Lok (ld_iload_n_3 (x_dk dn_93_0_0_ok 14 rfl)))
  (e_Tok2
  (e_Lok (ps_sipush_6000 (x_dk dn_93_0_0_ok 15 rfl)))
  (e_Lok (e_st (I := eI) (er_icmpge (off := 29) (tg := 55) (x_dk dn_93_0_0_ok 16 rfl) (by decide)) nx_if2)))))))
  (e_Tok2
  (e_Tok2
  (e_Tok2
  (e_Tok2
  (e_Lok (e_st (I := eI) (er_iinc (i := 3) (n := 1) (x_dk dn_93_0_0_ok 17 rfl) (by decide +kernel) (by decide)) nx_inc))
  (e_Lok (ld_iload_n_2 (x_dk dn_93_0_0_ok 18 rfl))))
  (e_Tok2
  (e_Lok (ld_aload_n_0 (x_dk dn_93_0_0_ok 19 rfl)))
  (e_Lok (lk_5_28g ho_93 (x_dk dn_93_0_0_ok 20 rfl)))))
  (e_Tok2
  (e_Tok2
  (e_Lok (ld_aload_n_0 (x_dk dn_93_0_0_ok 21 rfl)))
  (e_Lok (lk_5_34g ho_93 (x_dk dn_93_0_0_ok 22 rfl))))
  (e_Tok2
  (e_Lok (ld_iload_n_3 (x_dk dn_93_0_0_ok 23 rfl)))
  (e_Tok2
  (e_Lok (ps_iconst_1 (x_dk dn_93_0_0_ok 24 rfl)))
  (e_Lok (sm_iadd (x_dk dn_93_0_1_ok 0 rfl)))))))
  (e_Tok2
  (e_Tok2
  (e_Tok2
  (e_Lok (ps_iconst_2 (x_dk dn_93_0_1_ok 1 rfl)))
  (e_Lok (e_st (I := eI) (er_idiv (x_dk dn_93_0_1_ok 2 rfl)) nx_bin)))
  (e_Tok2
  (e_Lok (sm_imul (x_dk dn_93_0_1_ok 3 rfl)))
  (e_Lok (e_st (I := eI) (er_min (ix := 37) (in_t8 (List.mem_of_getElem? (i := 37) rfl) rfl) (in_t5 (List.mem_of_getElem? (i := 187) rfl) rfl) (in_t1 (List.mem_of_getElem? (i := 15) rfl) rfl) (in_t5 (List.mem_of_getElem? (i := 188) rfl) rfl) (x_dk dn_93_0_1_ok 4 rfl)) nx_m2))))
  (e_Tok2
  (e_Tok2
  (e_Lok (sm_iadd (x_dk dn_93_0_1_ok 5 rfl)))
  (e_Lok (e_st (I := eI) (er_istore_n (i := 2) (x_dk dn_93_0_1_ok 6 rfl) (by decide +kernel)) nx_stor)))
  (e_Tok2
  (e_Lok (e_st (I := eI) (er_goto (off := (-35)) (tg := 17) (x_dk dn_93_0_1_ok 7 rfl) (by decide)) nx_goto))
  (e_Tok2
  (e_Lok (ld_iload_n_3 (x_dk dn_93_0_1_ok 8 rfl)))
  (e_Lok (e_rt (I := eI) (k := 1) ⟨(x_dk dn_93_0_1_ok 9 rfl), rfl⟩))))))))
def te_93 : Nat → eE := te_93_0
theorem te_93_ok : ∀ pc, e_EOq eft cls elay eI n_93 pc (te_93 pc) := te_93_0_ok
end
end
-- part 41ag
section
noncomputable section
theorem ho_94 : (xm_y n_94).cls = "RobotCellHouse$Joint" := rfl
def dn_94_0_0 : List (Nat × Instr × Nat) := [(0, .aload_n 0, 1), (1, .aload_n 0, 1), (2, .getfield 25, 3), (5, .invokevirtual 56, 3), (8, .ifCond .ne 5, 3), (11, .iconst 1, 1), (12, .ireturn, 1), (13, .iload_n 1, 1), (14, .ifCond .eq 40, 3), (17, .aload_n 0, 1), (18, .getfield 31, 3), (21, .invokestatic 53, 3), (24, .aload_n 0, 1), (25, .getfield 28, 3), (28, .if_icmp .gt 22, 3), (31, .aload_n 0, 1), (32, .getfield 31, 3), (35, .aload_n 0, 1), (36, .getfield 60, 3), (39, .isub, 1), (40, .invokestatic 53, 3), (43, .aload_n 0, 1), (44, .getfield 34, 3), (47, .if_icmp .le 7, 3), (50, .iconst 1, 1)]
set_option maxRecDepth 20000 in
theorem dn_94_0_0_ok : dn_94_0_0.all (fun q => decide (decode (xm_b n_94) q.1 = .ok (q.2.1, q.2.2))) = true := xa_g_ok (by decide +kernel)
def dn_94_0_1 : List (Nat × Instr × Nat) := [(51, .goto 4, 3), (54, .iconst 0, 1), (55, .ireturn, 1)]
set_option maxRecDepth 20000 in
theorem dn_94_0_1_ok : dn_94_0_1.all (fun q => decide (decode (xm_b n_94) q.1 = .ok (q.2.1, q.2.2))) = true := xa_g_ok (by decide +kernel)
def te_94_0 : Nat → eE := (e_T 25 (e_T 12 (e_T 2 (e_T 0 (e_L 0 (0, ei_load 0 2 1, 0, 0)) (e_T 1 (e_L 1 (0, ei_load 0 2 2, 0, 0)) (e_L 2 (0, ei_getf eft elay 5 7 5, 0, 0)))) (e_T 8 (e_T 5 (e_L 5 (2, e_nof, 89, 2)) (e_L 8 (0, ei_if1 1 13 11, 0, 0))) (e_T 11 (e_L 11 (0, ei_push (0, 1) 12, 0, 0)) (e_L 12 (1, e_nof, 4, 0))))) (e_T 17 (e_T 13 (e_L 13 (0, ei_load 1 0 14, 0, 0)) (e_T 14 (e_L 14 (0, ei_if1 0 54 17, 0, 0)) (e_L 17 (0, ei_load 0 2 18, 0, 0)))) (e_T 21 (e_T 18 (e_L 18 (0, ei_getf eft elay 5 8 21, 0, 0)) (e_L 21 (0, ei_abs 24, 0, 0))) (e_T 24 (e_L 24 (0, ei_load 0 2 25, 0, 0)) (e_L 25 (0, ei_getf eft elay 5 5 28, 0, 0)))))) (e_T 40 (e_T 32 (e_T 28 (e_L 28 (0, ei_if2 4 50 31, 0, 0)) (e_T 31 (e_L 31 (0, ei_load 0 2 32, 0, 0)) (e_L 32 (0, ei_getf eft elay 5 8 35, 0, 0)))) (e_T 36 (e_T 35 (e_L 35 (0, ei_load 0 2 36, 0, 0)) (e_L 36 (0, ei_getf eft elay 5 11 39, 0, 0))) (e_T 39 (e_L 39 (0, ei_bin eF_sub 40, 0, 0)) (e_L 40 (0, ei_abs 43, 0, 0))))) (e_T 47 (e_T 43 (e_L 43 (0, ei_load 0 2 44, 0, 0)) (e_T 44 (e_L 44 (0, ei_getf eft elay 5 6 47, 0, 0)) (e_L 47 (0, ei_if2 5 54 50, 0, 0)))) (e_T 51 (e_T 50 (e_L 50 (0, ei_push (0, 1) 51, 0, 0)) (e_L 51 (0, ei_goto 55, 0, 0))) (e_T 54 (e_L 54 (0, ei_push (0, 0) 55, 0, 0)) (e_L 55 (1, e_nof, 4, 0)))))))
set_option maxRecDepth 20000 in
set_option maxHeartbeats 4000000 in
theorem te_94_0_ok : ∀ pc, e_EOq eft cls elay eI n_94 pc (te_94_0 pc) :=
  (e_Tok2
  (e_Tok2
  (e_Tok2
  (e_Tok2
  (e_Lok (ld_aload_n_0 (x_dk dn_94_0_0_ok 0 rfl)))
  (e_Tok2
  (e_Lok (ld_aload_n_0 (x_dk dn_94_0_0_ok 1 rfl)))
  (e_Lok (lk_5_25g ho_94 (x_dk dn_94_0_0_ok 2 rfl)))))
  (e_Tok2
  (e_Tok2
  (e_Lok (lk_5_56 ho_94 (x_dk dn_94_0_0_ok 3 rfl)))
  (e_Lok (e_st (I := eI) (er_ifne (off := 5) (tg := 13) (x_dk dn_94_0_0_ok 4 rfl) (by decide)) nx_if1)))
  (e_Tok2
  (e_Lok (ps_iconst_1 (x_dk dn_94_0_0_ok 5 rfl)))
  (e_Lok (e_rt (I := eI) (k := 4) ⟨(x_dk dn_94_0_0_ok 6 rfl), rfl⟩)))))
  (e_Tok2
  (e_Tok2
  (e_Lok (ld_iload_n_1 (x_dk dn_94_0_0_ok 7 rfl)))
  (e_Tok2
  (e_Lok (e_st (I := eI) (er_ifeq (off := 40) (tg := 54) (x_dk dn_94_0_0_ok 8 rfl) (by decide)) nx_if1))
  (e_Lok (ld_aload_n_0 (x_dk dn_94_0_0_ok 9 rfl)))))
  (e_Tok2
  (e_Tok2
  (e_Lok (lk_5_31g ho_94 (x_dk dn_94_0_0_ok 10 rfl)))
  (e_Lok (e_st (I := eI) (er_abs (ix := 53) (in_t8 (List.mem_of_getElem? (i := 68) rfl) rfl) (in_t7 (List.mem_of_getElem? (i := 224) rfl) rfl) (in_t1 (List.mem_of_getElem? (i := 15) rfl) rfl) (in_t7 (List.mem_of_getElem? (i := 225) rfl) rfl) (x_dk dn_94_0_0_ok 11 rfl)) nx_abs)))
  (e_Tok2
  (e_Lok (ld_aload_n_0 (x_dk dn_94_0_0_ok 12 rfl)))
  (e_Lok (lk_5_28g ho_94 (x_dk dn_94_0_0_ok 13 rfl)))))))
  (e_Tok2
  (e_Tok2
  (e_Tok2
  (e_Lok (e_st (I := eI) (er_icmpgt (off := 22) (tg := 50) (x_dk dn_94_0_0_ok 14 rfl) (by decide)) nx_if2))
  (e_Tok2
  (e_Lok (ld_aload_n_0 (x_dk dn_94_0_0_ok 15 rfl)))
  (e_Lok (lk_5_31g ho_94 (x_dk dn_94_0_0_ok 16 rfl)))))
  (e_Tok2
  (e_Tok2
  (e_Lok (ld_aload_n_0 (x_dk dn_94_0_0_ok 17 rfl)))
  (e_Lok (lk_5_60g ho_94 (x_dk dn_94_0_0_ok 18 rfl))))
  (e_Tok2
  (e_Lok (sm_isub (x_dk dn_94_0_0_ok 19 rfl)))
  (e_Lok (e_st (I := eI) (er_abs (ix := 53) (in_t8 (List.mem_of_getElem? (i := 68) rfl) rfl) (in_t7 (List.mem_of_getElem? (i := 224) rfl) rfl) (in_t1 (List.mem_of_getElem? (i := 15) rfl) rfl) (in_t7 (List.mem_of_getElem? (i := 225) rfl) rfl) (x_dk dn_94_0_0_ok 20 rfl)) nx_abs)))))
  (e_Tok2
  (e_Tok2
  (e_Lok (ld_aload_n_0 (x_dk dn_94_0_0_ok 21 rfl)))
  (e_Tok2
  (e_Lok (lk_5_34g ho_94 (x_dk dn_94_0_0_ok 22 rfl)))
  (e_Lok (e_st (I := eI) (er_icmple (off := 7) (tg := 54) (x_dk dn_94_0_0_ok 23 rfl) (by decide)) nx_if2))))
  (e_Tok2
  (e_Tok2
  (e_Lok (ps_iconst_1 (x_dk dn_94_0_0_ok 24 rfl)))
  (e_Lok (e_st (I := eI) (er_goto (off := 4) (tg := 55) (x_dk dn_94_0_1_ok 0 rfl) (by decide)) nx_goto)))
  (e_Tok2
  (e_Lok (ps_iconst_0 (x_dk dn_94_0_1_ok 1 rfl)))
  (e_Lok (e_rt (I := eI) (k := 4) ⟨(x_dk dn_94_0_1_ok 2 rfl), rfl⟩)))))))
def te_94 : Nat → eE := te_94_0
theorem te_94_ok : ∀ pc, e_EOq eft cls elay eI n_94 pc (te_94 pc) := te_94_0_ok
theorem ho_95 : (xm_y n_95).cls = "RobotCellHouse$Planner" := rfl
def dn_95_0_0 : List (Nat × Instr × Nat) := [(0, .iload_n 1, 1), (1, .iconst 0, 1), (2, .bipush 59, 2), (4, .invokestatic 41, 3), (7, .ifCond .eq 12, 3), (10, .aload_n 0, 1), (11, .getfield 35, 3), (14, .iload_n 1, 1), (15, .iaload, 1), (16, .goto 4, 3), (19, .iconst 0, 1), (20, .ireturn, 1)]
set_option maxRecDepth 20000 in
theorem dn_95_0_0_ok : dn_95_0_0.all (fun q => decide (decode (xm_b n_95) q.1 = .ok (q.2.1, q.2.2))) = true := xa_g_ok (by decide +kernel)
def te_95_0 : Nat → eE := (e_T 10 (e_T 2 (e_T 0 (e_L 0 (0, ei_load 1 0 1, 0, 0)) (e_T 1 (e_L 1 (0, ei_push (0, 0) 2, 0, 0)) (e_L 2 (0, ei_push (0, 59) 4, 0, 0)))) (e_T 4 (e_L 4 (2, e_nof, 242, 3)) (e_T 7 (e_L 7 (0, ei_if1 0 19 10, 0, 0)) (e_L 10 (0, ei_load 0 2 11, 0, 0))))) (e_T 15 (e_T 11 (e_L 11 (0, ei_getf eft elay 6 11 14, 0, 0)) (e_T 14 (e_L 14 (0, ei_load 1 0 15, 0, 0)) (e_L 15 (0, ei_ald elay false 16, 0, 0)))) (e_T 16 (e_L 16 (0, ei_goto 20, 0, 0)) (e_T 19 (e_L 19 (0, ei_push (0, 0) 20, 0, 0)) (e_L 20 (1, e_nof, 1, 0))))))
set_option maxRecDepth 20000 in
set_option maxHeartbeats 4000000 in
theorem te_95_0_ok : ∀ pc, e_EOq eft cls elay eI n_95 pc (te_95_0 pc) :=
  (e_Tok2
  (e_Tok2
  (e_Tok2
  (e_Lok (ld_iload_n_1 (x_dk dn_95_0_0_ok 0 rfl)))
  (e_Tok2
  (e_Lok (ps_iconst_0 (x_dk dn_95_0_0_ok 1 rfl)))
  (e_Lok (ps_bipush_59 (x_dk dn_95_0_0_ok 2 rfl)))))
  (e_Tok2
  (e_Lok (lk_6_41 ho_95 (x_dk dn_95_0_0_ok 3 rfl)))
  (e_Tok2
  (e_Lok (e_st (I := eI) (er_ifeq (off := 12) (tg := 19) (x_dk dn_95_0_0_ok 4 rfl) (by decide)) nx_if1))
  (e_Lok (ld_aload_n_0 (x_dk dn_95_0_0_ok 5 rfl))))))
  (e_Tok2
  (e_Tok2
  (e_Lok (lk_6_35g ho_95 (x_dk dn_95_0_0_ok 6 rfl)))
  (e_Tok2
  (e_Lok (ld_iload_n_1 (x_dk dn_95_0_0_ok 7 rfl)))
  (e_Lok (sm_iaload (x_dk dn_95_0_0_ok 8 rfl)))))
  (e_Tok2
  (e_Lok (e_st (I := eI) (er_goto (off := 4) (tg := 20) (x_dk dn_95_0_0_ok 9 rfl) (by decide)) nx_goto))
  (e_Tok2
  (e_Lok (ps_iconst_0 (x_dk dn_95_0_0_ok 10 rfl)))
  (e_Lok (e_rt (I := eI) (k := 1) ⟨(x_dk dn_95_0_0_ok 11 rfl), rfl⟩))))))
def te_95 : Nat → eE := te_95_0
theorem te_95_ok : ∀ pc, e_EOq eft cls elay eI n_95 pc (te_95 pc) := te_95_0_ok
theorem ho_96 : (xm_y n_96).cls = "RobotCellHouse$Planner" := rfl
def dn_96_0_0 : List (Nat × Instr × Nat) := [(0, .iload_n 2, 1), (1, .iconst 0, 1), (2, .aload_n 0, 1), (3, .iload_n 1, 1), (4, .invokevirtual 45, 3), (7, .iconst 1, 1), (8, .isub, 1), (9, .invokestatic 41, 3), (12, .ifCond .eq 18, 3), (15, .aload_n 0, 1), (16, .getfield 31, 3), (19, .iload_n 1, 1), (20, .sipush 1000, 3), (23, .imul, 1), (24, .iload_n 2, 1), (25, .iadd, 1), (26, .baload, 1), (27, .goto 4, 3), (30, .iconst (-1), 1), (31, .ireturn, 1)]
set_option maxRecDepth 20000 in
theorem dn_96_0_0_ok : dn_96_0_0.all (fun q => decide (decode (xm_b n_96) q.1 = .ok (q.2.1, q.2.2))) = true := xa_g_ok (by decide +kernel)
def te_96_0 : Nat → eE := (e_T 15 (e_T 4 (e_T 1 (e_T 0 (e_L 0 (0, ei_load 2 0 1, 0, 0)) (e_L 1 (0, ei_push (0, 0) 2, 0, 0))) (e_T 2 (e_L 2 (0, ei_load 0 2 3, 0, 0)) (e_T 3 (e_L 3 (0, ei_load 1 0 4, 0, 0)) (e_L 4 (2, e_nof, 95, 2))))) (e_T 8 (e_T 7 (e_L 7 (0, ei_push (0, 1) 8, 0, 0)) (e_L 8 (0, ei_bin eF_sub 9, 0, 0))) (e_T 9 (e_L 9 (2, e_nof, 242, 3)) (e_T 12 (e_L 12 (0, ei_if1 0 30 15, 0, 0)) (e_L 15 (0, ei_load 0 2 16, 0, 0)))))) (e_T 24 (e_T 19 (e_T 16 (e_L 16 (0, ei_getf eft elay 6 10 19, 0, 0)) (e_L 19 (0, ei_load 1 0 20, 0, 0))) (e_T 20 (e_L 20 (0, ei_push (0, 1000) 23, 0, 0)) (e_T 23 (e_L 23 (0, ei_bin eF_mul 24, 0, 0)) (e_L 24 (0, ei_load 2 0 25, 0, 0))))) (e_T 26 (e_T 25 (e_L 25 (0, ei_bin eF_add 26, 0, 0)) (e_L 26 (0, ei_ald elay true 27, 0, 0))) (e_T 27 (e_L 27 (0, ei_goto 31, 0, 0)) (e_T 30 (e_L 30 (0, ei_push (0, (-1)) 31, 0, 0)) (e_L 31 (1, e_nof, 1, 0)))))))
set_option maxRecDepth 20000 in
set_option maxHeartbeats 4000000 in
theorem te_96_0_ok : ∀ pc, e_EOq eft cls elay eI n_96 pc (te_96_0 pc) :=
  (e_Tok2
  (e_Tok2
  (e_Tok2
  (e_Tok2
  (e_Lok (ld_iload_n_2 (x_dk dn_96_0_0_ok 0 rfl)))
  (e_Lok (ps_iconst_0 (x_dk dn_96_0_0_ok 1 rfl))))
  (e_Tok2
  (e_Lok (ld_aload_n_0 (x_dk dn_96_0_0_ok 2 rfl)))
  (e_Tok2
  (e_Lok (ld_iload_n_1 (x_dk dn_96_0_0_ok 3 rfl)))
  (e_Lok (lk_6_45 ho_96 (x_dk dn_96_0_0_ok 4 rfl))))))
  (e_Tok2
  (e_Tok2
  (e_Lok (ps_iconst_1 (x_dk dn_96_0_0_ok 5 rfl)))
  (e_Lok (sm_isub (x_dk dn_96_0_0_ok 6 rfl))))
  (e_Tok2
  (e_Lok (lk_6_41 ho_96 (x_dk dn_96_0_0_ok 7 rfl)))
  (e_Tok2
  (e_Lok (e_st (I := eI) (er_ifeq (off := 18) (tg := 30) (x_dk dn_96_0_0_ok 8 rfl) (by decide)) nx_if1))
  (e_Lok (ld_aload_n_0 (x_dk dn_96_0_0_ok 9 rfl)))))))
  (e_Tok2
  (e_Tok2
  (e_Tok2
  (e_Lok (lk_6_31g ho_96 (x_dk dn_96_0_0_ok 10 rfl)))
  (e_Lok (ld_iload_n_1 (x_dk dn_96_0_0_ok 11 rfl))))
  (e_Tok2
  (e_Lok (ps_sipush_1000 (x_dk dn_96_0_0_ok 12 rfl)))
  (e_Tok2
  (e_Lok (sm_imul (x_dk dn_96_0_0_ok 13 rfl)))
  (e_Lok (ld_iload_n_2 (x_dk dn_96_0_0_ok 14 rfl))))))
  (e_Tok2
  (e_Tok2
  (e_Lok (sm_iadd (x_dk dn_96_0_0_ok 15 rfl)))
  (e_Lok (e_st (I := eI) (er_baload (x_dk dn_96_0_0_ok 16 rfl)) nx_ald)))
  (e_Tok2
  (e_Lok (e_st (I := eI) (er_goto (off := 4) (tg := 31) (x_dk dn_96_0_0_ok 17 rfl) (by decide)) nx_goto))
  (e_Tok2
  (e_Lok (ps_iconst_m1 (x_dk dn_96_0_0_ok 18 rfl)))
  (e_Lok (e_rt (I := eI) (k := 1) ⟨(x_dk dn_96_0_0_ok 19 rfl), rfl⟩)))))))
def te_96 : Nat → eE := te_96_0
theorem te_96_ok : ∀ pc, e_EOq eft cls elay eI n_96 pc (te_96 pc) := te_96_0_ok
theorem ho_97 : (xm_y n_97).cls = "RobotCellHouse$Planner" := rfl
def dn_97_0_0 : List (Nat × Instr × Nat) := [(0, .aload_n 1, 1), (1, .iload_n 2, 1), (2, .putfield 49, 3), (5, .aload_n 1, 1), (6, .iconst 0, 1), (7, .putfield 55, 3), (10, .aload_n 0, 1), (11, .iload_n 2, 1), (12, .invokevirtual 45, 3), (15, .ireturn, 1)]
set_option maxRecDepth 20000 in
theorem dn_97_0_0_ok : dn_97_0_0.all (fun q => decide (decode (xm_b n_97) q.1 = .ok (q.2.1, q.2.2))) = true := xa_g_ok (by decide +kernel)
def te_97_0 : Nat → eE := (e_T 6 (e_T 1 (e_T 0 (e_L 0 (0, ei_load 1 2 1, 0, 0)) (e_L 1 (0, ei_load 2 0 2, 0, 0))) (e_T 2 (e_L 2 (0, ei_putf eft elay 0 17 0 5, 0, 0)) (e_T 5 (e_L 5 (0, ei_load 1 2 6, 0, 0)) (e_L 6 (0, ei_push (0, 0) 7, 0, 0))))) (e_T 10 (e_T 7 (e_L 7 (0, ei_putf eft elay 0 19 0 10, 0, 0)) (e_L 10 (0, ei_load 0 2 11, 0, 0))) (e_T 11 (e_L 11 (0, ei_load 2 0 12, 0, 0)) (e_T 12 (e_L 12 (2, e_nof, 95, 2)) (e_L 15 (1, e_nof, 1, 0))))))
set_option maxRecDepth 20000 in
set_option maxHeartbeats 4000000 in
theorem te_97_0_ok : ∀ pc, e_EOq eft cls elay eI n_97 pc (te_97_0 pc) :=
  (e_Tok2
  (e_Tok2
  (e_Tok2
  (e_Lok (ld_aload_n_1 (x_dk dn_97_0_0_ok 0 rfl)))
  (e_Lok (ld_iload_n_2 (x_dk dn_97_0_0_ok 1 rfl))))
  (e_Tok2
  (e_Lok (lk_6_49p ho_97 (x_dk dn_97_0_0_ok 2 rfl)))
  (e_Tok2
  (e_Lok (ld_aload_n_1 (x_dk dn_97_0_0_ok 3 rfl)))
  (e_Lok (ps_iconst_0 (x_dk dn_97_0_0_ok 4 rfl))))))
  (e_Tok2
  (e_Tok2
  (e_Lok (lk_6_55p ho_97 (x_dk dn_97_0_0_ok 5 rfl)))
  (e_Lok (ld_aload_n_0 (x_dk dn_97_0_0_ok 6 rfl))))
  (e_Tok2
  (e_Lok (ld_iload_n_2 (x_dk dn_97_0_0_ok 7 rfl)))
  (e_Tok2
  (e_Lok (lk_6_45 ho_97 (x_dk dn_97_0_0_ok 8 rfl)))
  (e_Lok (e_rt (I := eI) (k := 1) ⟨(x_dk dn_97_0_0_ok 9 rfl), rfl⟩))))))
def te_97 : Nat → eE := te_97_0
theorem te_97_ok : ∀ pc, e_EOq eft cls elay eI n_97 pc (te_97 pc) := te_97_0_ok
theorem ho_98 : (xm_y n_98).cls = "RobotCellHouse$Planner" := rfl
def dn_98_0_0 : List (Nat × Instr × Nat) := [(0, .iload_n 2, 1), (1, .iconst 1, 1), (2, .if_icmp .ge 5, 3), (5, .iconst 0, 1), (6, .ireturn, 1), (7, .aload_n 0, 1), (8, .iload_n 2, 1), (9, .putfield 58, 3), (12, .aload_n 0, 1), (13, .iload_n 3, 1), (14, .putfield 61, 3), (17, .aload_n 0, 1), (18, .iconst 0, 1), (19, .putfield 64, 3), (22, .iconst 1, 1), (23, .istore 4, 2), (25, .iconst 0, 1), (26, .istore 5, 2), (28, .iload 5, 2), (30, .aload_n 1, 1), (31, .getfield 67, 3), (34, .if_icmp .ge 130, 3), (37, .aload_n 1, 1), (38, .getfield 70, 3), (41, .iload 5, 2)]
set_option maxRecDepth 20000 in
theorem dn_98_0_0_ok : dn_98_0_0.all (fun q => decide (decode (xm_b n_98) q.1 = .ok (q.2.1, q.2.2))) = true := xa_g_ok (by decide +kernel)
def dn_98_0_1 : List (Nat × Instr × Nat) := [(43, .aaload, 1), (44, .astore 6, 2), (46, .aload_n 0, 1), (47, .getfield 9, 3), (50, .iload 5, 2), (52, .aload 6, 2), (54, .getfield 74, 3), (57, .iastore, 1), (58, .aload_n 0, 1), (59, .getfield 15, 3), (62, .iload 5, 2), (64, .aload 6, 2), (66, .getfield 74, 3), (69, .aload 6, 2), (71, .getfield 79, 3), (74, .isub, 1), (75, .iload_n 2, 1), (76, .idiv, 1), (77, .iastore, 1), (78, .aload_n 0, 1), (79, .getfield 18, 3), (82, .iload 5, 2), (84, .aload_n 0, 1), (85, .getfield 15, 3), (88, .iload 5, 2)]
set_option maxRecDepth 20000 in
theorem dn_98_0_1_ok : dn_98_0_1.all (fun q => decide (decode (xm_b n_98) q.1 = .ok (q.2.1, q.2.2))) = true := xa_g_ok (by decide +kernel)
def dn_98_0_2 : List (Nat × Instr × Nat) := [(90, .iaload, 1), (91, .aload 6, 2), (93, .getfield 82, 3), (96, .aload 6, 2), (98, .getfield 74, 3), (101, .isub, 1), (102, .iload_n 2, 1), (103, .idiv, 1), (104, .iadd, 1), (105, .iconst 1, 1), (106, .iadd, 1), (107, .iastore, 1), (108, .aload_n 0, 1), (109, .getfield 21, 3), (112, .iload 5, 2), (114, .iload 4, 2), (116, .iastore, 1), (117, .aload_n 0, 1), (118, .dup, 1), (119, .getfield 64, 3), (122, .aload_n 0, 1), (123, .getfield 15, 3), (126, .iload 5, 2), (128, .iaload, 1), (129, .iload 4, 2)]
set_option maxRecDepth 20000 in
theorem dn_98_0_2_ok : dn_98_0_2.all (fun q => decide (decode (xm_b n_98) q.1 = .ok (q.2.1, q.2.2))) = true := xa_g_ok (by decide +kernel)
def dn_98_0_3 : List (Nat × Instr × Nat) := [(131, .imul, 1), (132, .iadd, 1), (133, .putfield 64, 3), (136, .iload 4, 2), (138, .aload_n 0, 1), (139, .getfield 18, 3), (142, .iload 5, 2), (144, .iaload, 1), (145, .imul, 1), (146, .istore 4, 2), (148, .iload 4, 2), (150, .sipush 1000, 3), (153, .if_icmp .le 5, 3), (156, .iconst 0, 1), (157, .ireturn, 1), (158, .iinc 5 1, 3), (161, .goto (-133), 3), (164, .iconst 1, 1), (165, .ireturn, 1)]
set_option maxRecDepth 20000 in
theorem dn_98_0_3_ok : dn_98_0_3.all (fun q => decide (decode (xm_b n_98) q.1 = .ok (q.2.1, q.2.2))) = true := xa_g_ok (by decide +kernel)
def te_98_0 : Nat → eE := (e_T 14 (e_T 6 (e_T 1 (e_T 0 (e_L 0 (0, ei_load 2 0 1, 0, 0)) (e_L 1 (0, ei_push (0, 1) 2, 0, 0))) (e_T 2 (e_L 2 (0, ei_if2 3 7 5, 0, 0)) (e_T 5 (e_L 5 (0, ei_push (0, 0) 6, 0, 0)) (e_L 6 (1, e_nof, 4, 0))))) (e_T 9 (e_T 7 (e_L 7 (0, ei_load 0 2 8, 0, 0)) (e_T 8 (e_L 8 (0, ei_load 2 0 9, 0, 0)) (e_L 9 (0, ei_putf eft elay 6 1 0 12, 0, 0)))) (e_T 12 (e_L 12 (0, ei_load 0 2 13, 0, 0)) (e_T 13 (e_L 13 (0, ei_load 3 0 14, 0, 0)) (e_L 14 (0, ei_putf eft elay 6 2 0 17, 0, 0)))))) (e_T 25 (e_T 19 (e_T 17 (e_L 17 (0, ei_load 0 2 18, 0, 0)) (e_T 18 (e_L 18 (0, ei_push (0, 0) 19, 0, 0)) (e_L 19 (0, ei_putf eft elay 6 3 0 22, 0, 0)))) (e_T 22 (e_L 22 (0, ei_push (0, 1) 23, 0, 0)) (e_T 23 (e_L 23 (0, ei_stor 4 0 25, 0, 0)) (e_L 25 (0, ei_push (0, 0) 26, 0, 0))))) (e_T 30 (e_T 26 (e_L 26 (0, ei_stor 5 0 28, 0, 0)) (e_T 28 (e_L 28 (0, ei_load 5 0 30, 0, 0)) (e_L 30 (0, ei_load 1 2 31, 0, 0)))) (e_T 31 (e_L 31 (0, ei_getf eft elay 0 8 34, 0, 0)) (e_T 34 (e_L 34 (0, ei_if2 3 164 37, 0, 0)) (e_L 37 (0, ei_load 1 2 38, 0, 0)))))))
set_option maxRecDepth 20000 in
set_option maxHeartbeats 4000000 in
theorem te_98_0_ok : ∀ pc, e_EOq eft cls elay eI n_98 pc (te_98_0 pc) :=
  (e_Tok2
  (e_Tok2
  (e_Tok2
  (e_Tok2
  (e_Lok (ld_iload_n_2 (x_dk dn_98_0_0_ok 0 rfl)))
  (e_Lok (ps_iconst_1 (x_dk dn_98_0_0_ok 1 rfl))))
  (e_Tok2
  (e_Lok (e_st (I := eI) (er_icmpge (off := 5) (tg := 7) (x_dk dn_98_0_0_ok 2 rfl) (by decide)) nx_if2))
  (e_Tok2
  (e_Lok (ps_iconst_0 (x_dk dn_98_0_0_ok 3 rfl)))
  (e_Lok (e_rt (I := eI) (k := 4) ⟨(x_dk dn_98_0_0_ok 4 rfl), rfl⟩)))))
  (e_Tok2
  (e_Tok2
  (e_Lok (ld_aload_n_0 (x_dk dn_98_0_0_ok 5 rfl)))
  (e_Tok2
  (e_Lok (ld_iload_n_2 (x_dk dn_98_0_0_ok 6 rfl)))
  (e_Lok (lk_6_58p ho_98 (x_dk dn_98_0_0_ok 7 rfl)))))
  (e_Tok2
  (e_Lok (ld_aload_n_0 (x_dk dn_98_0_0_ok 8 rfl)))
  (e_Tok2
  (e_Lok (ld_iload_n_3 (x_dk dn_98_0_0_ok 9 rfl)))
  (e_Lok (lk_6_61p ho_98 (x_dk dn_98_0_0_ok 10 rfl)))))))
  (e_Tok2
  (e_Tok2
  (e_Tok2
  (e_Lok (ld_aload_n_0 (x_dk dn_98_0_0_ok 11 rfl)))
  (e_Tok2
  (e_Lok (ps_iconst_0 (x_dk dn_98_0_0_ok 12 rfl)))
  (e_Lok (lk_6_64p ho_98 (x_dk dn_98_0_0_ok 13 rfl)))))
  (e_Tok2
  (e_Lok (ps_iconst_1 (x_dk dn_98_0_0_ok 14 rfl)))
  (e_Tok2
  (e_Lok (e_st (I := eI) (er_istore (i := 4) (x_dk dn_98_0_0_ok 15 rfl) (by decide +kernel)) nx_stor))
  (e_Lok (ps_iconst_0 (x_dk dn_98_0_0_ok 16 rfl))))))
  (e_Tok2
  (e_Tok2
  (e_Lok (e_st (I := eI) (er_istore (i := 5) (x_dk dn_98_0_0_ok 17 rfl) (by decide +kernel)) nx_stor))
  (e_Tok2
  (e_Lok (ld_iload_5 (x_dk dn_98_0_0_ok 18 rfl)))
  (e_Lok (ld_aload_n_1 (x_dk dn_98_0_0_ok 19 rfl)))))
  (e_Tok2
  (e_Lok (lk_6_67g ho_98 (x_dk dn_98_0_0_ok 20 rfl)))
  (e_Tok2
  (e_Lok (e_st (I := eI) (er_icmpge (off := 130) (tg := 164) (x_dk dn_98_0_0_ok 21 rfl) (by decide)) nx_if2))
  (e_Lok (ld_aload_n_1 (x_dk dn_98_0_0_ok 22 rfl))))))))
def te_98_23 : Nat → eE := (e_T 59 (e_T 47 (e_T 43 (e_T 38 (e_L 38 (0, ei_getf eft elay 0 0 41, 0, 0)) (e_T 41 (e_L 41 (0, ei_load 5 0 43, 0, 0)) (e_L 43 (0, ei_aald elay 44, 0, 0)))) (e_T 44 (e_L 44 (0, ei_stor 6 2 46, 0, 0)) (e_T 46 (e_L 46 (0, ei_load 0 2 47, 0, 0)) (e_L 47 (0, ei_getf eft elay 6 4 50, 0, 0))))) (e_T 54 (e_T 50 (e_L 50 (0, ei_load 5 0 52, 0, 0)) (e_T 52 (e_L 52 (0, ei_load 6 2 54, 0, 0)) (e_L 54 (0, ei_getf eft elay 5 7 57, 0, 0)))) (e_T 57 (e_L 57 (0, ei_ast elay false 58, 0, 0)) (e_T 58 (e_L 58 (0, ei_load 0 2 59, 0, 0)) (e_L 59 (0, ei_getf eft elay 6 5 62, 0, 0)))))) (e_T 74 (e_T 66 (e_T 62 (e_L 62 (0, ei_load 5 0 64, 0, 0)) (e_T 64 (e_L 64 (0, ei_load 6 2 66, 0, 0)) (e_L 66 (0, ei_getf eft elay 5 7 69, 0, 0)))) (e_T 69 (e_L 69 (0, ei_load 6 2 71, 0, 0)) (e_T 71 (e_L 71 (0, ei_getf eft elay 5 1 74, 0, 0)) (e_L 74 (0, ei_bin eF_sub 75, 0, 0))))) (e_T 77 (e_T 75 (e_L 75 (0, ei_load 2 0 76, 0, 0)) (e_T 76 (e_L 76 (0, ei_bin eF_div 77, 0, 0)) (e_L 77 (0, ei_ast elay false 78, 0, 0)))) (e_T 78 (e_L 78 (0, ei_load 0 2 79, 0, 0)) (e_T 79 (e_L 79 (0, ei_getf eft elay 6 6 82, 0, 0)) (e_L 82 (0, ei_load 5 0 84, 0, 0)))))))
set_option maxRecDepth 20000 in
set_option maxHeartbeats 4000000 in
theorem te_98_23_ok : ∀ pc, e_EOq eft cls elay eI n_98 pc (te_98_23 pc) :=
  (e_Tok2
  (e_Tok2
  (e_Tok2
  (e_Tok2
  (e_Lok (lk_6_70g ho_98 (x_dk dn_98_0_0_ok 23 rfl)))
  (e_Tok2
  (e_Lok (ld_iload_5 (x_dk dn_98_0_0_ok 24 rfl)))
  (e_Lok (e_st (I := eI) (er_aaload (x_dk dn_98_0_1_ok 0 rfl)) nx_aald))))
  (e_Tok2
  (e_Lok (e_st (I := eI) (er_astore (i := 6) (x_dk dn_98_0_1_ok 1 rfl) (by decide +kernel)) nx_stor))
  (e_Tok2
  (e_Lok (ld_aload_n_0 (x_dk dn_98_0_1_ok 2 rfl)))
  (e_Lok (lk_6_9g ho_98 (x_dk dn_98_0_1_ok 3 rfl))))))
  (e_Tok2
  (e_Tok2
  (e_Lok (ld_iload_5 (x_dk dn_98_0_1_ok 4 rfl)))
  (e_Tok2
  (e_Lok (ld_aload_6 (x_dk dn_98_0_1_ok 5 rfl)))
  (e_Lok (lk_6_74g ho_98 (x_dk dn_98_0_1_ok 6 rfl)))))
  (e_Tok2
  (e_Lok (sm_iastore (x_dk dn_98_0_1_ok 7 rfl)))
  (e_Tok2
  (e_Lok (ld_aload_n_0 (x_dk dn_98_0_1_ok 8 rfl)))
  (e_Lok (lk_6_15g ho_98 (x_dk dn_98_0_1_ok 9 rfl)))))))
  (e_Tok2
  (e_Tok2
  (e_Tok2
  (e_Lok (ld_iload_5 (x_dk dn_98_0_1_ok 10 rfl)))
  (e_Tok2
  (e_Lok (ld_aload_6 (x_dk dn_98_0_1_ok 11 rfl)))
  (e_Lok (lk_6_74g ho_98 (x_dk dn_98_0_1_ok 12 rfl)))))
  (e_Tok2
  (e_Lok (ld_aload_6 (x_dk dn_98_0_1_ok 13 rfl)))
  (e_Tok2
  (e_Lok (lk_6_79g ho_98 (x_dk dn_98_0_1_ok 14 rfl)))
  (e_Lok (sm_isub (x_dk dn_98_0_1_ok 15 rfl))))))
  (e_Tok2
  (e_Tok2
  (e_Lok (ld_iload_n_2 (x_dk dn_98_0_1_ok 16 rfl)))
  (e_Tok2
  (e_Lok (e_st (I := eI) (er_idiv (x_dk dn_98_0_1_ok 17 rfl)) nx_bin))
  (e_Lok (sm_iastore (x_dk dn_98_0_1_ok 18 rfl)))))
  (e_Tok2
  (e_Lok (ld_aload_n_0 (x_dk dn_98_0_1_ok 19 rfl)))
  (e_Tok2
  (e_Lok (lk_6_18g ho_98 (x_dk dn_98_0_1_ok 20 rfl)))
  (e_Lok (ld_iload_5 (x_dk dn_98_0_1_ok 21 rfl))))))))
def te_98_47 : Nat → eE := (e_T 103 (e_T 91 (e_T 85 (e_T 84 (e_L 84 (0, ei_load 0 2 85, 0, 0)) (e_L 85 (0, ei_getf eft elay 6 5 88, 0, 0))) (e_T 88 (e_L 88 (0, ei_load 5 0 90, 0, 0)) (e_T 90 (e_L 90 (0, ei_ald elay false 91, 0, 0)) (e_L 91 (0, ei_load 6 2 93, 0, 0))))) (e_T 98 (e_T 93 (e_L 93 (0, ei_getf eft elay 5 2 96, 0, 0)) (e_T 96 (e_L 96 (0, ei_load 6 2 98, 0, 0)) (e_L 98 (0, ei_getf eft elay 5 7 101, 0, 0)))) (e_T 101 (e_L 101 (0, ei_bin eF_sub 102, 0, 0)) (e_T 102 (e_L 102 (0, ei_load 2 0 103, 0, 0)) (e_L 103 (0, ei_bin eF_div 104, 0, 0)))))) (e_T 109 (e_T 106 (e_T 104 (e_L 104 (0, ei_bin eF_add 105, 0, 0)) (e_T 105 (e_L 105 (0, ei_push (0, 1) 106, 0, 0)) (e_L 106 (0, ei_bin eF_add 107, 0, 0)))) (e_T 107 (e_L 107 (0, ei_ast elay false 108, 0, 0)) (e_T 108 (e_L 108 (0, ei_load 0 2 109, 0, 0)) (e_L 109 (0, ei_getf eft elay 6 7 112, 0, 0))))) (e_T 116 (e_T 112 (e_L 112 (0, ei_load 5 0 114, 0, 0)) (e_T 114 (e_L 114 (0, ei_load 4 0 116, 0, 0)) (e_L 116 (0, ei_ast elay false 117, 0, 0)))) (e_T 117 (e_L 117 (0, ei_load 0 2 118, 0, 0)) (e_T 118 (e_L 118 (0, ei_stk ef_dup 119, 0, 0)) (e_L 119 (0, ei_getf eft elay 6 3 122, 0, 0)))))))
set_option maxRecDepth 20000 in
set_option maxHeartbeats 4000000 in
theorem te_98_47_ok : ∀ pc, e_EOq eft cls elay eI n_98 pc (te_98_47 pc) :=
  (e_Tok2
  (e_Tok2
  (e_Tok2
  (e_Tok2
  (e_Lok (ld_aload_n_0 (x_dk dn_98_0_1_ok 22 rfl)))
  (e_Lok (lk_6_15g ho_98 (x_dk dn_98_0_1_ok 23 rfl))))
  (e_Tok2
  (e_Lok (ld_iload_5 (x_dk dn_98_0_1_ok 24 rfl)))
  (e_Tok2
  (e_Lok (sm_iaload (x_dk dn_98_0_2_ok 0 rfl)))
  (e_Lok (ld_aload_6 (x_dk dn_98_0_2_ok 1 rfl))))))
  (e_Tok2
  (e_Tok2
  (e_Lok (lk_6_82g ho_98 (x_dk dn_98_0_2_ok 2 rfl)))
  (e_Tok2
  (e_Lok (ld_aload_6 (x_dk dn_98_0_2_ok 3 rfl)))
  (e_Lok (lk_6_74g ho_98 (x_dk dn_98_0_2_ok 4 rfl)))))
  (e_Tok2
  (e_Lok (sm_isub (x_dk dn_98_0_2_ok 5 rfl)))
  (e_Tok2
  (e_Lok (ld_iload_n_2 (x_dk dn_98_0_2_ok 6 rfl)))
  (e_Lok (e_st (I := eI) (er_idiv (x_dk dn_98_0_2_ok 7 rfl)) nx_bin))))))
  (e_Tok2
  (e_Tok2
  (e_Tok2
  (e_Lok (sm_iadd (x_dk dn_98_0_2_ok 8 rfl)))
  (e_Tok2
  (e_Lok (ps_iconst_1 (x_dk dn_98_0_2_ok 9 rfl)))
  (e_Lok (sm_iadd (x_dk dn_98_0_2_ok 10 rfl)))))
  (e_Tok2
  (e_Lok (sm_iastore (x_dk dn_98_0_2_ok 11 rfl)))
  (e_Tok2
  (e_Lok (ld_aload_n_0 (x_dk dn_98_0_2_ok 12 rfl)))
  (e_Lok (lk_6_21g ho_98 (x_dk dn_98_0_2_ok 13 rfl))))))
  (e_Tok2
  (e_Tok2
  (e_Lok (ld_iload_5 (x_dk dn_98_0_2_ok 14 rfl)))
  (e_Tok2
  (e_Lok (ld_iload_4 (x_dk dn_98_0_2_ok 15 rfl)))
  (e_Lok (sm_iastore (x_dk dn_98_0_2_ok 16 rfl)))))
  (e_Tok2
  (e_Lok (ld_aload_n_0 (x_dk dn_98_0_2_ok 17 rfl)))
  (e_Tok2
  (e_Lok (e_st (I := eI) (er_dup (x_dk dn_98_0_2_ok 18 rfl)) (nx_stk bf_dup)))
  (e_Lok (lk_6_64g ho_98 (x_dk dn_98_0_2_ok 19 rfl))))))))
def te_98_70 : Nat → eE := (e_T 142 (e_T 131 (e_T 126 (e_T 122 (e_L 122 (0, ei_load 0 2 123, 0, 0)) (e_T 123 (e_L 123 (0, ei_getf eft elay 6 5 126, 0, 0)) (e_L 126 (0, ei_load 5 0 128, 0, 0)))) (e_T 128 (e_L 128 (0, ei_ald elay false 129, 0, 0)) (e_T 129 (e_L 129 (0, ei_load 4 0 131, 0, 0)) (e_L 131 (0, ei_bin eF_mul 132, 0, 0))))) (e_T 136 (e_T 132 (e_L 132 (0, ei_bin eF_add 133, 0, 0)) (e_T 133 (e_L 133 (0, ei_putf eft elay 6 3 0 136, 0, 0)) (e_L 136 (0, ei_load 4 0 138, 0, 0)))) (e_T 138 (e_L 138 (0, ei_load 0 2 139, 0, 0)) (e_T 139 (e_L 139 (0, ei_getf eft elay 6 6 142, 0, 0)) (e_L 142 (0, ei_load 5 0 144, 0, 0)))))) (e_T 153 (e_T 146 (e_T 144 (e_L 144 (0, ei_ald elay false 145, 0, 0)) (e_T 145 (e_L 145 (0, ei_bin eF_mul 146, 0, 0)) (e_L 146 (0, ei_stor 4 0 148, 0, 0)))) (e_T 148 (e_L 148 (0, ei_load 4 0 150, 0, 0)) (e_T 150 (e_L 150 (0, ei_push (0, 1000) 153, 0, 0)) (e_L 153 (0, ei_if2 5 158 156, 0, 0))))) (e_T 158 (e_T 156 (e_L 156 (0, ei_push (0, 0) 157, 0, 0)) (e_T 157 (e_L 157 (1, e_nof, 4, 0)) (e_L 158 (0, ei_inc 5 1 161, 0, 0)))) (e_T 161 (e_L 161 (0, ei_goto 28, 0, 0)) (e_T 164 (e_L 164 (0, ei_push (0, 1) 165, 0, 0)) (e_L 165 (1, e_nof, 4, 0)))))))
set_option maxRecDepth 20000 in
set_option maxHeartbeats 4000000 in
theorem te_98_70_ok : ∀ pc, e_EOq eft cls elay eI n_98 pc (te_98_70 pc) :=
  (e_Tok2
  (e_Tok2
  (e_Tok2
  (e_Tok2
  (e_Lok (ld_aload_n_0 (x_dk dn_98_0_2_ok 20 rfl)))
  (e_Tok2
  (e_Lok (lk_6_15g ho_98 (x_dk dn_98_0_2_ok 21 rfl)))
  (e_Lok (ld_iload_5 (x_dk dn_98_0_2_ok 22 rfl)))))
  (e_Tok2
  (e_Lok (sm_iaload (x_dk dn_98_0_2_ok 23 rfl)))
  (e_Tok2
  (e_Lok (ld_iload_4 (x_dk dn_98_0_2_ok 24 rfl)))
  (e_Lok (sm_imul (x_dk dn_98_0_3_ok 0 rfl))))))
  (e_Tok2
  (e_Tok2
  (e_Lok (sm_iadd (x_dk dn_98_0_3_ok 1 rfl)))
  (e_Tok2
  (e_Lok (lk_6_64p ho_98 (x_dk dn_98_0_3_ok 2 rfl)))
  (e_Lok (ld_iload_4 (x_dk dn_98_0_3_ok 3 rfl)))))
  (e_Tok2
  (e_Lok (ld_aload_n_0 (x_dk dn_98_0_3_ok 4 rfl)))
  (e_Tok2
  (e_Lok (lk_6_18g ho_98 (x_dk dn_98_0_3_ok 5 rfl)))
  (e_Lok (ld_iload_5 (x_dk dn_98_0_3_ok 6 rfl)))))))
  (e_Tok2
  (e_Tok2
  (e_Tok2
  (e_Lok (sm_iaload (x_dk dn_98_0_3_ok 7 rfl)))
  (e_Tok2
  (e_Lok (sm_imul (x_dk dn_98_0_3_ok 8 rfl)))
  (e_Lok (e_st (I := eI) (er_istore (i := 4) (x_dk dn_98_0_3_ok 9 rfl) (by decide +kernel)) nx_stor))))
  (e_Tok2
  (e_Lok (ld_iload_4 (x_dk dn_98_0_3_ok 10 rfl)))
  (e_Tok2
  (e_Lok (ps_sipush_1000 (x_dk dn_98_0_3_ok 11 rfl)))
  (e_Lok (e_st (I := eI) (er_icmple (off := 5) (tg := 158) (x_dk dn_98_0_3_ok 12 rfl) (by decide)) nx_if2)))))
  (e_Tok2
  (e_Tok2
  (e_Lok (ps_iconst_0 (x_dk dn_98_0_3_ok 13 rfl)))
  (e_Tok2
  (e_Lok (e_rt (I := eI) (k := 4) ⟨(x_dk dn_98_0_3_ok 14 rfl), rfl⟩))
  (e_Lok (e_st (I := eI) (er_iinc (i := 5) (n := 1) (x_dk dn_98_0_3_ok 15 rfl) (by decide +kernel) (by decide)) nx_inc))))
  (e_Tok2
  (e_Lok (e_st (I := eI) (er_goto (off := (-133)) (tg := 28) (x_dk dn_98_0_3_ok 16 rfl) (by decide)) nx_goto))
  (e_Tok2
  (e_Lok (ps_iconst_1 (x_dk dn_98_0_3_ok 17 rfl)))
  (e_Lok (e_rt (I := eI) (k := 4) ⟨(x_dk dn_98_0_3_ok 18 rfl), rfl⟩)))))))
def te_98 : Nat → eE := (e_T 82 (e_T 37 te_98_0 te_98_23) (e_T 119 te_98_47 te_98_70))
theorem te_98_ok : ∀ pc, e_EOq eft cls elay eI n_98 pc (te_98 pc) := (e_Tok2 ((e_Tok2 (te_98_0_ok) (te_98_23_ok))) ((e_Tok2 (te_98_47_ok) (te_98_70_ok))))
theorem ho_99 : (xm_y n_99).cls = "RobotCellHouse$Planner" := rfl
def dn_99_0_0 : List (Nat × Instr × Nat) := [(0, .iconst 0, 1), (1, .istore_n 3, 1), (2, .iconst 0, 1), (3, .istore 4, 2), (5, .iload 4, 2), (7, .aload_n 1, 1), (8, .getfield 67, 3), (11, .if_icmp .ge 88, 3), (14, .aload_n 1, 1), (15, .getfield 70, 3), (18, .iload 4, 2), (20, .aaload, 1), (21, .aload_n 2, 1), (22, .iload 4, 2), (24, .iaload, 1), (25, .invokevirtual 85, 3), (28, .ifCond .eq 11, 3), (31, .aload_n 0, 1), (32, .getfield 58, 3), (35, .iconst 1, 1), (36, .if_icmp .ge 5, 3), (39, .iconst (-1), 1), (40, .ireturn, 1), (41, .aload_n 2, 1), (42, .iload 4, 2)]
set_option maxRecDepth 20000 in
theorem dn_99_0_0_ok : dn_99_0_0.all (fun q => decide (decode (xm_b n_99) q.1 = .ok (q.2.1, q.2.2))) = true := xa_g_ok (by decide +kernel)
def dn_99_0_1 : List (Nat × Instr × Nat) := [(44, .iaload, 1), (45, .aload_n 0, 1), (46, .getfield 9, 3), (49, .iload 4, 2), (51, .iaload, 1), (52, .isub, 1), (53, .istore 5, 2), (55, .iload 5, 2), (57, .aload_n 0, 1), (58, .getfield 58, 3), (61, .irem, 1), (62, .ifCond .eq 5, 3), (65, .iconst (-1), 1), (66, .ireturn, 1), (67, .iload_n 3, 1), (68, .aload_n 0, 1), (69, .getfield 15, 3), (72, .iload 4, 2), (74, .iaload, 1), (75, .iload 5, 2), (77, .aload_n 0, 1), (78, .getfield 58, 3), (81, .idiv, 1), (82, .iadd, 1), (83, .aload_n 0, 1)]
set_option maxRecDepth 20000 in
theorem dn_99_0_1_ok : dn_99_0_1.all (fun q => decide (decode (xm_b n_99) q.1 = .ok (q.2.1, q.2.2))) = true := xa_g_ok (by decide +kernel)
def dn_99_0_2 : List (Nat × Instr × Nat) := [(84, .getfield 21, 3), (87, .iload 4, 2), (89, .iaload, 1), (90, .imul, 1), (91, .iadd, 1), (92, .istore_n 3, 1), (93, .iinc 4 1, 3), (96, .goto (-91), 3), (99, .iload_n 3, 1), (100, .ireturn, 1)]
set_option maxRecDepth 20000 in
theorem dn_99_0_2_ok : dn_99_0_2.all (fun q => decide (decode (xm_b n_99) q.1 = .ok (q.2.1, q.2.2))) = true := xa_g_ok (by decide +kernel)
def te_99_0 : Nat → eE := (e_T 24 (e_T 8 (e_T 2 (e_T 0 (e_L 0 (0, ei_push (0, 0) 1, 0, 0)) (e_T 1 (e_L 1 (0, ei_stor 3 0 2, 0, 0)) (e_L 2 (0, ei_push (0, 0) 3, 0, 0)))) (e_T 5 (e_T 3 (e_L 3 (0, ei_stor 4 0 5, 0, 0)) (e_L 5 (0, ei_load 4 0 7, 0, 0))) (e_T 7 (e_L 7 (0, ei_load 1 2 8, 0, 0)) (e_L 8 (0, ei_getf eft elay 0 8 11, 0, 0))))) (e_T 18 (e_T 14 (e_T 11 (e_L 11 (0, ei_if2 3 99 14, 0, 0)) (e_L 14 (0, ei_load 1 2 15, 0, 0))) (e_T 15 (e_L 15 (0, ei_getf eft elay 0 0 18, 0, 0)) (e_L 18 (0, ei_load 4 0 20, 0, 0)))) (e_T 21 (e_T 20 (e_L 20 (0, ei_aald elay 21, 0, 0)) (e_L 21 (0, ei_load 2 2 22, 0, 0))) (e_T 22 (e_L 22 (0, ei_load 4 0 24, 0, 0)) (e_L 24 (0, ei_ald elay false 25, 0, 0)))))) (e_T 39 (e_T 31 (e_T 25 (e_L 25 (2, e_nof, 89, 2)) (e_T 28 (e_L 28 (0, ei_if1 0 39 31, 0, 0)) (e_L 31 (0, ei_load 0 2 32, 0, 0)))) (e_T 35 (e_T 32 (e_L 32 (0, ei_getf eft elay 6 1 35, 0, 0)) (e_L 35 (0, ei_push (0, 1) 36, 0, 0))) (e_T 36 (e_L 36 (0, ei_if2 3 41 39, 0, 0)) (e_L 39 (0, ei_push (0, (-1)) 40, 0, 0))))) (e_T 44 (e_T 41 (e_T 40 (e_L 40 (1, e_nof, 1, 0)) (e_L 41 (0, ei_load 2 2 42, 0, 0))) (e_T 42 (e_L 42 (0, ei_load 4 0 44, 0, 0)) (e_L 44 (0, ei_ald elay false 45, 0, 0)))) (e_T 46 (e_T 45 (e_L 45 (0, ei_load 0 2 46, 0, 0)) (e_L 46 (0, ei_getf eft elay 6 4 49, 0, 0))) (e_T 49 (e_L 49 (0, ei_load 4 0 51, 0, 0)) (e_L 51 (0, ei_ald elay false 52, 0, 0)))))))
set_option maxRecDepth 20000 in
set_option maxHeartbeats 4000000 in
theorem te_99_0_ok : ∀ pc, e_EOq eft cls elay eI n_99 pc (te_99_0 pc) :=
  (e_Tok2
  (e_Tok2
  (e_Tok2
  (e_Tok2
  (e_Lok (ps_iconst_0 (x_dk dn_99_0_0_ok 0 rfl)))
  (e_Tok2
  (e_Lok (e_st (I := eI) (er_istore_n (i := 3) (x_dk dn_99_0_0_ok 1 rfl) (by decide +kernel)) nx_stor))
  (e_Lok (ps_iconst_0 (x_dk dn_99_0_0_ok 2 rfl)))))
  (e_Tok2
  (e_Tok2
  (e_Lok (e_st (I := eI) (er_istore (i := 4) (x_dk dn_99_0_0_ok 3 rfl) (by decide +kernel)) nx_stor))
  (e_Lok (ld_iload_4 (x_dk dn_99_0_0_ok 4 rfl))))
  (e_Tok2
  (e_Lok (ld_aload_n_1 (x_dk dn_99_0_0_ok 5 rfl)))
  (e_Lok (lk_6_67g ho_99 (x_dk dn_99_0_0_ok 6 rfl))))))
  (e_Tok2
  (e_Tok2
  (e_Tok2
  (e_Lok (e_st (I := eI) (er_icmpge (off := 88) (tg := 99) (x_dk dn_99_0_0_ok 7 rfl) (by decide)) nx_if2))
  (e_Lok (ld_aload_n_1 (x_dk dn_99_0_0_ok 8 rfl))))
  (e_Tok2
  (e_Lok (lk_6_70g ho_99 (x_dk dn_99_0_0_ok 9 rfl)))
  (e_Lok (ld_iload_4 (x_dk dn_99_0_0_ok 10 rfl)))))
  (e_Tok2
  (e_Tok2
  (e_Lok (e_st (I := eI) (er_aaload (x_dk dn_99_0_0_ok 11 rfl)) nx_aald))
  (e_Lok (ld_aload_n_2 (x_dk dn_99_0_0_ok 12 rfl))))
  (e_Tok2
  (e_Lok (ld_iload_4 (x_dk dn_99_0_0_ok 13 rfl)))
  (e_Lok (sm_iaload (x_dk dn_99_0_0_ok 14 rfl)))))))
  (e_Tok2
  (e_Tok2
  (e_Tok2
  (e_Lok (lk_6_85 ho_99 (x_dk dn_99_0_0_ok 15 rfl)))
  (e_Tok2
  (e_Lok (e_st (I := eI) (er_ifeq (off := 11) (tg := 39) (x_dk dn_99_0_0_ok 16 rfl) (by decide)) nx_if1))
  (e_Lok (ld_aload_n_0 (x_dk dn_99_0_0_ok 17 rfl)))))
  (e_Tok2
  (e_Tok2
  (e_Lok (lk_6_58g ho_99 (x_dk dn_99_0_0_ok 18 rfl)))
  (e_Lok (ps_iconst_1 (x_dk dn_99_0_0_ok 19 rfl))))
  (e_Tok2
  (e_Lok (e_st (I := eI) (er_icmpge (off := 5) (tg := 41) (x_dk dn_99_0_0_ok 20 rfl) (by decide)) nx_if2))
  (e_Lok (ps_iconst_m1 (x_dk dn_99_0_0_ok 21 rfl))))))
  (e_Tok2
  (e_Tok2
  (e_Tok2
  (e_Lok (e_rt (I := eI) (k := 1) ⟨(x_dk dn_99_0_0_ok 22 rfl), rfl⟩))
  (e_Lok (ld_aload_n_2 (x_dk dn_99_0_0_ok 23 rfl))))
  (e_Tok2
  (e_Lok (ld_iload_4 (x_dk dn_99_0_0_ok 24 rfl)))
  (e_Lok (sm_iaload (x_dk dn_99_0_1_ok 0 rfl)))))
  (e_Tok2
  (e_Tok2
  (e_Lok (ld_aload_n_0 (x_dk dn_99_0_1_ok 1 rfl)))
  (e_Lok (lk_6_9g ho_99 (x_dk dn_99_0_1_ok 2 rfl))))
  (e_Tok2
  (e_Lok (ld_iload_4 (x_dk dn_99_0_1_ok 3 rfl)))
  (e_Lok (sm_iaload (x_dk dn_99_0_1_ok 4 rfl))))))))
def te_99_30 : Nat → eE := (e_T 75 (e_T 62 (e_T 55 (e_T 52 (e_L 52 (0, ei_bin eF_sub 53, 0, 0)) (e_T 53 (e_L 53 (0, ei_stor 5 0 55, 0, 0)) (e_L 55 (0, ei_load 5 0 57, 0, 0)))) (e_T 58 (e_T 57 (e_L 57 (0, ei_load 0 2 58, 0, 0)) (e_L 58 (0, ei_getf eft elay 6 1 61, 0, 0))) (e_T 61 (e_L 61 (0, ei_bin eF_rem 62, 0, 0)) (e_L 62 (0, ei_if1 0 67 65, 0, 0))))) (e_T 68 (e_T 66 (e_T 65 (e_L 65 (0, ei_push (0, (-1)) 66, 0, 0)) (e_L 66 (1, e_nof, 1, 0))) (e_T 67 (e_L 67 (0, ei_load 3 0 68, 0, 0)) (e_L 68 (0, ei_load 0 2 69, 0, 0)))) (e_T 72 (e_T 69 (e_L 69 (0, ei_getf eft elay 6 5 72, 0, 0)) (e_L 72 (0, ei_load 4 0 74, 0, 0))) (e_T 74 (e_L 74 (0, ei_ald elay false 75, 0, 0)) (e_L 75 (0, ei_load 5 0 77, 0, 0)))))) (e_T 87 (e_T 81 (e_T 77 (e_L 77 (0, ei_load 0 2 78, 0, 0)) (e_T 78 (e_L 78 (0, ei_getf eft elay 6 1 81, 0, 0)) (e_L 81 (0, ei_bin eF_div 82, 0, 0)))) (e_T 83 (e_T 82 (e_L 82 (0, ei_bin eF_add 83, 0, 0)) (e_L 83 (0, ei_load 0 2 84, 0, 0))) (e_T 84 (e_L 84 (0, ei_getf eft elay 6 7 87, 0, 0)) (e_L 87 (0, ei_load 4 0 89, 0, 0))))) (e_T 92 (e_T 90 (e_T 89 (e_L 89 (0, ei_ald elay false 90, 0, 0)) (e_L 90 (0, ei_bin eF_mul 91, 0, 0))) (e_T 91 (e_L 91 (0, ei_bin eF_add 92, 0, 0)) (e_L 92 (0, ei_stor 3 0 93, 0, 0)))) (e_T 96 (e_T 93 (e_L 93 (0, ei_inc 4 1 96, 0, 0)) (e_L 96 (0, ei_goto 5, 0, 0))) (e_T 99 (e_L 99 (0, ei_load 3 0 100, 0, 0)) (e_L 100 (1, e_nof, 1, 0)))))))
set_option maxRecDepth 20000 in
set_option maxHeartbeats 4000000 in
theorem te_99_30_ok : ∀ pc, e_EOq eft cls elay eI n_99 pc (te_99_30 pc) :=
  (e_Tok2
  (e_Tok2
  (e_Tok2
  (e_Tok2
  (e_Lok (sm_isub (x_dk dn_99_0_1_ok 5 rfl)))
  (e_Tok2
  (e_Lok (e_st (I := eI) (er_istore (i := 5) (x_dk dn_99_0_1_ok 6 rfl) (by decide +kernel)) nx_stor))
  (e_Lok (ld_iload_5 (x_dk dn_99_0_1_ok 7 rfl)))))
  (e_Tok2
  (e_Tok2
  (e_Lok (ld_aload_n_0 (x_dk dn_99_0_1_ok 8 rfl)))
  (e_Lok (lk_6_58g ho_99 (x_dk dn_99_0_1_ok 9 rfl))))
  (e_Tok2
  (e_Lok (e_st (I := eI) (er_irem (x_dk dn_99_0_1_ok 10 rfl)) nx_bin))
  (e_Lok (e_st (I := eI) (er_ifeq (off := 5) (tg := 67) (x_dk dn_99_0_1_ok 11 rfl) (by decide)) nx_if1)))))
  (e_Tok2
  (e_Tok2
  (e_Tok2
  (e_Lok (ps_iconst_m1 (x_dk dn_99_0_1_ok 12 rfl)))
  (e_Lok (e_rt (I := eI) (k := 1) ⟨(x_dk dn_99_0_1_ok 13 rfl), rfl⟩)))
  (e_Tok2
  (e_Lok (ld_iload_n_3 (x_dk dn_99_0_1_ok 14 rfl)))
  (e_Lok (ld_aload_n_0 (x_dk dn_99_0_1_ok 15 rfl)))))
  (e_Tok2
  (e_Tok2
  (e_Lok (lk_6_15g ho_99 (x_dk dn_99_0_1_ok 16 rfl)))
  (e_Lok (ld_iload_4 (x_dk dn_99_0_1_ok 17 rfl))))
  (e_Tok2
  (e_Lok (sm_iaload (x_dk dn_99_0_1_ok 18 rfl)))
  (e_Lok (ld_iload_5 (x_dk dn_99_0_1_ok 19 rfl)))))))
  (e_Tok2
  (e_Tok2
  (e_Tok2
  (e_Lok (ld_aload_n_0 (x_dk dn_99_0_1_ok 20 rfl)))
  (e_Tok2
  (e_Lok (lk_6_58g ho_99 (x_dk dn_99_0_1_ok 21 rfl)))
  (e_Lok (e_st (I := eI) (er_idiv (x_dk dn_99_0_1_ok 22 rfl)) nx_bin))))
  (e_Tok2
  (e_Tok2
  (e_Lok (sm_iadd (x_dk dn_99_0_1_ok 23 rfl)))
  (e_Lok (ld_aload_n_0 (x_dk dn_99_0_1_ok 24 rfl))))
  (e_Tok2
  (e_Lok (lk_6_21g ho_99 (x_dk dn_99_0_2_ok 0 rfl)))
  (e_Lok (ld_iload_4 (x_dk dn_99_0_2_ok 1 rfl))))))
  (e_Tok2
  (e_Tok2
  (e_Tok2
  (e_Lok (sm_iaload (x_dk dn_99_0_2_ok 2 rfl)))
  (e_Lok (sm_imul (x_dk dn_99_0_2_ok 3 rfl))))
  (e_Tok2
  (e_Lok (sm_iadd (x_dk dn_99_0_2_ok 4 rfl)))
  (e_Lok (e_st (I := eI) (er_istore_n (i := 3) (x_dk dn_99_0_2_ok 5 rfl) (by decide +kernel)) nx_stor))))
  (e_Tok2
  (e_Tok2
  (e_Lok (e_st (I := eI) (er_iinc (i := 4) (n := 1) (x_dk dn_99_0_2_ok 6 rfl) (by decide +kernel) (by decide)) nx_inc))
  (e_Lok (e_st (I := eI) (er_goto (off := (-91)) (tg := 5) (x_dk dn_99_0_2_ok 7 rfl) (by decide)) nx_goto)))
  (e_Tok2
  (e_Lok (ld_iload_n_3 (x_dk dn_99_0_2_ok 8 rfl)))
  (e_Lok (e_rt (I := eI) (k := 1) ⟨(x_dk dn_99_0_2_ok 9 rfl), rfl⟩)))))))
def te_99 : Nat → eE := (e_T 51 te_99_0 te_99_30)
theorem te_99_ok : ∀ pc, e_EOq eft cls elay eI n_99 pc (te_99 pc) := (e_Tok2 (te_99_0_ok) (te_99_30_ok))
theorem ho_100 : (xm_y n_100).cls = "RobotCellHouse$Planner" := rfl
def dn_100_0_0 : List (Nat × Instr × Nat) := [(0, .aload_n 1, 1), (1, .iload 4, 2), (3, .aaload, 1), (4, .astore 6, 2), (6, .aload_n 0, 1), (7, .getfield 27, 3), (10, .iconst 0, 1), (11, .invokestatic 89, 3), (14, .aload_n 3, 1), (15, .aload_n 1, 1), (16, .iload_n 2, 1), (17, .iload 4, 2), (19, .iconst 0, 1), (20, .aload_n 0, 1), (21, .getfield 61, 3), (24, .invokevirtual 95, 3), (27, .ifCond .eq 5, 3), (30, .iconst 0, 1), (31, .ireturn, 1), (32, .aload_n 0, 1), (33, .getfield 27, 3), (36, .aload_n 0, 1), (37, .getfield 64, 3), (40, .bipush 100, 2), (42, .iastore, 1)]
set_option maxRecDepth 20000 in
theorem dn_100_0_0_ok : dn_100_0_0.all (fun q => decide (decode (xm_b n_100) q.1 = .ok (q.2.1, q.2.2))) = true := xa_g_ok (by decide +kernel)
def dn_100_0_1 : List (Nat × Instr × Nat) := [(43, .aload_n 0, 1), (44, .getfield 24, 3), (47, .iconst 0, 1), (48, .aload_n 0, 1), (49, .getfield 64, 3), (52, .iastore, 1), (53, .iconst 1, 1), (54, .istore 7, 2), (56, .iconst 0, 1), (57, .istore 8, 2), (59, .iload 8, 2), (61, .iload 7, 2), (63, .if_icmp .ge 136, 3), (66, .aload_n 0, 1), (67, .getfield 27, 3), (70, .iload 5, 2), (72, .iaload, 1), (73, .ifCond .ne 126, 3), (76, .aload_n 0, 1), (77, .aload 6, 2), (79, .aload_n 0, 1), (80, .getfield 24, 3), (83, .iload 8, 2), (85, .iaload, 1), (86, .invokevirtual 101, 3)]
set_option maxRecDepth 20000 in
theorem dn_100_0_1_ok : dn_100_0_1.all (fun q => decide (decode (xm_b n_100) q.1 = .ok (q.2.1, q.2.2))) = true := xa_g_ok (by decide +kernel)
def dn_100_0_2 : List (Nat × Instr × Nat) := [(89, .iconst 0, 1), (90, .istore 9, 2), (92, .iload 9, 2), (94, .iconst 2, 1), (95, .aload 6, 2), (97, .getfield 67, 3), (100, .imul, 1), (101, .if_icmp .ge 92, 3), (104, .aload_n 0, 1), (105, .aload_n 0, 1), (106, .getfield 24, 3), (109, .iload 8, 2), (111, .iaload, 1), (112, .iload 9, 2), (114, .invokevirtual 105, 3), (117, .istore 10, 2), (119, .iload 10, 2), (121, .ifCond .lt 66, 3), (124, .aload_n 0, 1), (125, .getfield 27, 3), (128, .iload 10, 2), (130, .iaload, 1), (131, .ifCond .ne 56, 3), (134, .iload 7, 2), (136, .sipush 1000, 3)]
set_option maxRecDepth 20000 in
theorem dn_100_0_2_ok : dn_100_0_2.all (fun q => decide (decode (xm_b n_100) q.1 = .ok (q.2.1, q.2.2))) = true := xa_g_ok (by decide +kernel)
def dn_100_0_3 : List (Nat × Instr × Nat) := [(139, .if_icmp .lt 6, 3), (142, .goto 45, 3), (145, .aload_n 0, 1), (146, .aload_n 1, 1), (147, .iload_n 2, 1), (148, .aload_n 3, 1), (149, .iload 4, 2), (151, .iload 9, 2), (153, .iload 10, 2), (155, .invokevirtual 109, 3), (158, .ifCond .ne 6, 3), (161, .goto 26, 3), (164, .aload_n 0, 1), (165, .getfield 27, 3), (168, .iload 10, 2), (170, .iload 9, 2), (172, .iconst 1, 1), (173, .iadd, 1), (174, .iastore, 1), (175, .aload_n 0, 1), (176, .getfield 24, 3), (179, .iload 7, 2), (181, .iload 10, 2), (183, .iastore, 1), (184, .iinc 7 1, 3)]
set_option maxRecDepth 20000 in
theorem dn_100_0_3_ok : dn_100_0_3.all (fun q => decide (decode (xm_b n_100) q.1 = .ok (q.2.1, q.2.2))) = true := xa_g_ok (by decide +kernel)
def dn_100_1_0 : List (Nat × Instr × Nat) := [(187, .iinc 9 1, 3), (190, .goto (-98), 3), (193, .iinc 8 1, 3), (196, .goto (-137), 3), (199, .aload_n 0, 1), (200, .aload 6, 2), (202, .aload_n 0, 1), (203, .getfield 64, 3), (206, .invokevirtual 101, 3), (209, .aload 6, 2), (211, .invokevirtual 113, 3), (214, .aload_n 0, 1), (215, .getfield 27, 3), (218, .iload 5, 2), (220, .iaload, 1), (221, .ifCond .le 7, 3), (224, .iconst 1, 1), (225, .goto 4, 3), (228, .iconst 0, 1), (229, .ireturn, 1)]
set_option maxRecDepth 20000 in
theorem dn_100_1_0_ok : dn_100_1_0.all (fun q => decide (decode (xm_b n_100) q.1 = .ok (q.2.1, q.2.2))) = true := xa_g_ok (by decide +kernel)
def te_100_0 : Nat → eE := (e_T 21 (e_T 10 (e_T 3 (e_T 0 (e_L 0 (0, ei_load 1 2 1, 0, 0)) (e_T 1 (e_L 1 (0, ei_load 4 0 3, 0, 0)) (e_L 3 (0, ei_aald elay 4, 0, 0)))) (e_T 6 (e_T 4 (e_L 4 (0, ei_stor 6 2 6, 0, 0)) (e_L 6 (0, ei_load 0 2 7, 0, 0))) (e_T 7 (e_L 7 (0, ei_getf eft elay 6 9 10, 0, 0)) (e_L 10 (0, ei_push (0, 0) 11, 0, 0))))) (e_T 16 (e_T 14 (e_T 11 (e_L 11 (2, e_nof, 452, 2)) (e_L 14 (0, ei_load 3 2 15, 0, 0))) (e_T 15 (e_L 15 (0, ei_load 1 2 16, 0, 0)) (e_L 16 (0, ei_load 2 0 17, 0, 0)))) (e_T 19 (e_T 17 (e_L 17 (0, ei_load 4 0 19, 0, 0)) (e_L 19 (0, ei_push (0, 0) 20, 0, 0))) (e_T 20 (e_L 20 (0, ei_load 0 2 21, 0, 0)) (e_L 21 (0, ei_getf eft elay 6 2 24, 0, 0)))))) (e_T 36 (e_T 30 (e_T 24 (e_L 24 (2, e_nof, 171, 6)) (e_T 27 (e_L 27 (0, ei_if1 0 32 30, 0, 0)) (e_L 30 (0, ei_push (0, 0) 31, 0, 0)))) (e_T 32 (e_T 31 (e_L 31 (1, e_nof, 4, 0)) (e_L 32 (0, ei_load 0 2 33, 0, 0))) (e_T 33 (e_L 33 (0, ei_getf eft elay 6 9 36, 0, 0)) (e_L 36 (0, ei_load 0 2 37, 0, 0))))) (e_T 43 (e_T 40 (e_T 37 (e_L 37 (0, ei_getf eft elay 6 3 40, 0, 0)) (e_L 40 (0, ei_push (0, 100) 42, 0, 0))) (e_T 42 (e_L 42 (0, ei_ast elay false 43, 0, 0)) (e_L 43 (0, ei_load 0 2 44, 0, 0)))) (e_T 47 (e_T 44 (e_L 44 (0, ei_getf eft elay 6 8 47, 0, 0)) (e_L 47 (0, ei_push (0, 0) 48, 0, 0))) (e_T 48 (e_L 48 (0, ei_load 0 2 49, 0, 0)) (e_L 49 (0, ei_getf eft elay 6 3 52, 0, 0)))))))
set_option maxRecDepth 20000 in
set_option maxHeartbeats 4000000 in
theorem te_100_0_ok : ∀ pc, e_EOq eft cls elay eI n_100 pc (te_100_0 pc) :=
  (e_Tok2
  (e_Tok2
  (e_Tok2
  (e_Tok2
  (e_Lok (ld_aload_n_1 (x_dk dn_100_0_0_ok 0 rfl)))
  (e_Tok2
  (e_Lok (ld_iload_4 (x_dk dn_100_0_0_ok 1 rfl)))
  (e_Lok (e_st (I := eI) (er_aaload (x_dk dn_100_0_0_ok 2 rfl)) nx_aald))))
  (e_Tok2
  (e_Tok2
  (e_Lok (e_st (I := eI) (er_astore (i := 6) (x_dk dn_100_0_0_ok 3 rfl) (by decide +kernel)) nx_stor))
  (e_Lok (ld_aload_n_0 (x_dk dn_100_0_0_ok 4 rfl))))
  (e_Tok2
  (e_Lok (lk_6_27g ho_100 (x_dk dn_100_0_0_ok 5 rfl)))
  (e_Lok (ps_iconst_0 (x_dk dn_100_0_0_ok 6 rfl))))))
  (e_Tok2
  (e_Tok2
  (e_Tok2
  (e_Lok (lk_6_89 ho_100 (x_dk dn_100_0_0_ok 7 rfl)))
  (e_Lok (ld_aload_n_3 (x_dk dn_100_0_0_ok 8 rfl))))
  (e_Tok2
  (e_Lok (ld_aload_n_1 (x_dk dn_100_0_0_ok 9 rfl)))
  (e_Lok (ld_iload_n_2 (x_dk dn_100_0_0_ok 10 rfl)))))
  (e_Tok2
  (e_Tok2
  (e_Lok (ld_iload_4 (x_dk dn_100_0_0_ok 11 rfl)))
  (e_Lok (ps_iconst_0 (x_dk dn_100_0_0_ok 12 rfl))))
  (e_Tok2
  (e_Lok (ld_aload_n_0 (x_dk dn_100_0_0_ok 13 rfl)))
  (e_Lok (lk_6_61g ho_100 (x_dk dn_100_0_0_ok 14 rfl)))))))
  (e_Tok2
  (e_Tok2
  (e_Tok2
  (e_Lok (lk_6_95 ho_100 (x_dk dn_100_0_0_ok 15 rfl)))
  (e_Tok2
  (e_Lok (e_st (I := eI) (er_ifeq (off := 5) (tg := 32) (x_dk dn_100_0_0_ok 16 rfl) (by decide)) nx_if1))
  (e_Lok (ps_iconst_0 (x_dk dn_100_0_0_ok 17 rfl)))))
  (e_Tok2
  (e_Tok2
  (e_Lok (e_rt (I := eI) (k := 4) ⟨(x_dk dn_100_0_0_ok 18 rfl), rfl⟩))
  (e_Lok (ld_aload_n_0 (x_dk dn_100_0_0_ok 19 rfl))))
  (e_Tok2
  (e_Lok (lk_6_27g ho_100 (x_dk dn_100_0_0_ok 20 rfl)))
  (e_Lok (ld_aload_n_0 (x_dk dn_100_0_0_ok 21 rfl))))))
  (e_Tok2
  (e_Tok2
  (e_Tok2
  (e_Lok (lk_6_64g ho_100 (x_dk dn_100_0_0_ok 22 rfl)))
  (e_Lok (ps_bipush_100 (x_dk dn_100_0_0_ok 23 rfl))))
  (e_Tok2
  (e_Lok (sm_iastore (x_dk dn_100_0_0_ok 24 rfl)))
  (e_Lok (ld_aload_n_0 (x_dk dn_100_0_1_ok 0 rfl)))))
  (e_Tok2
  (e_Tok2
  (e_Lok (lk_6_24g ho_100 (x_dk dn_100_0_1_ok 1 rfl)))
  (e_Lok (ps_iconst_0 (x_dk dn_100_0_1_ok 2 rfl))))
  (e_Tok2
  (e_Lok (ld_aload_n_0 (x_dk dn_100_0_1_ok 3 rfl)))
  (e_Lok (lk_6_64g ho_100 (x_dk dn_100_0_1_ok 4 rfl))))))))
def te_100_30 : Nat → eE := (e_T 77 (e_T 61 (e_T 54 (e_T 52 (e_L 52 (0, ei_ast elay false 53, 0, 0)) (e_T 53 (e_L 53 (0, ei_push (0, 1) 54, 0, 0)) (e_L 54 (0, ei_stor 7 0 56, 0, 0)))) (e_T 57 (e_T 56 (e_L 56 (0, ei_push (0, 0) 57, 0, 0)) (e_L 57 (0, ei_stor 8 0 59, 0, 0))) (e_T 59 (e_L 59 (0, ei_load 8 0 61, 0, 0)) (e_L 61 (0, ei_load 7 0 63, 0, 0))))) (e_T 70 (e_T 66 (e_T 63 (e_L 63 (0, ei_if2 3 199 66, 0, 0)) (e_L 66 (0, ei_load 0 2 67, 0, 0))) (e_T 67 (e_L 67 (0, ei_getf eft elay 6 9 70, 0, 0)) (e_L 70 (0, ei_load 5 0 72, 0, 0)))) (e_T 73 (e_T 72 (e_L 72 (0, ei_ald elay false 73, 0, 0)) (e_L 73 (0, ei_if1 1 199 76, 0, 0))) (e_T 76 (e_L 76 (0, ei_load 0 2 77, 0, 0)) (e_L 77 (0, ei_load 6 2 79, 0, 0)))))) (e_T 90 (e_T 83 (e_T 79 (e_L 79 (0, ei_load 0 2 80, 0, 0)) (e_T 80 (e_L 80 (0, ei_getf eft elay 6 8 83, 0, 0)) (e_L 83 (0, ei_load 8 0 85, 0, 0)))) (e_T 86 (e_T 85 (e_L 85 (0, ei_ald elay false 86, 0, 0)) (e_L 86 (2, e_nof, 102, 3))) (e_T 89 (e_L 89 (0, ei_push (0, 0) 90, 0, 0)) (e_L 90 (0, ei_stor 9 0 92, 0, 0))))) (e_T 97 (e_T 94 (e_T 92 (e_L 92 (0, ei_load 9 0 94, 0, 0)) (e_L 94 (0, ei_push (0, 2) 95, 0, 0))) (e_T 95 (e_L 95 (0, ei_load 6 2 97, 0, 0)) (e_L 97 (0, ei_getf eft elay 0 8 100, 0, 0)))) (e_T 101 (e_T 100 (e_L 100 (0, ei_bin eF_mul 101, 0, 0)) (e_L 101 (0, ei_if2 3 193 104, 0, 0))) (e_T 104 (e_L 104 (0, ei_load 0 2 105, 0, 0)) (e_L 105 (0, ei_load 0 2 106, 0, 0)))))))
set_option maxRecDepth 20000 in
set_option maxHeartbeats 4000000 in
theorem te_100_30_ok : ∀ pc, e_EOq eft cls elay eI n_100 pc (te_100_30 pc) :=
  (e_Tok2
  (e_Tok2
  (e_Tok2
  (e_Tok2
  (e_Lok (sm_iastore (x_dk dn_100_0_1_ok 5 rfl)))
  (e_Tok2
  (e_Lok (ps_iconst_1 (x_dk dn_100_0_1_ok 6 rfl)))
  (e_Lok (e_st (I := eI) (er_istore (i := 7) (x_dk dn_100_0_1_ok 7 rfl) (by decide +kernel)) nx_stor))))
  (e_Tok2
  (e_Tok2
  (e_Lok (ps_iconst_0 (x_dk dn_100_0_1_ok 8 rfl)))
  (e_Lok (e_st (I := eI) (er_istore (i := 8) (x_dk dn_100_0_1_ok 9 rfl) (by decide +kernel)) nx_stor)))
  (e_Tok2
  (e_Lok (ld_iload_8 (x_dk dn_100_0_1_ok 10 rfl)))
  (e_Lok (ld_iload_7 (x_dk dn_100_0_1_ok 11 rfl))))))
  (e_Tok2
  (e_Tok2
  (e_Tok2
  (e_Lok (e_st (I := eI) (er_icmpge (off := 136) (tg := 199) (x_dk dn_100_0_1_ok 12 rfl) (by decide)) nx_if2))
  (e_Lok (ld_aload_n_0 (x_dk dn_100_0_1_ok 13 rfl))))
  (e_Tok2
  (e_Lok (lk_6_27g ho_100 (x_dk dn_100_0_1_ok 14 rfl)))
  (e_Lok (ld_iload_5 (x_dk dn_100_0_1_ok 15 rfl)))))
  (e_Tok2
  (e_Tok2
  (e_Lok (sm_iaload (x_dk dn_100_0_1_ok 16 rfl)))
  (e_Lok (e_st (I := eI) (er_ifne (off := 126) (tg := 199) (x_dk dn_100_0_1_ok 17 rfl) (by decide)) nx_if1)))
  (e_Tok2
  (e_Lok (ld_aload_n_0 (x_dk dn_100_0_1_ok 18 rfl)))
  (e_Lok (ld_aload_6 (x_dk dn_100_0_1_ok 19 rfl)))))))
  (e_Tok2
  (e_Tok2
  (e_Tok2
  (e_Lok (ld_aload_n_0 (x_dk dn_100_0_1_ok 20 rfl)))
  (e_Tok2
  (e_Lok (lk_6_24g ho_100 (x_dk dn_100_0_1_ok 21 rfl)))
  (e_Lok (ld_iload_8 (x_dk dn_100_0_1_ok 22 rfl)))))
  (e_Tok2
  (e_Tok2
  (e_Lok (sm_iaload (x_dk dn_100_0_1_ok 23 rfl)))
  (e_Lok (lk_6_101 ho_100 (x_dk dn_100_0_1_ok 24 rfl))))
  (e_Tok2
  (e_Lok (ps_iconst_0 (x_dk dn_100_0_2_ok 0 rfl)))
  (e_Lok (e_st (I := eI) (er_istore (i := 9) (x_dk dn_100_0_2_ok 1 rfl) (by decide +kernel)) nx_stor)))))
  (e_Tok2
  (e_Tok2
  (e_Tok2
  (e_Lok (ld_iload_9 (x_dk dn_100_0_2_ok 2 rfl)))
  (e_Lok (ps_iconst_2 (x_dk dn_100_0_2_ok 3 rfl))))
  (e_Tok2
  (e_Lok (ld_aload_6 (x_dk dn_100_0_2_ok 4 rfl)))
  (e_Lok (lk_6_67g ho_100 (x_dk dn_100_0_2_ok 5 rfl)))))
  (e_Tok2
  (e_Tok2
  (e_Lok (sm_imul (x_dk dn_100_0_2_ok 6 rfl)))
  (e_Lok (e_st (I := eI) (er_icmpge (off := 92) (tg := 193) (x_dk dn_100_0_2_ok 7 rfl) (by decide)) nx_if2)))
  (e_Tok2
  (e_Lok (ld_aload_n_0 (x_dk dn_100_0_2_ok 8 rfl)))
  (e_Lok (ld_aload_n_0 (x_dk dn_100_0_2_ok 9 rfl))))))))
def te_100_60 : Nat → eE := (e_T 136 (e_T 119 (e_T 111 (e_T 106 (e_L 106 (0, ei_getf eft elay 6 8 109, 0, 0)) (e_T 109 (e_L 109 (0, ei_load 8 0 111, 0, 0)) (e_L 111 (0, ei_ald elay false 112, 0, 0)))) (e_T 114 (e_T 112 (e_L 112 (0, ei_load 9 0 114, 0, 0)) (e_L 114 (2, e_nof, 103, 3))) (e_T 117 (e_L 117 (0, ei_stor 10 0 119, 0, 0)) (e_L 119 (0, ei_load 10 0 121, 0, 0))))) (e_T 128 (e_T 124 (e_T 121 (e_L 121 (0, ei_if1 2 187 124, 0, 0)) (e_L 124 (0, ei_load 0 2 125, 0, 0))) (e_T 125 (e_L 125 (0, ei_getf eft elay 6 9 128, 0, 0)) (e_L 128 (0, ei_load 10 0 130, 0, 0)))) (e_T 131 (e_T 130 (e_L 130 (0, ei_ald elay false 131, 0, 0)) (e_L 131 (0, ei_if1 1 187 134, 0, 0))) (e_T 134 (e_L 134 (0, ei_load 7 0 136, 0, 0)) (e_L 136 (0, ei_push (0, 1000) 139, 0, 0)))))) (e_T 149 (e_T 145 (e_T 139 (e_L 139 (0, ei_if2 2 145 142, 0, 0)) (e_T 142 (e_L 142 (0, ei_goto 187, 0, 0)) (e_L 145 (0, ei_load 0 2 146, 0, 0)))) (e_T 147 (e_T 146 (e_L 146 (0, ei_load 1 2 147, 0, 0)) (e_L 147 (0, ei_load 2 0 148, 0, 0))) (e_T 148 (e_L 148 (0, ei_load 3 2 149, 0, 0)) (e_L 149 (0, ei_load 4 0 151, 0, 0))))) (e_T 158 (e_T 153 (e_T 151 (e_L 151 (0, ei_load 9 0 153, 0, 0)) (e_L 153 (0, ei_load 10 0 155, 0, 0))) (e_T 155 (e_L 155 (2, e_nof, 104, 7)) (e_L 158 (0, ei_if1 1 164 161, 0, 0)))) (e_T 164 (e_T 161 (e_L 161 (0, ei_goto 187, 0, 0)) (e_L 164 (0, ei_load 0 2 165, 0, 0))) (e_T 165 (e_L 165 (0, ei_getf eft elay 6 9 168, 0, 0)) (e_L 168 (0, ei_load 10 0 170, 0, 0)))))))
set_option maxRecDepth 20000 in
set_option maxHeartbeats 4000000 in
theorem te_100_60_ok : ∀ pc, e_EOq eft cls elay eI n_100 pc (te_100_60 pc) :=
  (e_Tok2
  (e_Tok2
  (e_Tok2
  (e_Tok2
  (e_Lok (lk_6_24g ho_100 (x_dk dn_100_0_2_ok 10 rfl)))
  (e_Tok2
  (e_Lok (ld_iload_8 (x_dk dn_100_0_2_ok 11 rfl)))
  (e_Lok (sm_iaload (x_dk dn_100_0_2_ok 12 rfl)))))
  (e_Tok2
  (e_Tok2
  (e_Lok (ld_iload_9 (x_dk dn_100_0_2_ok 13 rfl)))
  (e_Lok (lk_6_105 ho_100 (x_dk dn_100_0_2_ok 14 rfl))))
  (e_Tok2
  (e_Lok (e_st (I := eI) (er_istore (i := 10) (x_dk dn_100_0_2_ok 15 rfl) (by decide +kernel)) nx_stor))
  (e_Lok (ld_iload_10 (x_dk dn_100_0_2_ok 16 rfl))))))
  (e_Tok2
  (e_Tok2
  (e_Tok2
  (e_Lok (e_st (I := eI) (er_iflt (off := 66) (tg := 187) (x_dk dn_100_0_2_ok 17 rfl) (by decide)) nx_if1))
  (e_Lok (ld_aload_n_0 (x_dk dn_100_0_2_ok 18 rfl))))
  (e_Tok2
  (e_Lok (lk_6_27g ho_100 (x_dk dn_100_0_2_ok 19 rfl)))
  (e_Lok (ld_iload_10 (x_dk dn_100_0_2_ok 20 rfl)))))
  (e_Tok2
  (e_Tok2
  (e_Lok (sm_iaload (x_dk dn_100_0_2_ok 21 rfl)))
  (e_Lok (e_st (I := eI) (er_ifne (off := 56) (tg := 187) (x_dk dn_100_0_2_ok 22 rfl) (by decide)) nx_if1)))
  (e_Tok2
  (e_Lok (ld_iload_7 (x_dk dn_100_0_2_ok 23 rfl)))
  (e_Lok (ps_sipush_1000 (x_dk dn_100_0_2_ok 24 rfl)))))))
  (e_Tok2
  (e_Tok2
  (e_Tok2
  (e_Lok (e_st (I := eI) (er_icmplt (off := 6) (tg := 145) (x_dk dn_100_0_3_ok 0 rfl) (by decide)) nx_if2))
  (e_Tok2
  (e_Lok (e_st (I := eI) (er_goto (off := 45) (tg := 187) (x_dk dn_100_0_3_ok 1 rfl) (by decide)) nx_goto))
  (e_Lok (ld_aload_n_0 (x_dk dn_100_0_3_ok 2 rfl)))))
  (e_Tok2
  (e_Tok2
  (e_Lok (ld_aload_n_1 (x_dk dn_100_0_3_ok 3 rfl)))
  (e_Lok (ld_iload_n_2 (x_dk dn_100_0_3_ok 4 rfl))))
  (e_Tok2
  (e_Lok (ld_aload_n_3 (x_dk dn_100_0_3_ok 5 rfl)))
  (e_Lok (ld_iload_4 (x_dk dn_100_0_3_ok 6 rfl))))))
  (e_Tok2
  (e_Tok2
  (e_Tok2
  (e_Lok (ld_iload_9 (x_dk dn_100_0_3_ok 7 rfl)))
  (e_Lok (ld_iload_10 (x_dk dn_100_0_3_ok 8 rfl))))
  (e_Tok2
  (e_Lok (lk_6_109 ho_100 (x_dk dn_100_0_3_ok 9 rfl)))
  (e_Lok (e_st (I := eI) (er_ifne (off := 6) (tg := 164) (x_dk dn_100_0_3_ok 10 rfl) (by decide)) nx_if1))))
  (e_Tok2
  (e_Tok2
  (e_Lok (e_st (I := eI) (er_goto (off := 26) (tg := 187) (x_dk dn_100_0_3_ok 11 rfl) (by decide)) nx_goto))
  (e_Lok (ld_aload_n_0 (x_dk dn_100_0_3_ok 12 rfl))))
  (e_Tok2
  (e_Lok (lk_6_27g ho_100 (x_dk dn_100_0_3_ok 13 rfl)))
  (e_Lok (ld_iload_10 (x_dk dn_100_0_3_ok 14 rfl))))))))
def te_100_90 : Nat → eE := (e_T 199 (e_T 179 (e_T 173 (e_T 170 (e_L 170 (0, ei_load 9 0 172, 0, 0)) (e_T 172 (e_L 172 (0, ei_push (0, 1) 173, 0, 0)) (e_L 173 (0, ei_bin eF_add 174, 0, 0)))) (e_T 175 (e_T 174 (e_L 174 (0, ei_ast elay false 175, 0, 0)) (e_L 175 (0, ei_load 0 2 176, 0, 0))) (e_T 176 (e_L 176 (0, ei_getf eft elay 6 8 179, 0, 0)) (e_L 179 (0, ei_load 7 0 181, 0, 0))))) (e_T 187 (e_T 183 (e_T 181 (e_L 181 (0, ei_load 10 0 183, 0, 0)) (e_L 183 (0, ei_ast elay false 184, 0, 0))) (e_T 184 (e_L 184 (0, ei_inc 7 1 187, 0, 0)) (e_L 187 (0, ei_inc 9 1 190, 0, 0)))) (e_T 193 (e_T 190 (e_L 190 (0, ei_goto 92, 0, 0)) (e_L 193 (0, ei_inc 8 1 196, 0, 0))) (e_T 196 (e_L 196 (0, ei_goto 59, 0, 0)) (e_L 199 (0, ei_load 0 2 200, 0, 0)))))) (e_T 214 (e_T 203 (e_T 200 (e_L 200 (0, ei_load 6 2 202, 0, 0)) (e_T 202 (e_L 202 (0, ei_load 0 2 203, 0, 0)) (e_L 203 (0, ei_getf eft elay 6 3 206, 0, 0)))) (e_T 209 (e_T 206 (e_L 206 (2, e_nof, 102, 3)) (e_L 209 (0, ei_load 6 2 211, 0, 0))) (e_T 211 (e_L 211 (2, e_nof, 10, 1)) (e_L 214 (0, ei_load 0 2 215, 0, 0))))) (e_T 221 (e_T 218 (e_T 215 (e_L 215 (0, ei_getf eft elay 6 9 218, 0, 0)) (e_L 218 (0, ei_load 5 0 220, 0, 0))) (e_T 220 (e_L 220 (0, ei_ald elay false 221, 0, 0)) (e_L 221 (0, ei_if1 5 228 224, 0, 0)))) (e_T 225 (e_T 224 (e_L 224 (0, ei_push (0, 1) 225, 0, 0)) (e_L 225 (0, ei_goto 229, 0, 0))) (e_T 228 (e_L 228 (0, ei_push (0, 0) 229, 0, 0)) (e_L 229 (1, e_nof, 4, 0)))))))
set_option maxRecDepth 20000 in
set_option maxHeartbeats 4000000 in
theorem te_100_90_ok : ∀ pc, e_EOq eft cls elay eI n_100 pc (te_100_90 pc) :=
  (e_Tok2
  (e_Tok2
  (e_Tok2
  (e_Tok2
  (e_Lok (ld_iload_9 (x_dk dn_100_0_3_ok 15 rfl)))
  (e_Tok2
  (e_Lok (ps_iconst_1 (x_dk dn_100_0_3_ok 16 rfl)))
  (e_Lok (sm_iadd (x_dk dn_100_0_3_ok 17 rfl)))))
  (e_Tok2
  (e_Tok2
  (e_Lok (sm_iastore (x_dk dn_100_0_3_ok 18 rfl)))
  (e_Lok (ld_aload_n_0 (x_dk dn_100_0_3_ok 19 rfl))))
  (e_Tok2
  (e_Lok (lk_6_24g ho_100 (x_dk dn_100_0_3_ok 20 rfl)))
  (e_Lok (ld_iload_7 (x_dk dn_100_0_3_ok 21 rfl))))))
  (e_Tok2
  (e_Tok2
  (e_Tok2
  (e_Lok (ld_iload_10 (x_dk dn_100_0_3_ok 22 rfl)))
  (e_Lok (sm_iastore (x_dk dn_100_0_3_ok 23 rfl))))
  (e_Tok2
  (e_Lok (e_st (I := eI) (er_iinc (i := 7) (n := 1) (x_dk dn_100_0_3_ok 24 rfl) (by decide +kernel) (by decide)) nx_inc))
  (e_Lok (e_st (I := eI) (er_iinc (i := 9) (n := 1) (x_dk dn_100_1_0_ok 0 rfl) (by decide +kernel) (by decide)) nx_inc))))
  (e_Tok2
  (e_Tok2
  (e_Lok (e_st (I := eI) (er_goto (off := (-98)) (tg := 92) (x_dk dn_100_1_0_ok 1 rfl) (by decide)) nx_goto))
  (e_Lok (e_st (I := eI) (er_iinc (i := 8) (n := 1) (x_dk dn_100_1_0_ok 2 rfl) (by decide +kernel) (by decide)) nx_inc)))
  (e_Tok2
  (e_Lok (e_st (I := eI) (er_goto (off := (-137)) (tg := 59) (x_dk dn_100_1_0_ok 3 rfl) (by decide)) nx_goto))
  (e_Lok (ld_aload_n_0 (x_dk dn_100_1_0_ok 4 rfl)))))))
  (e_Tok2
  (e_Tok2
  (e_Tok2
  (e_Lok (ld_aload_6 (x_dk dn_100_1_0_ok 5 rfl)))
  (e_Tok2
  (e_Lok (ld_aload_n_0 (x_dk dn_100_1_0_ok 6 rfl)))
  (e_Lok (lk_6_64g ho_100 (x_dk dn_100_1_0_ok 7 rfl)))))
  (e_Tok2
  (e_Tok2
  (e_Lok (lk_6_101 ho_100 (x_dk dn_100_1_0_ok 8 rfl)))
  (e_Lok (ld_aload_6 (x_dk dn_100_1_0_ok 9 rfl))))
  (e_Tok2
  (e_Lok (lk_6_113 ho_100 (x_dk dn_100_1_0_ok 10 rfl)))
  (e_Lok (ld_aload_n_0 (x_dk dn_100_1_0_ok 11 rfl))))))
  (e_Tok2
  (e_Tok2
  (e_Tok2
  (e_Lok (lk_6_27g ho_100 (x_dk dn_100_1_0_ok 12 rfl)))
  (e_Lok (ld_iload_5 (x_dk dn_100_1_0_ok 13 rfl))))
  (e_Tok2
  (e_Lok (sm_iaload (x_dk dn_100_1_0_ok 14 rfl)))
  (e_Lok (e_st (I := eI) (er_ifle (off := 7) (tg := 228) (x_dk dn_100_1_0_ok 15 rfl) (by decide)) nx_if1))))
  (e_Tok2
  (e_Tok2
  (e_Lok (ps_iconst_1 (x_dk dn_100_1_0_ok 16 rfl)))
  (e_Lok (e_st (I := eI) (er_goto (off := 4) (tg := 229) (x_dk dn_100_1_0_ok 17 rfl) (by decide)) nx_goto)))
  (e_Tok2
  (e_Lok (ps_iconst_0 (x_dk dn_100_1_0_ok 18 rfl)))
  (e_Lok (e_rt (I := eI) (k := 4) ⟨(x_dk dn_100_1_0_ok 19 rfl), rfl⟩)))))))
def te_100 : Nat → eE := (e_T 105 (e_T 49 te_100_0 te_100_30) (e_T 168 te_100_60 te_100_90))
theorem te_100_ok : ∀ pc, e_EOq eft cls elay eI n_100 pc (te_100 pc) := (e_Tok2 ((e_Tok2 (te_100_0_ok) (te_100_30_ok))) ((e_Tok2 (te_100_60_ok) (te_100_90_ok))))
theorem ho_101 : (xm_y n_101).cls = "RobotCellHouse$Planner" := rfl
def dn_101_0_0 : List (Nat × Instr × Nat) := [(0, .aload_n 0, 1), (1, .getfield 21, 3), (4, .iload_n 2, 1), (5, .iaload, 1), (6, .iconst 1, 1), (7, .if_icmp .lt 13, 3), (10, .aload_n 0, 1), (11, .getfield 18, 3), (14, .iload_n 2, 1), (15, .iaload, 1), (16, .iconst 1, 1), (17, .if_icmp .ge 5, 3), (20, .iconst 0, 1), (21, .ireturn, 1), (22, .iload_n 1, 1), (23, .aload_n 0, 1), (24, .getfield 21, 3), (27, .iload_n 2, 1), (28, .iaload, 1), (29, .idiv, 1), (30, .aload_n 0, 1), (31, .getfield 18, 3), (34, .iload_n 2, 1), (35, .iaload, 1), (36, .irem, 1)]
set_option maxRecDepth 20000 in
theorem dn_101_0_0_ok : dn_101_0_0.all (fun q => decide (decode (xm_b n_101) q.1 = .ok (q.2.1, q.2.2))) = true := xa_g_ok (by decide +kernel)
def dn_101_0_1 : List (Nat × Instr × Nat) := [(37, .ireturn, 1)]
set_option maxRecDepth 20000 in
theorem dn_101_0_1_ok : dn_101_0_1.all (fun q => decide (decode (xm_b n_101) q.1 = .ok (q.2.1, q.2.2))) = true := xa_g_ok (by decide +kernel)
def te_101_0 : Nat → eE := (e_T 20 (e_T 7 (e_T 4 (e_T 0 (e_L 0 (0, ei_load 0 2 1, 0, 0)) (e_T 1 (e_L 1 (0, ei_getf eft elay 6 7 4, 0, 0)) (e_L 4 (0, ei_load 2 0 5, 0, 0)))) (e_T 5 (e_L 5 (0, ei_ald elay false 6, 0, 0)) (e_T 6 (e_L 6 (0, ei_push (0, 1) 7, 0, 0)) (e_L 7 (0, ei_if2 2 20 10, 0, 0))))) (e_T 14 (e_T 10 (e_L 10 (0, ei_load 0 2 11, 0, 0)) (e_T 11 (e_L 11 (0, ei_getf eft elay 6 6 14, 0, 0)) (e_L 14 (0, ei_load 2 0 15, 0, 0)))) (e_T 16 (e_T 15 (e_L 15 (0, ei_ald elay false 16, 0, 0)) (e_L 16 (0, ei_push (0, 1) 17, 0, 0))) (e_T 17 (e_L 17 (0, ei_if2 3 22 20, 0, 0)) (e_L 20 (0, ei_push (0, 0) 21, 0, 0)))))) (e_T 28 (e_T 23 (e_T 21 (e_L 21 (1, e_nof, 1, 0)) (e_T 22 (e_L 22 (0, ei_load 1 0 23, 0, 0)) (e_L 23 (0, ei_load 0 2 24, 0, 0)))) (e_T 24 (e_L 24 (0, ei_getf eft elay 6 7 27, 0, 0)) (e_T 27 (e_L 27 (0, ei_load 2 0 28, 0, 0)) (e_L 28 (0, ei_ald elay false 29, 0, 0))))) (e_T 31 (e_T 29 (e_L 29 (0, ei_bin eF_div 30, 0, 0)) (e_T 30 (e_L 30 (0, ei_load 0 2 31, 0, 0)) (e_L 31 (0, ei_getf eft elay 6 6 34, 0, 0)))) (e_T 35 (e_T 34 (e_L 34 (0, ei_load 2 0 35, 0, 0)) (e_L 35 (0, ei_ald elay false 36, 0, 0))) (e_T 36 (e_L 36 (0, ei_bin eF_rem 37, 0, 0)) (e_L 37 (1, e_nof, 1, 0)))))))
set_option maxRecDepth 20000 in
set_option maxHeartbeats 4000000 in
theorem te_101_0_ok : ∀ pc, e_EOq eft cls elay eI n_101 pc (te_101_0 pc) :=
  (e_Tok2
  (e_Tok2
  (e_Tok2
  (e_Tok2
  (e_Lok (ld_aload_n_0 (x_dk dn_101_0_0_ok 0 rfl)))
  (e_Tok2
  (e_Lok (lk_6_21g ho_101 (x_dk dn_101_0_0_ok 1 rfl)))
  (e_Lok (ld_iload_n_2 (x_dk dn_101_0_0_ok 2 rfl)))))
  (e_Tok2
  (e_Lok (sm_iaload (x_dk dn_101_0_0_ok 3 rfl)))
  (e_Tok2
  (e_Lok (ps_iconst_1 (x_dk dn_101_0_0_ok 4 rfl)))
  (e_Lok (e_st (I := eI) (er_icmplt (off := 13) (tg := 20) (x_dk dn_101_0_0_ok 5 rfl) (by decide)) nx_if2)))))
  (e_Tok2
  (e_Tok2
  (e_Lok (ld_aload_n_0 (x_dk dn_101_0_0_ok 6 rfl)))
  (e_Tok2
  (e_Lok (lk_6_18g ho_101 (x_dk dn_101_0_0_ok 7 rfl)))
  (e_Lok (ld_iload_n_2 (x_dk dn_101_0_0_ok 8 rfl)))))
  (e_Tok2
  (e_Tok2
  (e_Lok (sm_iaload (x_dk dn_101_0_0_ok 9 rfl)))
  (e_Lok (ps_iconst_1 (x_dk dn_101_0_0_ok 10 rfl))))
  (e_Tok2
  (e_Lok (e_st (I := eI) (er_icmpge (off := 5) (tg := 22) (x_dk dn_101_0_0_ok 11 rfl) (by decide)) nx_if2))
  (e_Lok (ps_iconst_0 (x_dk dn_101_0_0_ok 12 rfl)))))))
  (e_Tok2
  (e_Tok2
  (e_Tok2
  (e_Lok (e_rt (I := eI) (k := 1) ⟨(x_dk dn_101_0_0_ok 13 rfl), rfl⟩))
  (e_Tok2
  (e_Lok (ld_iload_n_1 (x_dk dn_101_0_0_ok 14 rfl)))
  (e_Lok (ld_aload_n_0 (x_dk dn_101_0_0_ok 15 rfl)))))
  (e_Tok2
  (e_Lok (lk_6_21g ho_101 (x_dk dn_101_0_0_ok 16 rfl)))
  (e_Tok2
  (e_Lok (ld_iload_n_2 (x_dk dn_101_0_0_ok 17 rfl)))
  (e_Lok (sm_iaload (x_dk dn_101_0_0_ok 18 rfl))))))
  (e_Tok2
  (e_Tok2
  (e_Lok (e_st (I := eI) (er_idiv (x_dk dn_101_0_0_ok 19 rfl)) nx_bin))
  (e_Tok2
  (e_Lok (ld_aload_n_0 (x_dk dn_101_0_0_ok 20 rfl)))
  (e_Lok (lk_6_18g ho_101 (x_dk dn_101_0_0_ok 21 rfl)))))
  (e_Tok2
  (e_Tok2
  (e_Lok (ld_iload_n_2 (x_dk dn_101_0_0_ok 22 rfl)))
  (e_Lok (sm_iaload (x_dk dn_101_0_0_ok 23 rfl))))
  (e_Tok2
  (e_Lok (e_st (I := eI) (er_irem (x_dk dn_101_0_0_ok 24 rfl)) nx_bin))
  (e_Lok (e_rt (I := eI) (k := 1) ⟨(x_dk dn_101_0_1_ok 0 rfl), rfl⟩)))))))
def te_101 : Nat → eE := te_101_0
theorem te_101_ok : ∀ pc, e_EOq eft cls elay eI n_101 pc (te_101 pc) := te_101_0_ok
theorem ho_102 : (xm_y n_102).cls = "RobotCellHouse$Planner" := rfl
def dn_102_0_0 : List (Nat × Instr × Nat) := [(0, .iconst 0, 1), (1, .istore_n 3, 1), (2, .iload_n 3, 1), (3, .aload_n 1, 1), (4, .getfield 67, 3), (7, .if_icmp .ge 43, 3), (10, .aload_n 1, 1), (11, .getfield 70, 3), (14, .iload_n 3, 1), (15, .aaload, 1), (16, .aload_n 0, 1), (17, .getfield 9, 3), (20, .iload_n 3, 1), (21, .iaload, 1), (22, .aload_n 0, 1), (23, .iload_n 2, 1), (24, .iload_n 3, 1), (25, .invokevirtual 116, 3), (28, .aload_n 0, 1), (29, .getfield 15, 3), (32, .iload_n 3, 1), (33, .iaload, 1), (34, .isub, 1), (35, .aload_n 0, 1), (36, .getfield 58, 3)]
set_option maxRecDepth 20000 in
theorem dn_102_0_0_ok : dn_102_0_0.all (fun q => decide (decode (xm_b n_102) q.1 = .ok (q.2.1, q.2.2))) = true := xa_g_ok (by decide +kernel)
def dn_102_0_1 : List (Nat × Instr × Nat) := [(39, .imul, 1), (40, .iadd, 1), (41, .putfield 74, 3), (44, .iinc 3 1, 3), (47, .goto (-45), 3), (50, .return_, 1)]
set_option maxRecDepth 20000 in
theorem dn_102_0_1_ok : dn_102_0_1.all (fun q => decide (decode (xm_b n_102) q.1 = .ok (q.2.1, q.2.2))) = true := xa_g_ok (by decide +kernel)
def te_102_0 : Nat → eE := (e_T 22 (e_T 10 (e_T 2 (e_T 0 (e_L 0 (0, ei_push (0, 0) 1, 0, 0)) (e_T 1 (e_L 1 (0, ei_stor 3 0 2, 0, 0)) (e_L 2 (0, ei_load 3 0 3, 0, 0)))) (e_T 4 (e_T 3 (e_L 3 (0, ei_load 1 2 4, 0, 0)) (e_L 4 (0, ei_getf eft elay 0 8 7, 0, 0))) (e_T 7 (e_L 7 (0, ei_if2 3 50 10, 0, 0)) (e_L 10 (0, ei_load 1 2 11, 0, 0))))) (e_T 16 (e_T 14 (e_T 11 (e_L 11 (0, ei_getf eft elay 0 0 14, 0, 0)) (e_L 14 (0, ei_load 3 0 15, 0, 0))) (e_T 15 (e_L 15 (0, ei_aald elay 16, 0, 0)) (e_L 16 (0, ei_load 0 2 17, 0, 0)))) (e_T 20 (e_T 17 (e_L 17 (0, ei_getf eft elay 6 4 20, 0, 0)) (e_L 20 (0, ei_load 3 0 21, 0, 0))) (e_T 21 (e_L 21 (0, ei_ald elay false 22, 0, 0)) (e_L 22 (0, ei_load 0 2 23, 0, 0)))))) (e_T 34 (e_T 28 (e_T 24 (e_T 23 (e_L 23 (0, ei_load 2 0 24, 0, 0)) (e_L 24 (0, ei_load 3 0 25, 0, 0))) (e_T 25 (e_L 25 (2, e_nof, 101, 3)) (e_L 28 (0, ei_load 0 2 29, 0, 0)))) (e_T 32 (e_T 29 (e_L 29 (0, ei_getf eft elay 6 5 32, 0, 0)) (e_L 32 (0, ei_load 3 0 33, 0, 0))) (e_T 33 (e_L 33 (0, ei_ald elay false 34, 0, 0)) (e_L 34 (0, ei_bin eF_sub 35, 0, 0))))) (e_T 40 (e_T 36 (e_T 35 (e_L 35 (0, ei_load 0 2 36, 0, 0)) (e_L 36 (0, ei_getf eft elay 6 1 39, 0, 0))) (e_T 39 (e_L 39 (0, ei_bin eF_mul 40, 0, 0)) (e_L 40 (0, ei_bin eF_add 41, 0, 0)))) (e_T 44 (e_T 41 (e_L 41 (0, ei_putf eft elay 5 7 0 44, 0, 0)) (e_L 44 (0, ei_inc 3 1 47, 0, 0))) (e_T 47 (e_L 47 (0, ei_goto 2, 0, 0)) (e_L 50 (1, e_nof, 0, 0)))))))
set_option maxRecDepth 20000 in
set_option maxHeartbeats 4000000 in
theorem te_102_0_ok : ∀ pc, e_EOq eft cls elay eI n_102 pc (te_102_0 pc) :=
  (e_Tok2
  (e_Tok2
  (e_Tok2
  (e_Tok2
  (e_Lok (ps_iconst_0 (x_dk dn_102_0_0_ok 0 rfl)))
  (e_Tok2
  (e_Lok (e_st (I := eI) (er_istore_n (i := 3) (x_dk dn_102_0_0_ok 1 rfl) (by decide +kernel)) nx_stor))
  (e_Lok (ld_iload_n_3 (x_dk dn_102_0_0_ok 2 rfl)))))
  (e_Tok2
  (e_Tok2
  (e_Lok (ld_aload_n_1 (x_dk dn_102_0_0_ok 3 rfl)))
  (e_Lok (lk_6_67g ho_102 (x_dk dn_102_0_0_ok 4 rfl))))
  (e_Tok2
  (e_Lok (e_st (I := eI) (er_icmpge (off := 43) (tg := 50) (x_dk dn_102_0_0_ok 5 rfl) (by decide)) nx_if2))
  (e_Lok (ld_aload_n_1 (x_dk dn_102_0_0_ok 6 rfl))))))
  (e_Tok2
  (e_Tok2
  (e_Tok2
  (e_Lok (lk_6_70g ho_102 (x_dk dn_102_0_0_ok 7 rfl)))
  (e_Lok (ld_iload_n_3 (x_dk dn_102_0_0_ok 8 rfl))))
  (e_Tok2
  (e_Lok (e_st (I := eI) (er_aaload (x_dk dn_102_0_0_ok 9 rfl)) nx_aald))
  (e_Lok (ld_aload_n_0 (x_dk dn_102_0_0_ok 10 rfl)))))
  (e_Tok2
  (e_Tok2
  (e_Lok (lk_6_9g ho_102 (x_dk dn_102_0_0_ok 11 rfl)))
  (e_Lok (ld_iload_n_3 (x_dk dn_102_0_0_ok 12 rfl))))
  (e_Tok2
  (e_Lok (sm_iaload (x_dk dn_102_0_0_ok 13 rfl)))
  (e_Lok (ld_aload_n_0 (x_dk dn_102_0_0_ok 14 rfl)))))))
  (e_Tok2
  (e_Tok2
  (e_Tok2
  (e_Tok2
  (e_Lok (ld_iload_n_2 (x_dk dn_102_0_0_ok 15 rfl)))
  (e_Lok (ld_iload_n_3 (x_dk dn_102_0_0_ok 16 rfl))))
  (e_Tok2
  (e_Lok (lk_6_116 ho_102 (x_dk dn_102_0_0_ok 17 rfl)))
  (e_Lok (ld_aload_n_0 (x_dk dn_102_0_0_ok 18 rfl)))))
  (e_Tok2
  (e_Tok2
  (e_Lok (lk_6_15g ho_102 (x_dk dn_102_0_0_ok 19 rfl)))
  (e_Lok (ld_iload_n_3 (x_dk dn_102_0_0_ok 20 rfl))))
  (e_Tok2
  (e_Lok (sm_iaload (x_dk dn_102_0_0_ok 21 rfl)))
  (e_Lok (sm_isub (x_dk dn_102_0_0_ok 22 rfl))))))
  (e_Tok2
  (e_Tok2
  (e_Tok2
  (e_Lok (ld_aload_n_0 (x_dk dn_102_0_0_ok 23 rfl)))
  (e_Lok (lk_6_58g ho_102 (x_dk dn_102_0_0_ok 24 rfl))))
  (e_Tok2
  (e_Lok (sm_imul (x_dk dn_102_0_1_ok 0 rfl)))
  (e_Lok (sm_iadd (x_dk dn_102_0_1_ok 1 rfl)))))
  (e_Tok2
  (e_Tok2
  (e_Lok (lk_6_74p ho_102 (x_dk dn_102_0_1_ok 2 rfl)))
  (e_Lok (e_st (I := eI) (er_iinc (i := 3) (n := 1) (x_dk dn_102_0_1_ok 3 rfl) (by decide +kernel) (by decide)) nx_inc)))
  (e_Tok2
  (e_Lok (e_st (I := eI) (er_goto (off := (-45)) (tg := 2) (x_dk dn_102_0_1_ok 4 rfl) (by decide)) nx_goto))
  (e_Lok (e_rt (I := eI) (k := 0) ⟨(x_dk dn_102_0_1_ok 5 rfl), rfl⟩)))))))
def te_102 : Nat → eE := te_102_0
theorem te_102_ok : ∀ pc, e_EOq eft cls elay eI n_102 pc (te_102 pc) := te_102_0_ok
theorem ho_103 : (xm_y n_103).cls = "RobotCellHouse$Planner" := rfl
def dn_103_0_0 : List (Nat × Instr × Nat) := [(0, .iload_n 2, 1), (1, .iconst 2, 1), (2, .idiv, 1), (3, .istore_n 3, 1), (4, .aload_n 0, 1), (5, .iload_n 1, 1), (6, .iload_n 3, 1), (7, .invokevirtual 116, 3), (10, .iload_n 2, 1), (11, .iconst 2, 1), (12, .irem, 1), (13, .ifCond .ne 7, 3), (16, .iconst 1, 1), (17, .goto 4, 3), (20, .iconst (-1), 1), (21, .iadd, 1), (22, .istore 4, 2), (24, .iload 4, 2), (26, .iconst 0, 1), (27, .aload_n 0, 1), (28, .getfield 18, 3), (31, .iload_n 3, 1), (32, .iaload, 1), (33, .iconst 1, 1), (34, .isub, 1)]
set_option maxRecDepth 20000 in
theorem dn_103_0_0_ok : dn_103_0_0.all (fun q => decide (decode (xm_b n_103) q.1 = .ok (q.2.1, q.2.2))) = true := xa_g_ok (by decide +kernel)
def dn_103_0_1 : List (Nat × Instr × Nat) := [(35, .invokestatic 41, 3), (38, .ifCond .ne 5, 3), (41, .iconst (-1), 1), (42, .ireturn, 1), (43, .iload_n 2, 1), (44, .iconst 2, 1), (45, .irem, 1), (46, .ifCond .ne 14, 3), (49, .iload_n 1, 1), (50, .aload_n 0, 1), (51, .getfield 21, 3), (54, .iload_n 3, 1), (55, .iaload, 1), (56, .iadd, 1), (57, .goto 11, 3), (60, .iload_n 1, 1), (61, .aload_n 0, 1), (62, .getfield 21, 3), (65, .iload_n 3, 1), (66, .iaload, 1), (67, .isub, 1), (68, .ireturn, 1)]
set_option maxRecDepth 20000 in
theorem dn_103_0_1_ok : dn_103_0_1.all (fun q => decide (decode (xm_b n_103) q.1 = .ok (q.2.1, q.2.2))) = true := xa_g_ok (by decide +kernel)
def te_103_0 : Nat → eE := (e_T 12 (e_T 4 (e_T 1 (e_T 0 (e_L 0 (0, ei_load 2 0 1, 0, 0)) (e_L 1 (0, ei_push (0, 2) 2, 0, 0))) (e_T 2 (e_L 2 (0, ei_bin eF_div 3, 0, 0)) (e_T 3 (e_L 3 (0, ei_stor 3 0 4, 0, 0)) (e_L 4 (0, ei_load 0 2 5, 0, 0))))) (e_T 7 (e_T 5 (e_L 5 (0, ei_load 1 0 6, 0, 0)) (e_T 6 (e_L 6 (0, ei_load 3 0 7, 0, 0)) (e_L 7 (2, e_nof, 101, 3)))) (e_T 10 (e_L 10 (0, ei_load 2 0 11, 0, 0)) (e_T 11 (e_L 11 (0, ei_push (0, 2) 12, 0, 0)) (e_L 12 (0, ei_bin eF_rem 13, 0, 0)))))) (e_T 22 (e_T 17 (e_T 13 (e_L 13 (0, ei_if1 1 20 16, 0, 0)) (e_T 16 (e_L 16 (0, ei_push (0, 1) 17, 0, 0)) (e_L 17 (0, ei_goto 21, 0, 0)))) (e_T 20 (e_L 20 (0, ei_push (0, (-1)) 21, 0, 0)) (e_T 21 (e_L 21 (0, ei_bin eF_add 22, 0, 0)) (e_L 22 (0, ei_stor 4 0 24, 0, 0))))) (e_T 27 (e_T 24 (e_L 24 (0, ei_load 4 0 26, 0, 0)) (e_T 26 (e_L 26 (0, ei_push (0, 0) 27, 0, 0)) (e_L 27 (0, ei_load 0 2 28, 0, 0)))) (e_T 28 (e_L 28 (0, ei_getf eft elay 6 6 31, 0, 0)) (e_T 31 (e_L 31 (0, ei_load 3 0 32, 0, 0)) (e_L 32 (0, ei_ald elay false 33, 0, 0)))))))
set_option maxRecDepth 20000 in
set_option maxHeartbeats 4000000 in
theorem te_103_0_ok : ∀ pc, e_EOq eft cls elay eI n_103 pc (te_103_0 pc) :=
  (e_Tok2
  (e_Tok2
  (e_Tok2
  (e_Tok2
  (e_Lok (ld_iload_n_2 (x_dk dn_103_0_0_ok 0 rfl)))
  (e_Lok (ps_iconst_2 (x_dk dn_103_0_0_ok 1 rfl))))
  (e_Tok2
  (e_Lok (e_st (I := eI) (er_idiv (x_dk dn_103_0_0_ok 2 rfl)) nx_bin))
  (e_Tok2
  (e_Lok (e_st (I := eI) (er_istore_n (i := 3) (x_dk dn_103_0_0_ok 3 rfl) (by decide +kernel)) nx_stor))
  (e_Lok (ld_aload_n_0 (x_dk dn_103_0_0_ok 4 rfl))))))
  (e_Tok2
  (e_Tok2
  (e_Lok (ld_iload_n_1 (x_dk dn_103_0_0_ok 5 rfl)))
  (e_Tok2
  (e_Lok (ld_iload_n_3 (x_dk dn_103_0_0_ok 6 rfl)))
  (e_Lok (lk_6_116 ho_103 (x_dk dn_103_0_0_ok 7 rfl)))))
  (e_Tok2
  (e_Lok (ld_iload_n_2 (x_dk dn_103_0_0_ok 8 rfl)))
  (e_Tok2
  (e_Lok (ps_iconst_2 (x_dk dn_103_0_0_ok 9 rfl)))
  (e_Lok (e_st (I := eI) (er_irem (x_dk dn_103_0_0_ok 10 rfl)) nx_bin))))))
  (e_Tok2
  (e_Tok2
  (e_Tok2
  (e_Lok (e_st (I := eI) (er_ifne (off := 7) (tg := 20) (x_dk dn_103_0_0_ok 11 rfl) (by decide)) nx_if1))
  (e_Tok2
  (e_Lok (ps_iconst_1 (x_dk dn_103_0_0_ok 12 rfl)))
  (e_Lok (e_st (I := eI) (er_goto (off := 4) (tg := 21) (x_dk dn_103_0_0_ok 13 rfl) (by decide)) nx_goto))))
  (e_Tok2
  (e_Lok (ps_iconst_m1 (x_dk dn_103_0_0_ok 14 rfl)))
  (e_Tok2
  (e_Lok (sm_iadd (x_dk dn_103_0_0_ok 15 rfl)))
  (e_Lok (e_st (I := eI) (er_istore (i := 4) (x_dk dn_103_0_0_ok 16 rfl) (by decide +kernel)) nx_stor)))))
  (e_Tok2
  (e_Tok2
  (e_Lok (ld_iload_4 (x_dk dn_103_0_0_ok 17 rfl)))
  (e_Tok2
  (e_Lok (ps_iconst_0 (x_dk dn_103_0_0_ok 18 rfl)))
  (e_Lok (ld_aload_n_0 (x_dk dn_103_0_0_ok 19 rfl)))))
  (e_Tok2
  (e_Lok (lk_6_18g ho_103 (x_dk dn_103_0_0_ok 20 rfl)))
  (e_Tok2
  (e_Lok (ld_iload_n_3 (x_dk dn_103_0_0_ok 21 rfl)))
  (e_Lok (sm_iaload (x_dk dn_103_0_0_ok 22 rfl))))))))
def te_103_23 : Nat → eE := (e_T 50 (e_T 42 (e_T 35 (e_T 33 (e_L 33 (0, ei_push (0, 1) 34, 0, 0)) (e_T 34 (e_L 34 (0, ei_bin eF_sub 35, 0, 0)) (e_L 35 (2, e_nof, 242, 3)))) (e_T 38 (e_L 38 (0, ei_if1 1 43 41, 0, 0)) (e_T 41 (e_L 41 (0, ei_push (0, (-1)) 42, 0, 0)) (e_L 42 (1, e_nof, 1, 0))))) (e_T 45 (e_T 43 (e_L 43 (0, ei_load 2 0 44, 0, 0)) (e_T 44 (e_L 44 (0, ei_push (0, 2) 45, 0, 0)) (e_L 45 (0, ei_bin eF_rem 46, 0, 0)))) (e_T 46 (e_L 46 (0, ei_if1 1 60 49, 0, 0)) (e_T 49 (e_L 49 (0, ei_load 1 0 50, 0, 0)) (e_L 50 (0, ei_load 0 2 51, 0, 0)))))) (e_T 60 (e_T 55 (e_T 51 (e_L 51 (0, ei_getf eft elay 6 7 54, 0, 0)) (e_T 54 (e_L 54 (0, ei_load 3 0 55, 0, 0)) (e_L 55 (0, ei_ald elay false 56, 0, 0)))) (e_T 56 (e_L 56 (0, ei_bin eF_add 57, 0, 0)) (e_T 57 (e_L 57 (0, ei_goto 68, 0, 0)) (e_L 60 (0, ei_load 1 0 61, 0, 0))))) (e_T 65 (e_T 61 (e_L 61 (0, ei_load 0 2 62, 0, 0)) (e_T 62 (e_L 62 (0, ei_getf eft elay 6 7 65, 0, 0)) (e_L 65 (0, ei_load 3 0 66, 0, 0)))) (e_T 66 (e_L 66 (0, ei_ald elay false 67, 0, 0)) (e_T 67 (e_L 67 (0, ei_bin eF_sub 68, 0, 0)) (e_L 68 (1, e_nof, 1, 0)))))))
set_option maxRecDepth 20000 in
set_option maxHeartbeats 4000000 in
theorem te_103_23_ok : ∀ pc, e_EOq eft cls elay eI n_103 pc (te_103_23 pc) :=
  (e_Tok2
  (e_Tok2
  (e_Tok2
  (e_Tok2
  (e_Lok (ps_iconst_1 (x_dk dn_103_0_0_ok 23 rfl)))
  (e_Tok2
  (e_Lok (sm_isub (x_dk dn_103_0_0_ok 24 rfl)))
  (e_Lok (lk_6_41 ho_103 (x_dk dn_103_0_1_ok 0 rfl)))))
  (e_Tok2
  (e_Lok (e_st (I := eI) (er_ifne (off := 5) (tg := 43) (x_dk dn_103_0_1_ok 1 rfl) (by decide)) nx_if1))
  (e_Tok2
  (e_Lok (ps_iconst_m1 (x_dk dn_103_0_1_ok 2 rfl)))
  (e_Lok (e_rt (I := eI) (k := 1) ⟨(x_dk dn_103_0_1_ok 3 rfl), rfl⟩)))))
  (e_Tok2
  (e_Tok2
  (e_Lok (ld_iload_n_2 (x_dk dn_103_0_1_ok 4 rfl)))
  (e_Tok2
  (e_Lok (ps_iconst_2 (x_dk dn_103_0_1_ok 5 rfl)))
  (e_Lok (e_st (I := eI) (er_irem (x_dk dn_103_0_1_ok 6 rfl)) nx_bin))))
  (e_Tok2
  (e_Lok (e_st (I := eI) (er_ifne (off := 14) (tg := 60) (x_dk dn_103_0_1_ok 7 rfl) (by decide)) nx_if1))
  (e_Tok2
  (e_Lok (ld_iload_n_1 (x_dk dn_103_0_1_ok 8 rfl)))
  (e_Lok (ld_aload_n_0 (x_dk dn_103_0_1_ok 9 rfl)))))))
  (e_Tok2
  (e_Tok2
  (e_Tok2
  (e_Lok (lk_6_21g ho_103 (x_dk dn_103_0_1_ok 10 rfl)))
  (e_Tok2
  (e_Lok (ld_iload_n_3 (x_dk dn_103_0_1_ok 11 rfl)))
  (e_Lok (sm_iaload (x_dk dn_103_0_1_ok 12 rfl)))))
  (e_Tok2
  (e_Lok (sm_iadd (x_dk dn_103_0_1_ok 13 rfl)))
  (e_Tok2
  (e_Lok (e_st (I := eI) (er_goto (off := 11) (tg := 68) (x_dk dn_103_0_1_ok 14 rfl) (by decide)) nx_goto))
  (e_Lok (ld_iload_n_1 (x_dk dn_103_0_1_ok 15 rfl))))))
  (e_Tok2
  (e_Tok2
  (e_Lok (ld_aload_n_0 (x_dk dn_103_0_1_ok 16 rfl)))
  (e_Tok2
  (e_Lok (lk_6_21g ho_103 (x_dk dn_103_0_1_ok 17 rfl)))
  (e_Lok (ld_iload_n_3 (x_dk dn_103_0_1_ok 18 rfl)))))
  (e_Tok2
  (e_Lok (sm_iaload (x_dk dn_103_0_1_ok 19 rfl)))
  (e_Tok2
  (e_Lok (sm_isub (x_dk dn_103_0_1_ok 20 rfl)))
  (e_Lok (e_rt (I := eI) (k := 1) ⟨(x_dk dn_103_0_1_ok 21 rfl), rfl⟩)))))))
def te_103 : Nat → eE := (e_T 32 te_103_0 te_103_23)
theorem te_103_ok : ∀ pc, e_EOq eft cls elay eI n_103 pc (te_103 pc) := (e_Tok2 (te_103_0_ok) (te_103_23_ok))
theorem ho_104 : (xm_y n_104).cls = "RobotCellHouse$Planner" := rfl
def dn_104_0_0 : List (Nat × Instr × Nat) := [(0, .aload_n 1, 1), (1, .iload 4, 2), (3, .aaload, 1), (4, .getfield 70, 3), (7, .iload 5, 2), (9, .iconst 2, 1), (10, .idiv, 1), (11, .aaload, 1), (12, .astore 7, 2), (14, .aload 7, 2), (16, .getfield 74, 3), (19, .istore 8, 2), (21, .iconst 1, 1), (22, .istore 9, 2), (24, .aload_n 0, 1), (25, .getfield 58, 3), (28, .istore 10, 2), (30, .iload 10, 2), (32, .ifCond .le 91, 3), (35, .iload 9, 2), (37, .ifCond .eq 86, 3), (40, .aload 7, 2), (42, .iload 5, 2), (44, .iconst 2, 1), (45, .irem, 1)]
set_option maxRecDepth 20000 in
theorem dn_104_0_0_ok : dn_104_0_0.all (fun q => decide (decode (xm_b n_104) q.1 = .ok (q.2.1, q.2.2))) = true := xa_g_ok (by decide +kernel)
def dn_104_0_1 : List (Nat × Instr × Nat) := [(46, .ifCond .ne 11, 3), (49, .iload 8, 2), (51, .iload 10, 2), (53, .iadd, 1), (54, .goto 8, 3), (57, .iload 8, 2), (59, .iload 10, 2), (61, .isub, 1), (62, .putfield 74, 3), (65, .aload_n 1, 1), (66, .iload 4, 2), (68, .aaload, 1), (69, .invokevirtual 113, 3), (72, .aload_n 3, 1), (73, .aload_n 1, 1), (74, .iload_n 2, 1), (75, .iload 4, 2), (77, .iconst 0, 1), (78, .aload_n 0, 1), (79, .getfield 61, 3), (82, .invokevirtual 95, 3), (85, .ifCond .ne 7, 3), (88, .iconst 1, 1), (89, .goto 4, 3), (92, .iconst 0, 1)]
set_option maxRecDepth 20000 in
theorem dn_104_0_1_ok : dn_104_0_1.all (fun q => decide (decode (xm_b n_104) q.1 = .ok (q.2.1, q.2.2))) = true := xa_g_ok (by decide +kernel)
def dn_104_0_2 : List (Nat × Instr × Nat) := [(93, .istore 9, 2), (95, .iload 9, 2), (97, .ifCond .ne 20, 3), (100, .iload 10, 2), (102, .aload_n 0, 1), (103, .getfield 58, 3), (106, .if_icmp .ne 11, 3), (109, .aload_n 0, 1), (110, .getfield 27, 3), (113, .iload 6, 2), (115, .iconst (-1), 1), (116, .iastore, 1), (117, .iinc 10 (-1), 3), (120, .goto (-90), 3), (123, .aload 7, 2), (125, .iload 8, 2), (127, .putfield 74, 3), (130, .iload 9, 2), (132, .ireturn, 1)]
set_option maxRecDepth 20000 in
theorem dn_104_0_2_ok : dn_104_0_2.all (fun q => decide (decode (xm_b n_104) q.1 = .ok (q.2.1, q.2.2))) = true := xa_g_ok (by decide +kernel)
def te_104_0 : Nat → eE := (e_T 28 (e_T 11 (e_T 4 (e_T 1 (e_T 0 (e_L 0 (0, ei_load 1 2 1, 0, 0)) (e_L 1 (0, ei_load 4 0 3, 0, 0))) (e_T 3 (e_L 3 (0, ei_aald elay 4, 0, 0)) (e_L 4 (0, ei_getf eft elay 0 0 7, 0, 0)))) (e_T 9 (e_T 7 (e_L 7 (0, ei_load 5 0 9, 0, 0)) (e_L 9 (0, ei_push (0, 2) 10, 0, 0))) (e_T 10 (e_L 10 (0, ei_bin eF_div 11, 0, 0)) (e_L 11 (0, ei_aald elay 12, 0, 0))))) (e_T 19 (e_T 14 (e_T 12 (e_L 12 (0, ei_stor 7 2 14, 0, 0)) (e_L 14 (0, ei_load 7 2 16, 0, 0))) (e_T 16 (e_L 16 (0, ei_getf eft elay 5 7 19, 0, 0)) (e_L 19 (0, ei_stor 8 0 21, 0, 0)))) (e_T 22 (e_T 21 (e_L 21 (0, ei_push (0, 1) 22, 0, 0)) (e_L 22 (0, ei_stor 9 0 24, 0, 0))) (e_T 24 (e_L 24 (0, ei_load 0 2 25, 0, 0)) (e_T 25 (e_L 25 (0, ei_getf eft elay 6 1 28, 0, 0)) (e_L 28 (0, ei_stor 10 0 30, 0, 0))))))) (e_T 45 (e_T 37 (e_T 32 (e_T 30 (e_L 30 (0, ei_load 10 0 32, 0, 0)) (e_L 32 (0, ei_if1 5 123 35, 0, 0))) (e_T 35 (e_L 35 (0, ei_load 9 0 37, 0, 0)) (e_L 37 (0, ei_if1 0 123 40, 0, 0)))) (e_T 42 (e_T 40 (e_L 40 (0, ei_load 7 2 42, 0, 0)) (e_L 42 (0, ei_load 5 0 44, 0, 0))) (e_T 44 (e_L 44 (0, ei_push (0, 2) 45, 0, 0)) (e_L 45 (0, ei_bin eF_rem 46, 0, 0))))) (e_T 53 (e_T 49 (e_T 46 (e_L 46 (0, ei_if1 1 57 49, 0, 0)) (e_L 49 (0, ei_load 8 0 51, 0, 0))) (e_T 51 (e_L 51 (0, ei_load 10 0 53, 0, 0)) (e_L 53 (0, ei_bin eF_add 54, 0, 0)))) (e_T 57 (e_T 54 (e_L 54 (0, ei_goto 62, 0, 0)) (e_L 57 (0, ei_load 8 0 59, 0, 0))) (e_T 59 (e_L 59 (0, ei_load 10 0 61, 0, 0)) (e_T 61 (e_L 61 (0, ei_bin eF_sub 62, 0, 0)) (e_L 62 (0, ei_putf eft elay 5 7 0 65, 0, 0))))))))
set_option maxRecDepth 20000 in
set_option maxHeartbeats 4000000 in
theorem te_104_0_ok : ∀ pc, e_EOq eft cls elay eI n_104 pc (te_104_0 pc) :=
  (e_Tok2
  (e_Tok2
  (e_Tok2
  (e_Tok2
  (e_Tok2
  (e_Lok (ld_aload_n_1 (x_dk dn_104_0_0_ok 0 rfl)))
  (e_Lok (ld_iload_4 (x_dk dn_104_0_0_ok 1 rfl))))
  (e_Tok2
  (e_Lok (e_st (I := eI) (er_aaload (x_dk dn_104_0_0_ok 2 rfl)) nx_aald))
  (e_Lok (lk_6_70g ho_104 (x_dk dn_104_0_0_ok 3 rfl)))))
  (e_Tok2
  (e_Tok2
  (e_Lok (ld_iload_5 (x_dk dn_104_0_0_ok 4 rfl)))
  (e_Lok (ps_iconst_2 (x_dk dn_104_0_0_ok 5 rfl))))
  (e_Tok2
  (e_Lok (e_st (I := eI) (er_idiv (x_dk dn_104_0_0_ok 6 rfl)) nx_bin))
  (e_Lok (e_st (I := eI) (er_aaload (x_dk dn_104_0_0_ok 7 rfl)) nx_aald)))))
  (e_Tok2
  (e_Tok2
  (e_Tok2
  (e_Lok (e_st (I := eI) (er_astore (i := 7) (x_dk dn_104_0_0_ok 8 rfl) (by decide +kernel)) nx_stor))
  (e_Lok (ld_aload_7 (x_dk dn_104_0_0_ok 9 rfl))))
  (e_Tok2
  (e_Lok (lk_6_74g ho_104 (x_dk dn_104_0_0_ok 10 rfl)))
  (e_Lok (e_st (I := eI) (er_istore (i := 8) (x_dk dn_104_0_0_ok 11 rfl) (by decide +kernel)) nx_stor))))
  (e_Tok2
  (e_Tok2
  (e_Lok (ps_iconst_1 (x_dk dn_104_0_0_ok 12 rfl)))
  (e_Lok (e_st (I := eI) (er_istore (i := 9) (x_dk dn_104_0_0_ok 13 rfl) (by decide +kernel)) nx_stor)))
  (e_Tok2
  (e_Lok (ld_aload_n_0 (x_dk dn_104_0_0_ok 14 rfl)))
  (e_Tok2
  (e_Lok (lk_6_58g ho_104 (x_dk dn_104_0_0_ok 15 rfl)))
  (e_Lok (e_st (I := eI) (er_istore (i := 10) (x_dk dn_104_0_0_ok 16 rfl) (by decide +kernel)) nx_stor)))))))
  (e_Tok2
  (e_Tok2
  (e_Tok2
  (e_Tok2
  (e_Lok (ld_iload_10 (x_dk dn_104_0_0_ok 17 rfl)))
  (e_Lok (e_st (I := eI) (er_ifle (off := 91) (tg := 123) (x_dk dn_104_0_0_ok 18 rfl) (by decide)) nx_if1)))
  (e_Tok2
  (e_Lok (ld_iload_9 (x_dk dn_104_0_0_ok 19 rfl)))
  (e_Lok (e_st (I := eI) (er_ifeq (off := 86) (tg := 123) (x_dk dn_104_0_0_ok 20 rfl) (by decide)) nx_if1))))
  (e_Tok2
  (e_Tok2
  (e_Lok (ld_aload_7 (x_dk dn_104_0_0_ok 21 rfl)))
  (e_Lok (ld_iload_5 (x_dk dn_104_0_0_ok 22 rfl))))
  (e_Tok2
  (e_Lok (ps_iconst_2 (x_dk dn_104_0_0_ok 23 rfl)))
  (e_Lok (e_st (I := eI) (er_irem (x_dk dn_104_0_0_ok 24 rfl)) nx_bin)))))
  (e_Tok2
  (e_Tok2
  (e_Tok2
  (e_Lok (e_st (I := eI) (er_ifne (off := 11) (tg := 57) (x_dk dn_104_0_1_ok 0 rfl) (by decide)) nx_if1))
  (e_Lok (ld_iload_8 (x_dk dn_104_0_1_ok 1 rfl))))
  (e_Tok2
  (e_Lok (ld_iload_10 (x_dk dn_104_0_1_ok 2 rfl)))
  (e_Lok (sm_iadd (x_dk dn_104_0_1_ok 3 rfl)))))
  (e_Tok2
  (e_Tok2
  (e_Lok (e_st (I := eI) (er_goto (off := 8) (tg := 62) (x_dk dn_104_0_1_ok 4 rfl) (by decide)) nx_goto))
  (e_Lok (ld_iload_8 (x_dk dn_104_0_1_ok 5 rfl))))
  (e_Tok2
  (e_Lok (ld_iload_10 (x_dk dn_104_0_1_ok 6 rfl)))
  (e_Tok2
  (e_Lok (sm_isub (x_dk dn_104_0_1_ok 7 rfl)))
  (e_Lok (lk_6_74p ho_104 (x_dk dn_104_0_1_ok 8 rfl)))))))))
def te_104_34 : Nat → eE := (e_T 93 (e_T 75 (e_T 69 (e_T 66 (e_T 65 (e_L 65 (0, ei_load 1 2 66, 0, 0)) (e_L 66 (0, ei_load 4 0 68, 0, 0))) (e_T 68 (e_L 68 (0, ei_aald elay 69, 0, 0)) (e_L 69 (2, e_nof, 10, 1)))) (e_T 73 (e_T 72 (e_L 72 (0, ei_load 3 2 73, 0, 0)) (e_L 73 (0, ei_load 1 2 74, 0, 0))) (e_T 74 (e_L 74 (0, ei_load 2 0 75, 0, 0)) (e_L 75 (0, ei_load 4 0 77, 0, 0))))) (e_T 82 (e_T 78 (e_T 77 (e_L 77 (0, ei_push (0, 0) 78, 0, 0)) (e_L 78 (0, ei_load 0 2 79, 0, 0))) (e_T 79 (e_L 79 (0, ei_getf eft elay 6 2 82, 0, 0)) (e_L 82 (2, e_nof, 171, 6)))) (e_T 88 (e_T 85 (e_L 85 (0, ei_if1 1 92 88, 0, 0)) (e_L 88 (0, ei_push (0, 1) 89, 0, 0))) (e_T 89 (e_L 89 (0, ei_goto 93, 0, 0)) (e_T 92 (e_L 92 (0, ei_push (0, 0) 93, 0, 0)) (e_L 93 (0, ei_stor 9 0 95, 0, 0))))))) (e_T 113 (e_T 102 (e_T 97 (e_T 95 (e_L 95 (0, ei_load 9 0 97, 0, 0)) (e_L 97 (0, ei_if1 1 117 100, 0, 0))) (e_T 100 (e_L 100 (0, ei_load 10 0 102, 0, 0)) (e_L 102 (0, ei_load 0 2 103, 0, 0)))) (e_T 106 (e_T 103 (e_L 103 (0, ei_getf eft elay 6 1 106, 0, 0)) (e_L 106 (0, ei_if2 1 117 109, 0, 0))) (e_T 109 (e_L 109 (0, ei_load 0 2 110, 0, 0)) (e_T 110 (e_L 110 (0, ei_getf eft elay 6 9 113, 0, 0)) (e_L 113 (0, ei_load 6 0 115, 0, 0)))))) (e_T 120 (e_T 116 (e_T 115 (e_L 115 (0, ei_push (0, (-1)) 116, 0, 0)) (e_L 116 (0, ei_ast elay false 117, 0, 0))) (e_T 117 (e_L 117 (0, ei_inc 10 (-1) 120, 0, 0)) (e_L 120 (0, ei_goto 30, 0, 0)))) (e_T 125 (e_T 123 (e_L 123 (0, ei_load 7 2 125, 0, 0)) (e_L 125 (0, ei_load 8 0 127, 0, 0))) (e_T 127 (e_L 127 (0, ei_putf eft elay 5 7 0 130, 0, 0)) (e_T 130 (e_L 130 (0, ei_load 9 0 132, 0, 0)) (e_L 132 (1, e_nof, 4, 0))))))))
set_option maxRecDepth 20000 in
set_option maxHeartbeats 4000000 in
theorem te_104_34_ok : ∀ pc, e_EOq eft cls elay eI n_104 pc (te_104_34 pc) :=
  (e_Tok2
  (e_Tok2
  (e_Tok2
  (e_Tok2
  (e_Tok2
  (e_Lok (ld_aload_n_1 (x_dk dn_104_0_1_ok 9 rfl)))
  (e_Lok (ld_iload_4 (x_dk dn_104_0_1_ok 10 rfl))))
  (e_Tok2
  (e_Lok (e_st (I := eI) (er_aaload (x_dk dn_104_0_1_ok 11 rfl)) nx_aald))
  (e_Lok (lk_6_113 ho_104 (x_dk dn_104_0_1_ok 12 rfl)))))
  (e_Tok2
  (e_Tok2
  (e_Lok (ld_aload_n_3 (x_dk dn_104_0_1_ok 13 rfl)))
  (e_Lok (ld_aload_n_1 (x_dk dn_104_0_1_ok 14 rfl))))
  (e_Tok2
  (e_Lok (ld_iload_n_2 (x_dk dn_104_0_1_ok 15 rfl)))
  (e_Lok (ld_iload_4 (x_dk dn_104_0_1_ok 16 rfl))))))
  (e_Tok2
  (e_Tok2
  (e_Tok2
  (e_Lok (ps_iconst_0 (x_dk dn_104_0_1_ok 17 rfl)))
  (e_Lok (ld_aload_n_0 (x_dk dn_104_0_1_ok 18 rfl))))
  (e_Tok2
  (e_Lok (lk_6_61g ho_104 (x_dk dn_104_0_1_ok 19 rfl)))
  (e_Lok (lk_6_95 ho_104 (x_dk dn_104_0_1_ok 20 rfl)))))
  (e_Tok2
  (e_Tok2
  (e_Lok (e_st (I := eI) (er_ifne (off := 7) (tg := 92) (x_dk dn_104_0_1_ok 21 rfl) (by decide)) nx_if1))
  (e_Lok (ps_iconst_1 (x_dk dn_104_0_1_ok 22 rfl))))
  (e_Tok2
  (e_Lok (e_st (I := eI) (er_goto (off := 4) (tg := 93) (x_dk dn_104_0_1_ok 23 rfl) (by decide)) nx_goto))
  (e_Tok2
  (e_Lok (ps_iconst_0 (x_dk dn_104_0_1_ok 24 rfl)))
  (e_Lok (e_st (I := eI) (er_istore (i := 9) (x_dk dn_104_0_2_ok 0 rfl) (by decide +kernel)) nx_stor)))))))
  (e_Tok2
  (e_Tok2
  (e_Tok2
  (e_Tok2
  (e_Lok (ld_iload_9 (x_dk dn_104_0_2_ok 1 rfl)))
  (e_Lok (e_st (I := eI) (er_ifne (off := 20) (tg := 117) (x_dk dn_104_0_2_ok 2 rfl) (by decide)) nx_if1)))
  (e_Tok2
  (e_Lok (ld_iload_10 (x_dk dn_104_0_2_ok 3 rfl)))
  (e_Lok (ld_aload_n_0 (x_dk dn_104_0_2_ok 4 rfl)))))
  (e_Tok2
  (e_Tok2
  (e_Lok (lk_6_58g ho_104 (x_dk dn_104_0_2_ok 5 rfl)))
  (e_Lok (e_st (I := eI) (er_icmpne (off := 11) (tg := 117) (x_dk dn_104_0_2_ok 6 rfl) (by decide)) nx_if2)))
  (e_Tok2
  (e_Lok (ld_aload_n_0 (x_dk dn_104_0_2_ok 7 rfl)))
  (e_Tok2
  (e_Lok (lk_6_27g ho_104 (x_dk dn_104_0_2_ok 8 rfl)))
  (e_Lok (ld_iload_6 (x_dk dn_104_0_2_ok 9 rfl)))))))
  (e_Tok2
  (e_Tok2
  (e_Tok2
  (e_Lok (ps_iconst_m1 (x_dk dn_104_0_2_ok 10 rfl)))
  (e_Lok (sm_iastore (x_dk dn_104_0_2_ok 11 rfl))))
  (e_Tok2
  (e_Lok (e_st (I := eI) (er_iinc (i := 10) (n := (-1)) (x_dk dn_104_0_2_ok 12 rfl) (by decide +kernel) (by decide)) nx_inc))
  (e_Lok (e_st (I := eI) (er_goto (off := (-90)) (tg := 30) (x_dk dn_104_0_2_ok 13 rfl) (by decide)) nx_goto))))
  (e_Tok2
  (e_Tok2
  (e_Lok (ld_aload_7 (x_dk dn_104_0_2_ok 14 rfl)))
  (e_Lok (ld_iload_8 (x_dk dn_104_0_2_ok 15 rfl))))
  (e_Tok2
  (e_Lok (lk_6_74p ho_104 (x_dk dn_104_0_2_ok 16 rfl)))
  (e_Tok2
  (e_Lok (ld_iload_9 (x_dk dn_104_0_2_ok 17 rfl)))
  (e_Lok (e_rt (I := eI) (k := 4) ⟨(x_dk dn_104_0_2_ok 18 rfl), rfl⟩))))))))
def te_104 : Nat → eE := (e_T 62 te_104_0 te_104_34)
theorem te_104_ok : ∀ pc, e_EOq eft cls elay eI n_104 pc (te_104 pc) := (e_Tok2 (te_104_0_ok) (te_104_34_ok))
end
end
-- part 41ah
section
noncomputable section
theorem ho_105 : (xm_y n_105).cls = "RobotCellHouse$Planner" := rfl
def dn_105_0_0 : List (Nat × Instr × Nat) := [(0, .iconst 0, 1), (1, .istore_n 3, 1), (2, .iload_n 2, 1), (3, .istore 4, 2), (5, .aload_n 0, 1), (6, .getfield 27, 3), (9, .iload 4, 2), (11, .iaload, 1), (12, .bipush 100, 2), (14, .if_icmp .eq 24, 3), (17, .iload_n 3, 1), (18, .sipush 1000, 3), (21, .if_icmp .ge 17, 3), (24, .iinc 3 1, 3), (27, .aload_n 0, 1), (28, .iload 4, 2), (30, .invokevirtual 119, 3), (33, .istore 4, 2), (35, .goto (-30), 3), (38, .iload_n 2, 1), (39, .istore 4, 2), (41, .iload_n 3, 1), (42, .iconst 1, 1), (43, .isub, 1), (44, .istore 5, 2)]
set_option maxRecDepth 20000 in
theorem dn_105_0_0_ok : dn_105_0_0.all (fun q => decide (decode (xm_b n_105) q.1 = .ok (q.2.1, q.2.2))) = true := xa_g_ok (by decide +kernel)
def dn_105_0_1 : List (Nat × Instr × Nat) := [(46, .iload 5, 2), (48, .ifCond .lt 40, 3), (51, .aload_n 0, 1), (52, .getfield 31, 3), (55, .iload_n 1, 1), (56, .sipush 1000, 3), (59, .imul, 1), (60, .iload 5, 2), (62, .iadd, 1), (63, .aload_n 0, 1), (64, .getfield 27, 3), (67, .iload 4, 2), (69, .iaload, 1), (70, .iconst 1, 1), (71, .isub, 1), (72, .i2b, 1), (73, .bastore, 1), (74, .aload_n 0, 1), (75, .iload 4, 2), (77, .invokevirtual 119, 3), (80, .istore 4, 2), (82, .iinc 5 (-1), 3), (85, .goto (-39), 3), (88, .aload_n 0, 1), (89, .getfield 35, 3)]
set_option maxRecDepth 20000 in
theorem dn_105_0_1_ok : dn_105_0_1.all (fun q => decide (decode (xm_b n_105) q.1 = .ok (q.2.1, q.2.2))) = true := xa_g_ok (by decide +kernel)
def dn_105_0_2 : List (Nat × Instr × Nat) := [(92, .iload_n 1, 1), (93, .iload_n 3, 1), (94, .iastore, 1), (95, .aload_n 0, 1), (96, .getfield 38, 3), (99, .iload_n 1, 1), (100, .aload_n 0, 1), (101, .getfield 58, 3), (104, .iastore, 1), (105, .return_, 1)]
set_option maxRecDepth 20000 in
theorem dn_105_0_2_ok : dn_105_0_2.all (fun q => decide (decode (xm_b n_105) q.1 = .ok (q.2.1, q.2.2))) = true := xa_g_ok (by decide +kernel)
def te_105_0 : Nat → eE := (e_T 27 (e_T 9 (e_T 2 (e_T 0 (e_L 0 (0, ei_push (0, 0) 1, 0, 0)) (e_T 1 (e_L 1 (0, ei_stor 3 0 2, 0, 0)) (e_L 2 (0, ei_load 2 0 3, 0, 0)))) (e_T 5 (e_T 3 (e_L 3 (0, ei_stor 4 0 5, 0, 0)) (e_L 5 (0, ei_load 0 2 6, 0, 0))) (e_T 6 (e_L 6 (0, ei_getf eft elay 6 9 9, 0, 0)) (e_L 9 (0, ei_load 4 0 11, 0, 0))))) (e_T 17 (e_T 12 (e_T 11 (e_L 11 (0, ei_ald elay false 12, 0, 0)) (e_L 12 (0, ei_push (0, 100) 14, 0, 0))) (e_T 14 (e_L 14 (0, ei_if2 0 38 17, 0, 0)) (e_L 17 (0, ei_load 3 0 18, 0, 0)))) (e_T 21 (e_T 18 (e_L 18 (0, ei_push (0, 1000) 21, 0, 0)) (e_L 21 (0, ei_if2 3 38 24, 0, 0))) (e_T 24 (e_L 24 (0, ei_inc 3 1 27, 0, 0)) (e_L 27 (0, ei_load 0 2 28, 0, 0)))))) (e_T 41 (e_T 33 (e_T 28 (e_L 28 (0, ei_load 4 0 30, 0, 0)) (e_T 30 (e_L 30 (2, e_nof, 106, 2)) (e_L 33 (0, ei_stor 4 0 35, 0, 0)))) (e_T 38 (e_T 35 (e_L 35 (0, ei_goto 5, 0, 0)) (e_L 38 (0, ei_load 2 0 39, 0, 0))) (e_T 39 (e_L 39 (0, ei_stor 4 0 41, 0, 0)) (e_L 41 (0, ei_load 3 0 42, 0, 0))))) (e_T 46 (e_T 43 (e_T 42 (e_L 42 (0, ei_push (0, 1) 43, 0, 0)) (e_L 43 (0, ei_bin eF_sub 44, 0, 0))) (e_T 44 (e_L 44 (0, ei_stor 5 0 46, 0, 0)) (e_L 46 (0, ei_load 5 0 48, 0, 0)))) (e_T 51 (e_T 48 (e_L 48 (0, ei_if1 2 88 51, 0, 0)) (e_L 51 (0, ei_load 0 2 52, 0, 0))) (e_T 52 (e_L 52 (0, ei_getf eft elay 6 10 55, 0, 0)) (e_L 55 (0, ei_load 1 0 56, 0, 0)))))))
set_option maxRecDepth 20000 in
set_option maxHeartbeats 4000000 in
theorem te_105_0_ok : ∀ pc, e_EOq eft cls elay eI n_105 pc (te_105_0 pc) :=
  (e_Tok2
  (e_Tok2
  (e_Tok2
  (e_Tok2
  (e_Lok (ps_iconst_0 (x_dk dn_105_0_0_ok 0 rfl)))
  (e_Tok2
  (e_Lok (e_st (I := eI) (er_istore_n (i := 3) (x_dk dn_105_0_0_ok 1 rfl) (by decide +kernel)) nx_stor))
  (e_Lok (ld_iload_n_2 (x_dk dn_105_0_0_ok 2 rfl)))))
  (e_Tok2
  (e_Tok2
  (e_Lok (e_st (I := eI) (er_istore (i := 4) (x_dk dn_105_0_0_ok 3 rfl) (by decide +kernel)) nx_stor))
  (e_Lok (ld_aload_n_0 (x_dk dn_105_0_0_ok 4 rfl))))
  (e_Tok2
  (e_Lok (lk_6_27g ho_105 (x_dk dn_105_0_0_ok 5 rfl)))
  (e_Lok (ld_iload_4 (x_dk dn_105_0_0_ok 6 rfl))))))
  (e_Tok2
  (e_Tok2
  (e_Tok2
  (e_Lok (sm_iaload (x_dk dn_105_0_0_ok 7 rfl)))
  (e_Lok (ps_bipush_100 (x_dk dn_105_0_0_ok 8 rfl))))
  (e_Tok2
  (e_Lok (e_st (I := eI) (er_icmpeq (off := 24) (tg := 38) (x_dk dn_105_0_0_ok 9 rfl) (by decide)) nx_if2))
  (e_Lok (ld_iload_n_3 (x_dk dn_105_0_0_ok 10 rfl)))))
  (e_Tok2
  (e_Tok2
  (e_Lok (ps_sipush_1000 (x_dk dn_105_0_0_ok 11 rfl)))
  (e_Lok (e_st (I := eI) (er_icmpge (off := 17) (tg := 38) (x_dk dn_105_0_0_ok 12 rfl) (by decide)) nx_if2)))
  (e_Tok2
  (e_Lok (e_st (I := eI) (er_iinc (i := 3) (n := 1) (x_dk dn_105_0_0_ok 13 rfl) (by decide +kernel) (by decide)) nx_inc))
  (e_Lok (ld_aload_n_0 (x_dk dn_105_0_0_ok 14 rfl)))))))
  (e_Tok2
  (e_Tok2
  (e_Tok2
  (e_Lok (ld_iload_4 (x_dk dn_105_0_0_ok 15 rfl)))
  (e_Tok2
  (e_Lok (lk_6_119 ho_105 (x_dk dn_105_0_0_ok 16 rfl)))
  (e_Lok (e_st (I := eI) (er_istore (i := 4) (x_dk dn_105_0_0_ok 17 rfl) (by decide +kernel)) nx_stor))))
  (e_Tok2
  (e_Tok2
  (e_Lok (e_st (I := eI) (er_goto (off := (-30)) (tg := 5) (x_dk dn_105_0_0_ok 18 rfl) (by decide)) nx_goto))
  (e_Lok (ld_iload_n_2 (x_dk dn_105_0_0_ok 19 rfl))))
  (e_Tok2
  (e_Lok (e_st (I := eI) (er_istore (i := 4) (x_dk dn_105_0_0_ok 20 rfl) (by decide +kernel)) nx_stor))
  (e_Lok (ld_iload_n_3 (x_dk dn_105_0_0_ok 21 rfl))))))
  (e_Tok2
  (e_Tok2
  (e_Tok2
  (e_Lok (ps_iconst_1 (x_dk dn_105_0_0_ok 22 rfl)))
  (e_Lok (sm_isub (x_dk dn_105_0_0_ok 23 rfl))))
  (e_Tok2
  (e_Lok (e_st (I := eI) (er_istore (i := 5) (x_dk dn_105_0_0_ok 24 rfl) (by decide +kernel)) nx_stor))
  (e_Lok (ld_iload_5 (x_dk dn_105_0_1_ok 0 rfl)))))
  (e_Tok2
  (e_Tok2
  (e_Lok (e_st (I := eI) (er_iflt (off := 40) (tg := 88) (x_dk dn_105_0_1_ok 1 rfl) (by decide)) nx_if1))
  (e_Lok (ld_aload_n_0 (x_dk dn_105_0_1_ok 2 rfl))))
  (e_Tok2
  (e_Lok (lk_6_31g ho_105 (x_dk dn_105_0_1_ok 3 rfl)))
  (e_Lok (ld_iload_n_1 (x_dk dn_105_0_1_ok 4 rfl))))))))
def te_105_30 : Nat → eE := (e_T 77 (e_T 67 (e_T 60 (e_T 56 (e_L 56 (0, ei_push (0, 1000) 59, 0, 0)) (e_T 59 (e_L 59 (0, ei_bin eF_mul 60, 0, 0)) (e_L 60 (0, ei_load 5 0 62, 0, 0)))) (e_T 63 (e_T 62 (e_L 62 (0, ei_bin eF_add 63, 0, 0)) (e_L 63 (0, ei_load 0 2 64, 0, 0))) (e_T 64 (e_L 64 (0, ei_getf eft elay 6 9 67, 0, 0)) (e_L 67 (0, ei_load 4 0 69, 0, 0))))) (e_T 72 (e_T 70 (e_T 69 (e_L 69 (0, ei_ald elay false 70, 0, 0)) (e_L 70 (0, ei_push (0, 1) 71, 0, 0))) (e_T 71 (e_L 71 (0, ei_bin eF_sub 72, 0, 0)) (e_L 72 (0, ei_un (fun x => (0, x.bmod 256)) 73, 0, 0)))) (e_T 74 (e_T 73 (e_L 73 (0, ei_ast elay true 74, 0, 0)) (e_L 74 (0, ei_load 0 2 75, 0, 0))) (e_T 75 (e_L 75 (0, ei_load 4 0 77, 0, 0)) (e_L 77 (2, e_nof, 106, 2)))))) (e_T 93 (e_T 85 (e_T 80 (e_L 80 (0, ei_stor 4 0 82, 0, 0)) (e_T 82 (e_L 82 (0, ei_inc 5 (-1) 85, 0, 0)) (e_L 85 (0, ei_goto 46, 0, 0)))) (e_T 89 (e_T 88 (e_L 88 (0, ei_load 0 2 89, 0, 0)) (e_L 89 (0, ei_getf eft elay 6 11 92, 0, 0))) (e_T 92 (e_L 92 (0, ei_load 1 0 93, 0, 0)) (e_L 93 (0, ei_load 3 0 94, 0, 0))))) (e_T 99 (e_T 95 (e_T 94 (e_L 94 (0, ei_ast elay false 95, 0, 0)) (e_L 95 (0, ei_load 0 2 96, 0, 0))) (e_T 96 (e_L 96 (0, ei_getf eft elay 6 12 99, 0, 0)) (e_L 99 (0, ei_load 1 0 100, 0, 0)))) (e_T 101 (e_T 100 (e_L 100 (0, ei_load 0 2 101, 0, 0)) (e_L 101 (0, ei_getf eft elay 6 1 104, 0, 0))) (e_T 104 (e_L 104 (0, ei_ast elay false 105, 0, 0)) (e_L 105 (1, e_nof, 0, 0)))))))
set_option maxRecDepth 20000 in
set_option maxHeartbeats 4000000 in
theorem te_105_30_ok : ∀ pc, e_EOq eft cls elay eI n_105 pc (te_105_30 pc) :=
  (e_Tok2
  (e_Tok2
  (e_Tok2
  (e_Tok2
  (e_Lok (ps_sipush_1000 (x_dk dn_105_0_1_ok 5 rfl)))
  (e_Tok2
  (e_Lok (sm_imul (x_dk dn_105_0_1_ok 6 rfl)))
  (e_Lok (ld_iload_5 (x_dk dn_105_0_1_ok 7 rfl)))))
  (e_Tok2
  (e_Tok2
  (e_Lok (sm_iadd (x_dk dn_105_0_1_ok 8 rfl)))
  (e_Lok (ld_aload_n_0 (x_dk dn_105_0_1_ok 9 rfl))))
  (e_Tok2
  (e_Lok (lk_6_27g ho_105 (x_dk dn_105_0_1_ok 10 rfl)))
  (e_Lok (ld_iload_4 (x_dk dn_105_0_1_ok 11 rfl))))))
  (e_Tok2
  (e_Tok2
  (e_Tok2
  (e_Lok (sm_iaload (x_dk dn_105_0_1_ok 12 rfl)))
  (e_Lok (ps_iconst_1 (x_dk dn_105_0_1_ok 13 rfl))))
  (e_Tok2
  (e_Lok (sm_isub (x_dk dn_105_0_1_ok 14 rfl)))
  (e_Lok (e_st (I := eI) (er_i2b (x_dk dn_105_0_1_ok 15 rfl)) (nx_un (fun _ => rfl))))))
  (e_Tok2
  (e_Tok2
  (e_Lok (e_st (I := eI) (er_bastore (x_dk dn_105_0_1_ok 16 rfl)) nx_ast))
  (e_Lok (ld_aload_n_0 (x_dk dn_105_0_1_ok 17 rfl))))
  (e_Tok2
  (e_Lok (ld_iload_4 (x_dk dn_105_0_1_ok 18 rfl)))
  (e_Lok (lk_6_119 ho_105 (x_dk dn_105_0_1_ok 19 rfl)))))))
  (e_Tok2
  (e_Tok2
  (e_Tok2
  (e_Lok (e_st (I := eI) (er_istore (i := 4) (x_dk dn_105_0_1_ok 20 rfl) (by decide +kernel)) nx_stor))
  (e_Tok2
  (e_Lok (e_st (I := eI) (er_iinc (i := 5) (n := (-1)) (x_dk dn_105_0_1_ok 21 rfl) (by decide +kernel) (by decide)) nx_inc))
  (e_Lok (e_st (I := eI) (er_goto (off := (-39)) (tg := 46) (x_dk dn_105_0_1_ok 22 rfl) (by decide)) nx_goto))))
  (e_Tok2
  (e_Tok2
  (e_Lok (ld_aload_n_0 (x_dk dn_105_0_1_ok 23 rfl)))
  (e_Lok (lk_6_35g ho_105 (x_dk dn_105_0_1_ok 24 rfl))))
  (e_Tok2
  (e_Lok (ld_iload_n_1 (x_dk dn_105_0_2_ok 0 rfl)))
  (e_Lok (ld_iload_n_3 (x_dk dn_105_0_2_ok 1 rfl))))))
  (e_Tok2
  (e_Tok2
  (e_Tok2
  (e_Lok (sm_iastore (x_dk dn_105_0_2_ok 2 rfl)))
  (e_Lok (ld_aload_n_0 (x_dk dn_105_0_2_ok 3 rfl))))
  (e_Tok2
  (e_Lok (lk_6_38g ho_105 (x_dk dn_105_0_2_ok 4 rfl)))
  (e_Lok (ld_iload_n_1 (x_dk dn_105_0_2_ok 5 rfl)))))
  (e_Tok2
  (e_Tok2
  (e_Lok (ld_aload_n_0 (x_dk dn_105_0_2_ok 6 rfl)))
  (e_Lok (lk_6_58g ho_105 (x_dk dn_105_0_2_ok 7 rfl))))
  (e_Tok2
  (e_Lok (sm_iastore (x_dk dn_105_0_2_ok 8 rfl)))
  (e_Lok (e_rt (I := eI) (k := 0) ⟨(x_dk dn_105_0_2_ok 9 rfl), rfl⟩)))))))
def te_105 : Nat → eE := (e_T 55 te_105_0 te_105_30)
theorem te_105_ok : ∀ pc, e_EOq eft cls elay eI n_105 pc (te_105 pc) := (e_Tok2 (te_105_0_ok) (te_105_30_ok))
theorem ho_106 : (xm_y n_106).cls = "RobotCellHouse$Planner" := rfl
def dn_106_0_0 : List (Nat × Instr × Nat) := [(0, .aload_n 0, 1), (1, .getfield 27, 3), (4, .iload_n 1, 1), (5, .iaload, 1), (6, .iconst 1, 1), (7, .isub, 1), (8, .istore_n 2, 1), (9, .iload_n 2, 1), (10, .iconst 0, 1), (11, .bipush 11, 2), (13, .invokestatic 41, 3), (16, .ifCond .ne 5, 3), (19, .iload_n 1, 1), (20, .ireturn, 1), (21, .iload_n 2, 1), (22, .iconst 2, 1), (23, .irem, 1), (24, .ifCond .ne 16, 3), (27, .iload_n 1, 1), (28, .aload_n 0, 1), (29, .getfield 21, 3), (32, .iload_n 2, 1), (33, .iconst 2, 1), (34, .idiv, 1), (35, .iaload, 1)]
set_option maxRecDepth 20000 in
theorem dn_106_0_0_ok : dn_106_0_0.all (fun q => decide (decode (xm_b n_106) q.1 = .ok (q.2.1, q.2.2))) = true := xa_g_ok (by decide +kernel)
def dn_106_0_1 : List (Nat × Instr × Nat) := [(36, .isub, 1), (37, .goto 13, 3), (40, .iload_n 1, 1), (41, .aload_n 0, 1), (42, .getfield 21, 3), (45, .iload_n 2, 1), (46, .iconst 2, 1), (47, .idiv, 1), (48, .iaload, 1), (49, .iadd, 1), (50, .ireturn, 1)]
set_option maxRecDepth 20000 in
theorem dn_106_0_1_ok : dn_106_0_1.all (fun q => decide (decode (xm_b n_106) q.1 = .ok (q.2.1, q.2.2))) = true := xa_g_ok (by decide +kernel)
def te_106_0 : Nat → eE := (e_T 24 (e_T 10 (e_T 5 (e_T 1 (e_T 0 (e_L 0 (0, ei_load 0 2 1, 0, 0)) (e_L 1 (0, ei_getf eft elay 6 9 4, 0, 0))) (e_T 4 (e_L 4 (0, ei_load 1 0 5, 0, 0)) (e_L 5 (0, ei_ald elay false 6, 0, 0)))) (e_T 7 (e_T 6 (e_L 6 (0, ei_push (0, 1) 7, 0, 0)) (e_L 7 (0, ei_bin eF_sub 8, 0, 0))) (e_T 8 (e_L 8 (0, ei_stor 2 0 9, 0, 0)) (e_T 9 (e_L 9 (0, ei_load 2 0 10, 0, 0)) (e_L 10 (0, ei_push (0, 0) 11, 0, 0)))))) (e_T 19 (e_T 13 (e_T 11 (e_L 11 (0, ei_push (0, 11) 13, 0, 0)) (e_L 13 (2, e_nof, 242, 3))) (e_T 16 (e_L 16 (0, ei_if1 1 21 19, 0, 0)) (e_L 19 (0, ei_load 1 0 20, 0, 0)))) (e_T 21 (e_T 20 (e_L 20 (1, e_nof, 1, 0)) (e_L 21 (0, ei_load 2 0 22, 0, 0))) (e_T 22 (e_L 22 (0, ei_push (0, 2) 23, 0, 0)) (e_T 23 (e_L 23 (0, ei_bin eF_rem 24, 0, 0)) (e_L 24 (0, ei_if1 1 40 27, 0, 0))))))) (e_T 37 (e_T 32 (e_T 28 (e_T 27 (e_L 27 (0, ei_load 1 0 28, 0, 0)) (e_L 28 (0, ei_load 0 2 29, 0, 0))) (e_T 29 (e_L 29 (0, ei_getf eft elay 6 7 32, 0, 0)) (e_L 32 (0, ei_load 2 0 33, 0, 0)))) (e_T 34 (e_T 33 (e_L 33 (0, ei_push (0, 2) 34, 0, 0)) (e_L 34 (0, ei_bin eF_div 35, 0, 0))) (e_T 35 (e_L 35 (0, ei_ald elay false 36, 0, 0)) (e_T 36 (e_L 36 (0, ei_bin eF_sub 37, 0, 0)) (e_L 37 (0, ei_goto 50, 0, 0)))))) (e_T 45 (e_T 41 (e_T 40 (e_L 40 (0, ei_load 1 0 41, 0, 0)) (e_L 41 (0, ei_load 0 2 42, 0, 0))) (e_T 42 (e_L 42 (0, ei_getf eft elay 6 7 45, 0, 0)) (e_L 45 (0, ei_load 2 0 46, 0, 0)))) (e_T 47 (e_T 46 (e_L 46 (0, ei_push (0, 2) 47, 0, 0)) (e_L 47 (0, ei_bin eF_div 48, 0, 0))) (e_T 48 (e_L 48 (0, ei_ald elay false 49, 0, 0)) (e_T 49 (e_L 49 (0, ei_bin eF_add 50, 0, 0)) (e_L 50 (1, e_nof, 1, 0))))))))
set_option maxRecDepth 20000 in
set_option maxHeartbeats 4000000 in
theorem te_106_0_ok : ∀ pc, e_EOq eft cls elay eI n_106 pc (te_106_0 pc) :=
  (e_Tok2
  (e_Tok2
  (e_Tok2
  (e_Tok2
  (e_Tok2
  (e_Lok (ld_aload_n_0 (x_dk dn_106_0_0_ok 0 rfl)))
  (e_Lok (lk_6_27g ho_106 (x_dk dn_106_0_0_ok 1 rfl))))
  (e_Tok2
  (e_Lok (ld_iload_n_1 (x_dk dn_106_0_0_ok 2 rfl)))
  (e_Lok (sm_iaload (x_dk dn_106_0_0_ok 3 rfl)))))
  (e_Tok2
  (e_Tok2
  (e_Lok (ps_iconst_1 (x_dk dn_106_0_0_ok 4 rfl)))
  (e_Lok (sm_isub (x_dk dn_106_0_0_ok 5 rfl))))
  (e_Tok2
  (e_Lok (e_st (I := eI) (er_istore_n (i := 2) (x_dk dn_106_0_0_ok 6 rfl) (by decide +kernel)) nx_stor))
  (e_Tok2
  (e_Lok (ld_iload_n_2 (x_dk dn_106_0_0_ok 7 rfl)))
  (e_Lok (ps_iconst_0 (x_dk dn_106_0_0_ok 8 rfl)))))))
  (e_Tok2
  (e_Tok2
  (e_Tok2
  (e_Lok (ps_bipush_11 (x_dk dn_106_0_0_ok 9 rfl)))
  (e_Lok (lk_6_41 ho_106 (x_dk dn_106_0_0_ok 10 rfl))))
  (e_Tok2
  (e_Lok (e_st (I := eI) (er_ifne (off := 5) (tg := 21) (x_dk dn_106_0_0_ok 11 rfl) (by decide)) nx_if1))
  (e_Lok (ld_iload_n_1 (x_dk dn_106_0_0_ok 12 rfl)))))
  (e_Tok2
  (e_Tok2
  (e_Lok (e_rt (I := eI) (k := 1) ⟨(x_dk dn_106_0_0_ok 13 rfl), rfl⟩))
  (e_Lok (ld_iload_n_2 (x_dk dn_106_0_0_ok 14 rfl))))
  (e_Tok2
  (e_Lok (ps_iconst_2 (x_dk dn_106_0_0_ok 15 rfl)))
  (e_Tok2
  (e_Lok (e_st (I := eI) (er_irem (x_dk dn_106_0_0_ok 16 rfl)) nx_bin))
  (e_Lok (e_st (I := eI) (er_ifne (off := 16) (tg := 40) (x_dk dn_106_0_0_ok 17 rfl) (by decide)) nx_if1)))))))
  (e_Tok2
  (e_Tok2
  (e_Tok2
  (e_Tok2
  (e_Lok (ld_iload_n_1 (x_dk dn_106_0_0_ok 18 rfl)))
  (e_Lok (ld_aload_n_0 (x_dk dn_106_0_0_ok 19 rfl))))
  (e_Tok2
  (e_Lok (lk_6_21g ho_106 (x_dk dn_106_0_0_ok 20 rfl)))
  (e_Lok (ld_iload_n_2 (x_dk dn_106_0_0_ok 21 rfl)))))
  (e_Tok2
  (e_Tok2
  (e_Lok (ps_iconst_2 (x_dk dn_106_0_0_ok 22 rfl)))
  (e_Lok (e_st (I := eI) (er_idiv (x_dk dn_106_0_0_ok 23 rfl)) nx_bin)))
  (e_Tok2
  (e_Lok (sm_iaload (x_dk dn_106_0_0_ok 24 rfl)))
  (e_Tok2
  (e_Lok (sm_isub (x_dk dn_106_0_1_ok 0 rfl)))
  (e_Lok (e_st (I := eI) (er_goto (off := 13) (tg := 50) (x_dk dn_106_0_1_ok 1 rfl) (by decide)) nx_goto))))))
  (e_Tok2
  (e_Tok2
  (e_Tok2
  (e_Lok (ld_iload_n_1 (x_dk dn_106_0_1_ok 2 rfl)))
  (e_Lok (ld_aload_n_0 (x_dk dn_106_0_1_ok 3 rfl))))
  (e_Tok2
  (e_Lok (lk_6_21g ho_106 (x_dk dn_106_0_1_ok 4 rfl)))
  (e_Lok (ld_iload_n_2 (x_dk dn_106_0_1_ok 5 rfl)))))
  (e_Tok2
  (e_Tok2
  (e_Lok (ps_iconst_2 (x_dk dn_106_0_1_ok 6 rfl)))
  (e_Lok (e_st (I := eI) (er_idiv (x_dk dn_106_0_1_ok 7 rfl)) nx_bin)))
  (e_Tok2
  (e_Lok (sm_iaload (x_dk dn_106_0_1_ok 8 rfl)))
  (e_Tok2
  (e_Lok (sm_iadd (x_dk dn_106_0_1_ok 9 rfl)))
  (e_Lok (e_rt (I := eI) (k := 1) ⟨(x_dk dn_106_0_1_ok 10 rfl), rfl⟩))))))))
def te_106 : Nat → eE := te_106_0
theorem te_106_ok : ∀ pc, e_EOq eft cls elay eI n_106 pc (te_106 pc) := te_106_0_ok
theorem ho_107 : (xm_y n_107).cls = "RobotCellHouse$Planner" := rfl
def dn_107_0_0 : List (Nat × Instr × Nat) := [(0, .aload_n 0, 1), (1, .aload_n 1, 1), (2, .getfield 49, 3), (5, .invokevirtual 45, 3), (8, .istore_n 2, 1), (9, .iload_n 2, 1), (10, .ifCond .ne 5, 3), (13, .iconst 0, 1), (14, .ireturn, 1), (15, .iconst 1, 1), (16, .istore_n 3, 1), (17, .iconst 1, 1), (18, .istore 4, 2), (20, .iload 4, 2), (22, .iload_n 2, 1), (23, .if_icmp .ge 37, 3), (26, .aload_n 0, 1), (27, .aload_n 1, 1), (28, .getfield 49, 3), (31, .iload 4, 2), (33, .invokevirtual 122, 3), (36, .aload_n 0, 1), (37, .aload_n 1, 1), (38, .getfield 49, 3), (41, .iload 4, 2)]
set_option maxRecDepth 20000 in
theorem dn_107_0_0_ok : dn_107_0_0.all (fun q => decide (decode (xm_b n_107) q.1 = .ok (q.2.1, q.2.2))) = true := xa_g_ok (by decide +kernel)
def dn_107_0_1 : List (Nat × Instr × Nat) := [(43, .iconst 1, 1), (44, .isub, 1), (45, .invokevirtual 122, 3), (48, .if_icmp .eq 6, 3), (51, .iinc 3 1, 3), (54, .iinc 4 1, 3), (57, .goto (-37), 3), (60, .aload_n 1, 1), (61, .iconst 0, 1), (62, .putfield 125, 3), (65, .aload_n 0, 1), (66, .aload_n 1, 1), (67, .invokevirtual 128, 3), (70, .pop, 1), (71, .iload_n 3, 1), (72, .ireturn, 1)]
set_option maxRecDepth 20000 in
theorem dn_107_0_1_ok : dn_107_0_1.all (fun q => decide (decode (xm_b n_107) q.1 = .ok (q.2.1, q.2.2))) = true := xa_g_ok (by decide +kernel)
def te_107_0 : Nat → eE := (e_T 15 (e_T 8 (e_T 1 (e_T 0 (e_L 0 (0, ei_load 0 2 1, 0, 0)) (e_L 1 (0, ei_load 1 2 2, 0, 0))) (e_T 2 (e_L 2 (0, ei_getf eft elay 0 17 5, 0, 0)) (e_T 5 (e_L 5 (2, e_nof, 95, 2)) (e_L 8 (0, ei_stor 2 0 9, 0, 0))))) (e_T 10 (e_T 9 (e_L 9 (0, ei_load 2 0 10, 0, 0)) (e_L 10 (0, ei_if1 1 15 13, 0, 0))) (e_T 13 (e_L 13 (0, ei_push (0, 0) 14, 0, 0)) (e_T 14 (e_L 14 (1, e_nof, 1, 0)) (e_L 15 (0, ei_push (0, 1) 16, 0, 0)))))) (e_T 22 (e_T 17 (e_T 16 (e_L 16 (0, ei_stor 3 0 17, 0, 0)) (e_L 17 (0, ei_push (0, 1) 18, 0, 0))) (e_T 18 (e_L 18 (0, ei_stor 4 0 20, 0, 0)) (e_T 20 (e_L 20 (0, ei_load 4 0 22, 0, 0)) (e_L 22 (0, ei_load 2 0 23, 0, 0))))) (e_T 26 (e_T 23 (e_L 23 (0, ei_if2 3 60 26, 0, 0)) (e_L 26 (0, ei_load 0 2 27, 0, 0))) (e_T 27 (e_L 27 (0, ei_load 1 2 28, 0, 0)) (e_T 28 (e_L 28 (0, ei_getf eft elay 0 17 31, 0, 0)) (e_L 31 (0, ei_load 4 0 33, 0, 0)))))))
set_option maxRecDepth 20000 in
set_option maxHeartbeats 4000000 in
theorem te_107_0_ok : ∀ pc, e_EOq eft cls elay eI n_107 pc (te_107_0 pc) :=
  (e_Tok2
  (e_Tok2
  (e_Tok2
  (e_Tok2
  (e_Lok (ld_aload_n_0 (x_dk dn_107_0_0_ok 0 rfl)))
  (e_Lok (ld_aload_n_1 (x_dk dn_107_0_0_ok 1 rfl))))
  (e_Tok2
  (e_Lok (lk_6_49g ho_107 (x_dk dn_107_0_0_ok 2 rfl)))
  (e_Tok2
  (e_Lok (lk_6_45 ho_107 (x_dk dn_107_0_0_ok 3 rfl)))
  (e_Lok (e_st (I := eI) (er_istore_n (i := 2) (x_dk dn_107_0_0_ok 4 rfl) (by decide +kernel)) nx_stor)))))
  (e_Tok2
  (e_Tok2
  (e_Lok (ld_iload_n_2 (x_dk dn_107_0_0_ok 5 rfl)))
  (e_Lok (e_st (I := eI) (er_ifne (off := 5) (tg := 15) (x_dk dn_107_0_0_ok 6 rfl) (by decide)) nx_if1)))
  (e_Tok2
  (e_Lok (ps_iconst_0 (x_dk dn_107_0_0_ok 7 rfl)))
  (e_Tok2
  (e_Lok (e_rt (I := eI) (k := 1) ⟨(x_dk dn_107_0_0_ok 8 rfl), rfl⟩))
  (e_Lok (ps_iconst_1 (x_dk dn_107_0_0_ok 9 rfl)))))))
  (e_Tok2
  (e_Tok2
  (e_Tok2
  (e_Lok (e_st (I := eI) (er_istore_n (i := 3) (x_dk dn_107_0_0_ok 10 rfl) (by decide +kernel)) nx_stor))
  (e_Lok (ps_iconst_1 (x_dk dn_107_0_0_ok 11 rfl))))
  (e_Tok2
  (e_Lok (e_st (I := eI) (er_istore (i := 4) (x_dk dn_107_0_0_ok 12 rfl) (by decide +kernel)) nx_stor))
  (e_Tok2
  (e_Lok (ld_iload_4 (x_dk dn_107_0_0_ok 13 rfl)))
  (e_Lok (ld_iload_n_2 (x_dk dn_107_0_0_ok 14 rfl))))))
  (e_Tok2
  (e_Tok2
  (e_Lok (e_st (I := eI) (er_icmpge (off := 37) (tg := 60) (x_dk dn_107_0_0_ok 15 rfl) (by decide)) nx_if2))
  (e_Lok (ld_aload_n_0 (x_dk dn_107_0_0_ok 16 rfl))))
  (e_Tok2
  (e_Lok (ld_aload_n_1 (x_dk dn_107_0_0_ok 17 rfl)))
  (e_Tok2
  (e_Lok (lk_6_49g ho_107 (x_dk dn_107_0_0_ok 18 rfl)))
  (e_Lok (ld_iload_4 (x_dk dn_107_0_0_ok 19 rfl))))))))
def te_107_20 : Nat → eE := (e_T 51 (e_T 41 (e_T 36 (e_T 33 (e_L 33 (2, e_nof, 96, 3)) (e_L 36 (0, ei_load 0 2 37, 0, 0))) (e_T 37 (e_L 37 (0, ei_load 1 2 38, 0, 0)) (e_T 38 (e_L 38 (0, ei_getf eft elay 0 17 41, 0, 0)) (e_L 41 (0, ei_load 4 0 43, 0, 0))))) (e_T 44 (e_T 43 (e_L 43 (0, ei_push (0, 1) 44, 0, 0)) (e_L 44 (0, ei_bin eF_sub 45, 0, 0))) (e_T 45 (e_L 45 (2, e_nof, 96, 3)) (e_T 48 (e_L 48 (0, ei_if2 0 54 51, 0, 0)) (e_L 51 (0, ei_inc 3 1 54, 0, 0)))))) (e_T 62 (e_T 57 (e_T 54 (e_L 54 (0, ei_inc 4 1 57, 0, 0)) (e_L 57 (0, ei_goto 20, 0, 0))) (e_T 60 (e_L 60 (0, ei_load 1 2 61, 0, 0)) (e_T 61 (e_L 61 (0, ei_push (0, 0) 62, 0, 0)) (e_L 62 (0, ei_putf eft elay 0 18 0 65, 0, 0))))) (e_T 67 (e_T 65 (e_L 65 (0, ei_load 0 2 66, 0, 0)) (e_T 66 (e_L 66 (0, ei_load 1 2 67, 0, 0)) (e_L 67 (2, e_nof, 108, 2)))) (e_T 70 (e_L 70 (0, ei_stk ef_pop 71, 0, 0)) (e_T 71 (e_L 71 (0, ei_load 3 0 72, 0, 0)) (e_L 72 (1, e_nof, 1, 0)))))))
set_option maxRecDepth 20000 in
set_option maxHeartbeats 4000000 in
theorem te_107_20_ok : ∀ pc, e_EOq eft cls elay eI n_107 pc (te_107_20 pc) :=
  (e_Tok2
  (e_Tok2
  (e_Tok2
  (e_Tok2
  (e_Lok (lk_6_122 ho_107 (x_dk dn_107_0_0_ok 20 rfl)))
  (e_Lok (ld_aload_n_0 (x_dk dn_107_0_0_ok 21 rfl))))
  (e_Tok2
  (e_Lok (ld_aload_n_1 (x_dk dn_107_0_0_ok 22 rfl)))
  (e_Tok2
  (e_Lok (lk_6_49g ho_107 (x_dk dn_107_0_0_ok 23 rfl)))
  (e_Lok (ld_iload_4 (x_dk dn_107_0_0_ok 24 rfl))))))
  (e_Tok2
  (e_Tok2
  (e_Lok (ps_iconst_1 (x_dk dn_107_0_1_ok 0 rfl)))
  (e_Lok (sm_isub (x_dk dn_107_0_1_ok 1 rfl))))
  (e_Tok2
  (e_Lok (lk_6_122 ho_107 (x_dk dn_107_0_1_ok 2 rfl)))
  (e_Tok2
  (e_Lok (e_st (I := eI) (er_icmpeq (off := 6) (tg := 54) (x_dk dn_107_0_1_ok 3 rfl) (by decide)) nx_if2))
  (e_Lok (e_st (I := eI) (er_iinc (i := 3) (n := 1) (x_dk dn_107_0_1_ok 4 rfl) (by decide +kernel) (by decide)) nx_inc))))))
  (e_Tok2
  (e_Tok2
  (e_Tok2
  (e_Lok (e_st (I := eI) (er_iinc (i := 4) (n := 1) (x_dk dn_107_0_1_ok 5 rfl) (by decide +kernel) (by decide)) nx_inc))
  (e_Lok (e_st (I := eI) (er_goto (off := (-37)) (tg := 20) (x_dk dn_107_0_1_ok 6 rfl) (by decide)) nx_goto)))
  (e_Tok2
  (e_Lok (ld_aload_n_1 (x_dk dn_107_0_1_ok 7 rfl)))
  (e_Tok2
  (e_Lok (ps_iconst_0 (x_dk dn_107_0_1_ok 8 rfl)))
  (e_Lok (lk_6_125p ho_107 (x_dk dn_107_0_1_ok 9 rfl))))))
  (e_Tok2
  (e_Tok2
  (e_Lok (ld_aload_n_0 (x_dk dn_107_0_1_ok 10 rfl)))
  (e_Tok2
  (e_Lok (ld_aload_n_1 (x_dk dn_107_0_1_ok 11 rfl)))
  (e_Lok (lk_6_128 ho_107 (x_dk dn_107_0_1_ok 12 rfl)))))
  (e_Tok2
  (e_Lok (e_st (I := eI) (er_pop (x_dk dn_107_0_1_ok 13 rfl)) (nx_stk bf_pop)))
  (e_Tok2
  (e_Lok (ld_iload_n_3 (x_dk dn_107_0_1_ok 14 rfl)))
  (e_Lok (e_rt (I := eI) (k := 1) ⟨(x_dk dn_107_0_1_ok 15 rfl), rfl⟩)))))))
def te_107 : Nat → eE := (e_T 31 te_107_0 te_107_20)
theorem te_107_ok : ∀ pc, e_EOq eft cls elay eI n_107 pc (te_107 pc) := (e_Tok2 (te_107_0_ok) (te_107_20_ok))
theorem ho_108 : (xm_y n_108).cls = "RobotCellHouse$Planner" := rfl
def dn_108_0_0 : List (Nat × Instr × Nat) := [(0, .aload_n 1, 1), (1, .getfield 125, 3), (4, .ifCond .lt 18, 3), (7, .aload_n 1, 1), (8, .getfield 125, 3), (11, .aload_n 0, 1), (12, .aload_n 1, 1), (13, .getfield 49, 3), (16, .invokevirtual 45, 3), (19, .if_icmp .lt 5, 3), (22, .iconst 0, 1), (23, .ireturn, 1), (24, .aload_n 0, 1), (25, .aload_n 1, 1), (26, .getfield 49, 3), (29, .aload_n 1, 1), (30, .getfield 125, 3), (33, .invokevirtual 122, 3), (36, .istore_n 2, 1), (37, .iconst 0, 1), (38, .istore_n 3, 1), (39, .aload_n 0, 1), (40, .aload_n 1, 1), (41, .getfield 49, 3), (44, .aload_n 1, 1)]
set_option maxRecDepth 20000 in
theorem dn_108_0_0_ok : dn_108_0_0.all (fun q => decide (decode (xm_b n_108) q.1 = .ok (q.2.1, q.2.2))) = true := xa_g_ok (by decide +kernel)
def dn_108_0_1 : List (Nat × Instr × Nat) := [(45, .getfield 125, 3), (48, .invokevirtual 122, 3), (51, .iload_n 2, 1), (52, .if_icmp .ne 26, 3), (55, .iload_n 3, 1), (56, .sipush 1000, 3), (59, .if_icmp .ge 19, 3), (62, .iinc 3 1, 3), (65, .aload_n 1, 1), (66, .dup, 1), (67, .getfield 125, 3), (70, .iconst 1, 1), (71, .iadd, 1), (72, .putfield 125, 3), (75, .goto (-36), 3), (78, .iconst 0, 1), (79, .istore 4, 2), (81, .iload 4, 2), (83, .aload_n 1, 1), (84, .getfield 67, 3), (87, .if_icmp .ge 29, 3), (90, .aload_n 1, 1), (91, .getfield 70, 3), (94, .iload 4, 2), (96, .aaload, 1)]
set_option maxRecDepth 20000 in
theorem dn_108_0_1_ok : dn_108_0_1.all (fun q => decide (decode (xm_b n_108) q.1 = .ok (q.2.1, q.2.2))) = true := xa_g_ok (by decide +kernel)
def dn_108_0_2 : List (Nat × Instr × Nat) := [(97, .aload_n 1, 1), (98, .getfield 70, 3), (101, .iload 4, 2), (103, .aaload, 1), (104, .getfield 74, 3), (107, .putfield 132, 3), (110, .iinc 4 1, 3), (113, .goto (-32), 3), (116, .iload_n 3, 1), (117, .aload_n 0, 1), (118, .getfield 38, 3), (121, .aload_n 1, 1), (122, .getfield 49, 3), (125, .iaload, 1), (126, .imul, 1), (127, .istore 4, 2), (129, .aload_n 1, 1), (130, .getfield 70, 3), (133, .iload_n 2, 1), (134, .iconst 2, 1), (135, .idiv, 1), (136, .aaload, 1), (137, .dup, 1), (138, .getfield 132, 3), (141, .iload_n 2, 1)]
set_option maxRecDepth 20000 in
theorem dn_108_0_2_ok : dn_108_0_2.all (fun q => decide (decode (xm_b n_108) q.1 = .ok (q.2.1, q.2.2))) = true := xa_g_ok (by decide +kernel)
def dn_108_0_3 : List (Nat × Instr × Nat) := [(142, .iconst 2, 1), (143, .irem, 1), (144, .ifCond .ne 8, 3), (147, .iload 4, 2), (149, .goto 6, 3), (152, .iload 4, 2), (154, .ineg, 1), (155, .iadd, 1), (156, .putfield 132, 3), (159, .aload_n 1, 1), (160, .iconst (-1), 1), (161, .invokevirtual 135, 3), (164, .iconst 1, 1), (165, .ireturn, 1)]
set_option maxRecDepth 20000 in
theorem dn_108_0_3_ok : dn_108_0_3.all (fun q => decide (decode (xm_b n_108) q.1 = .ok (q.2.1, q.2.2))) = true := xa_g_ok (by decide +kernel)
def te_108_0 : Nat → eE := (e_T 22 (e_T 8 (e_T 1 (e_T 0 (e_L 0 (0, ei_load 1 2 1, 0, 0)) (e_L 1 (0, ei_getf eft elay 0 18 4, 0, 0))) (e_T 4 (e_L 4 (0, ei_if1 2 22 7, 0, 0)) (e_T 7 (e_L 7 (0, ei_load 1 2 8, 0, 0)) (e_L 8 (0, ei_getf eft elay 0 18 11, 0, 0))))) (e_T 13 (e_T 11 (e_L 11 (0, ei_load 0 2 12, 0, 0)) (e_T 12 (e_L 12 (0, ei_load 1 2 13, 0, 0)) (e_L 13 (0, ei_getf eft elay 0 17 16, 0, 0)))) (e_T 16 (e_L 16 (2, e_nof, 95, 2)) (e_T 19 (e_L 19 (0, ei_if2 2 24 22, 0, 0)) (e_L 22 (0, ei_push (0, 0) 23, 0, 0)))))) (e_T 29 (e_T 24 (e_T 23 (e_L 23 (1, e_nof, 4, 0)) (e_L 24 (0, ei_load 0 2 25, 0, 0))) (e_T 25 (e_L 25 (0, ei_load 1 2 26, 0, 0)) (e_T 26 (e_L 26 (0, ei_getf eft elay 0 17 29, 0, 0)) (e_L 29 (0, ei_load 1 2 30, 0, 0))))) (e_T 36 (e_T 30 (e_L 30 (0, ei_getf eft elay 0 18 33, 0, 0)) (e_T 33 (e_L 33 (2, e_nof, 96, 3)) (e_L 36 (0, ei_stor 2 0 37, 0, 0)))) (e_T 37 (e_L 37 (0, ei_push (0, 0) 38, 0, 0)) (e_T 38 (e_L 38 (0, ei_stor 3 0 39, 0, 0)) (e_L 39 (0, ei_load 0 2 40, 0, 0)))))))
set_option maxRecDepth 20000 in
set_option maxHeartbeats 4000000 in
theorem te_108_0_ok : ∀ pc, e_EOq eft cls elay eI n_108 pc (te_108_0 pc) :=
  (e_Tok2
  (e_Tok2
  (e_Tok2
  (e_Tok2
  (e_Lok (ld_aload_n_1 (x_dk dn_108_0_0_ok 0 rfl)))
  (e_Lok (lk_6_125g ho_108 (x_dk dn_108_0_0_ok 1 rfl))))
  (e_Tok2
  (e_Lok (e_st (I := eI) (er_iflt (off := 18) (tg := 22) (x_dk dn_108_0_0_ok 2 rfl) (by decide)) nx_if1))
  (e_Tok2
  (e_Lok (ld_aload_n_1 (x_dk dn_108_0_0_ok 3 rfl)))
  (e_Lok (lk_6_125g ho_108 (x_dk dn_108_0_0_ok 4 rfl))))))
  (e_Tok2
  (e_Tok2
  (e_Lok (ld_aload_n_0 (x_dk dn_108_0_0_ok 5 rfl)))
  (e_Tok2
  (e_Lok (ld_aload_n_1 (x_dk dn_108_0_0_ok 6 rfl)))
  (e_Lok (lk_6_49g ho_108 (x_dk dn_108_0_0_ok 7 rfl)))))
  (e_Tok2
  (e_Lok (lk_6_45 ho_108 (x_dk dn_108_0_0_ok 8 rfl)))
  (e_Tok2
  (e_Lok (e_st (I := eI) (er_icmplt (off := 5) (tg := 24) (x_dk dn_108_0_0_ok 9 rfl) (by decide)) nx_if2))
  (e_Lok (ps_iconst_0 (x_dk dn_108_0_0_ok 10 rfl)))))))
  (e_Tok2
  (e_Tok2
  (e_Tok2
  (e_Lok (e_rt (I := eI) (k := 4) ⟨(x_dk dn_108_0_0_ok 11 rfl), rfl⟩))
  (e_Lok (ld_aload_n_0 (x_dk dn_108_0_0_ok 12 rfl))))
  (e_Tok2
  (e_Lok (ld_aload_n_1 (x_dk dn_108_0_0_ok 13 rfl)))
  (e_Tok2
  (e_Lok (lk_6_49g ho_108 (x_dk dn_108_0_0_ok 14 rfl)))
  (e_Lok (ld_aload_n_1 (x_dk dn_108_0_0_ok 15 rfl))))))
  (e_Tok2
  (e_Tok2
  (e_Lok (lk_6_125g ho_108 (x_dk dn_108_0_0_ok 16 rfl)))
  (e_Tok2
  (e_Lok (lk_6_122 ho_108 (x_dk dn_108_0_0_ok 17 rfl)))
  (e_Lok (e_st (I := eI) (er_istore_n (i := 2) (x_dk dn_108_0_0_ok 18 rfl) (by decide +kernel)) nx_stor))))
  (e_Tok2
  (e_Lok (ps_iconst_0 (x_dk dn_108_0_0_ok 19 rfl)))
  (e_Tok2
  (e_Lok (e_st (I := eI) (er_istore_n (i := 3) (x_dk dn_108_0_0_ok 20 rfl) (by decide +kernel)) nx_stor))
  (e_Lok (ld_aload_n_0 (x_dk dn_108_0_0_ok 21 rfl))))))))
def te_108_22 : Nat → eE := (e_T 62 (e_T 48 (e_T 41 (e_T 40 (e_L 40 (0, ei_load 1 2 41, 0, 0)) (e_L 41 (0, ei_getf eft elay 0 17 44, 0, 0))) (e_T 44 (e_L 44 (0, ei_load 1 2 45, 0, 0)) (e_T 45 (e_L 45 (0, ei_getf eft elay 0 18 48, 0, 0)) (e_L 48 (2, e_nof, 96, 3))))) (e_T 55 (e_T 51 (e_L 51 (0, ei_load 2 0 52, 0, 0)) (e_T 52 (e_L 52 (0, ei_if2 1 78 55, 0, 0)) (e_L 55 (0, ei_load 3 0 56, 0, 0)))) (e_T 56 (e_L 56 (0, ei_push (0, 1000) 59, 0, 0)) (e_T 59 (e_L 59 (0, ei_if2 3 78 62, 0, 0)) (e_L 62 (0, ei_inc 3 1 65, 0, 0)))))) (e_T 71 (e_T 66 (e_T 65 (e_L 65 (0, ei_load 1 2 66, 0, 0)) (e_L 66 (0, ei_stk ef_dup 67, 0, 0))) (e_T 67 (e_L 67 (0, ei_getf eft elay 0 18 70, 0, 0)) (e_T 70 (e_L 70 (0, ei_push (0, 1) 71, 0, 0)) (e_L 71 (0, ei_bin eF_add 72, 0, 0))))) (e_T 78 (e_T 72 (e_L 72 (0, ei_putf eft elay 0 18 0 75, 0, 0)) (e_T 75 (e_L 75 (0, ei_goto 39, 0, 0)) (e_L 78 (0, ei_push (0, 0) 79, 0, 0)))) (e_T 79 (e_L 79 (0, ei_stor 4 0 81, 0, 0)) (e_T 81 (e_L 81 (0, ei_load 4 0 83, 0, 0)) (e_L 83 (0, ei_load 1 2 84, 0, 0)))))))
set_option maxRecDepth 20000 in
set_option maxHeartbeats 4000000 in
theorem te_108_22_ok : ∀ pc, e_EOq eft cls elay eI n_108 pc (te_108_22 pc) :=
  (e_Tok2
  (e_Tok2
  (e_Tok2
  (e_Tok2
  (e_Lok (ld_aload_n_1 (x_dk dn_108_0_0_ok 22 rfl)))
  (e_Lok (lk_6_49g ho_108 (x_dk dn_108_0_0_ok 23 rfl))))
  (e_Tok2
  (e_Lok (ld_aload_n_1 (x_dk dn_108_0_0_ok 24 rfl)))
  (e_Tok2
  (e_Lok (lk_6_125g ho_108 (x_dk dn_108_0_1_ok 0 rfl)))
  (e_Lok (lk_6_122 ho_108 (x_dk dn_108_0_1_ok 1 rfl))))))
  (e_Tok2
  (e_Tok2
  (e_Lok (ld_iload_n_2 (x_dk dn_108_0_1_ok 2 rfl)))
  (e_Tok2
  (e_Lok (e_st (I := eI) (er_icmpne (off := 26) (tg := 78) (x_dk dn_108_0_1_ok 3 rfl) (by decide)) nx_if2))
  (e_Lok (ld_iload_n_3 (x_dk dn_108_0_1_ok 4 rfl)))))
  (e_Tok2
  (e_Lok (ps_sipush_1000 (x_dk dn_108_0_1_ok 5 rfl)))
  (e_Tok2
  (e_Lok (e_st (I := eI) (er_icmpge (off := 19) (tg := 78) (x_dk dn_108_0_1_ok 6 rfl) (by decide)) nx_if2))
  (e_Lok (e_st (I := eI) (er_iinc (i := 3) (n := 1) (x_dk dn_108_0_1_ok 7 rfl) (by decide +kernel) (by decide)) nx_inc))))))
  (e_Tok2
  (e_Tok2
  (e_Tok2
  (e_Lok (ld_aload_n_1 (x_dk dn_108_0_1_ok 8 rfl)))
  (e_Lok (e_st (I := eI) (er_dup (x_dk dn_108_0_1_ok 9 rfl)) (nx_stk bf_dup))))
  (e_Tok2
  (e_Lok (lk_6_125g ho_108 (x_dk dn_108_0_1_ok 10 rfl)))
  (e_Tok2
  (e_Lok (ps_iconst_1 (x_dk dn_108_0_1_ok 11 rfl)))
  (e_Lok (sm_iadd (x_dk dn_108_0_1_ok 12 rfl))))))
  (e_Tok2
  (e_Tok2
  (e_Lok (lk_6_125p ho_108 (x_dk dn_108_0_1_ok 13 rfl)))
  (e_Tok2
  (e_Lok (e_st (I := eI) (er_goto (off := (-36)) (tg := 39) (x_dk dn_108_0_1_ok 14 rfl) (by decide)) nx_goto))
  (e_Lok (ps_iconst_0 (x_dk dn_108_0_1_ok 15 rfl)))))
  (e_Tok2
  (e_Lok (e_st (I := eI) (er_istore (i := 4) (x_dk dn_108_0_1_ok 16 rfl) (by decide +kernel)) nx_stor))
  (e_Tok2
  (e_Lok (ld_iload_4 (x_dk dn_108_0_1_ok 17 rfl)))
  (e_Lok (ld_aload_n_1 (x_dk dn_108_0_1_ok 18 rfl))))))))
def te_108_44 : Nat → eE := (e_T 104 (e_T 94 (e_T 87 (e_T 84 (e_L 84 (0, ei_getf eft elay 0 8 87, 0, 0)) (e_L 87 (0, ei_if2 3 116 90, 0, 0))) (e_T 90 (e_L 90 (0, ei_load 1 2 91, 0, 0)) (e_T 91 (e_L 91 (0, ei_getf eft elay 0 0 94, 0, 0)) (e_L 94 (0, ei_load 4 0 96, 0, 0))))) (e_T 98 (e_T 96 (e_L 96 (0, ei_aald elay 97, 0, 0)) (e_T 97 (e_L 97 (0, ei_load 1 2 98, 0, 0)) (e_L 98 (0, ei_getf eft elay 0 0 101, 0, 0)))) (e_T 101 (e_L 101 (0, ei_load 4 0 103, 0, 0)) (e_T 103 (e_L 103 (0, ei_aald elay 104, 0, 0)) (e_L 104 (0, ei_getf eft elay 5 7 107, 0, 0)))))) (e_T 117 (e_T 110 (e_T 107 (e_L 107 (0, ei_putf eft elay 5 9 0 110, 0, 0)) (e_L 110 (0, ei_inc 4 1 113, 0, 0))) (e_T 113 (e_L 113 (0, ei_goto 81, 0, 0)) (e_T 116 (e_L 116 (0, ei_load 3 0 117, 0, 0)) (e_L 117 (0, ei_load 0 2 118, 0, 0))))) (e_T 122 (e_T 118 (e_L 118 (0, ei_getf eft elay 6 12 121, 0, 0)) (e_T 121 (e_L 121 (0, ei_load 1 2 122, 0, 0)) (e_L 122 (0, ei_getf eft elay 0 17 125, 0, 0)))) (e_T 125 (e_L 125 (0, ei_ald elay false 126, 0, 0)) (e_T 126 (e_L 126 (0, ei_bin eF_mul 127, 0, 0)) (e_L 127 (0, ei_stor 4 0 129, 0, 0)))))))
set_option maxRecDepth 20000 in
set_option maxHeartbeats 4000000 in
theorem te_108_44_ok : ∀ pc, e_EOq eft cls elay eI n_108 pc (te_108_44 pc) :=
  (e_Tok2
  (e_Tok2
  (e_Tok2
  (e_Tok2
  (e_Lok (lk_6_67g ho_108 (x_dk dn_108_0_1_ok 19 rfl)))
  (e_Lok (e_st (I := eI) (er_icmpge (off := 29) (tg := 116) (x_dk dn_108_0_1_ok 20 rfl) (by decide)) nx_if2)))
  (e_Tok2
  (e_Lok (ld_aload_n_1 (x_dk dn_108_0_1_ok 21 rfl)))
  (e_Tok2
  (e_Lok (lk_6_70g ho_108 (x_dk dn_108_0_1_ok 22 rfl)))
  (e_Lok (ld_iload_4 (x_dk dn_108_0_1_ok 23 rfl))))))
  (e_Tok2
  (e_Tok2
  (e_Lok (e_st (I := eI) (er_aaload (x_dk dn_108_0_1_ok 24 rfl)) nx_aald))
  (e_Tok2
  (e_Lok (ld_aload_n_1 (x_dk dn_108_0_2_ok 0 rfl)))
  (e_Lok (lk_6_70g ho_108 (x_dk dn_108_0_2_ok 1 rfl)))))
  (e_Tok2
  (e_Lok (ld_iload_4 (x_dk dn_108_0_2_ok 2 rfl)))
  (e_Tok2
  (e_Lok (e_st (I := eI) (er_aaload (x_dk dn_108_0_2_ok 3 rfl)) nx_aald))
  (e_Lok (lk_6_74g ho_108 (x_dk dn_108_0_2_ok 4 rfl)))))))
  (e_Tok2
  (e_Tok2
  (e_Tok2
  (e_Lok (lk_6_132p ho_108 (x_dk dn_108_0_2_ok 5 rfl)))
  (e_Lok (e_st (I := eI) (er_iinc (i := 4) (n := 1) (x_dk dn_108_0_2_ok 6 rfl) (by decide +kernel) (by decide)) nx_inc)))
  (e_Tok2
  (e_Lok (e_st (I := eI) (er_goto (off := (-32)) (tg := 81) (x_dk dn_108_0_2_ok 7 rfl) (by decide)) nx_goto))
  (e_Tok2
  (e_Lok (ld_iload_n_3 (x_dk dn_108_0_2_ok 8 rfl)))
  (e_Lok (ld_aload_n_0 (x_dk dn_108_0_2_ok 9 rfl))))))
  (e_Tok2
  (e_Tok2
  (e_Lok (lk_6_38g ho_108 (x_dk dn_108_0_2_ok 10 rfl)))
  (e_Tok2
  (e_Lok (ld_aload_n_1 (x_dk dn_108_0_2_ok 11 rfl)))
  (e_Lok (lk_6_49g ho_108 (x_dk dn_108_0_2_ok 12 rfl)))))
  (e_Tok2
  (e_Lok (sm_iaload (x_dk dn_108_0_2_ok 13 rfl)))
  (e_Tok2
  (e_Lok (sm_imul (x_dk dn_108_0_2_ok 14 rfl)))
  (e_Lok (e_st (I := eI) (er_istore (i := 4) (x_dk dn_108_0_2_ok 15 rfl) (by decide +kernel)) nx_stor)))))))
def te_108_66 : Nat → eE := (e_T 143 (e_T 135 (e_T 130 (e_T 129 (e_L 129 (0, ei_load 1 2 130, 0, 0)) (e_L 130 (0, ei_getf eft elay 0 0 133, 0, 0))) (e_T 133 (e_L 133 (0, ei_load 2 0 134, 0, 0)) (e_T 134 (e_L 134 (0, ei_push (0, 2) 135, 0, 0)) (e_L 135 (0, ei_bin eF_div 136, 0, 0))))) (e_T 138 (e_T 136 (e_L 136 (0, ei_aald elay 137, 0, 0)) (e_T 137 (e_L 137 (0, ei_stk ef_dup 138, 0, 0)) (e_L 138 (0, ei_getf eft elay 5 9 141, 0, 0)))) (e_T 141 (e_L 141 (0, ei_load 2 0 142, 0, 0)) (e_T 142 (e_L 142 (0, ei_push (0, 2) 143, 0, 0)) (e_L 143 (0, ei_bin eF_rem 144, 0, 0)))))) (e_T 155 (e_T 149 (e_T 144 (e_L 144 (0, ei_if1 1 152 147, 0, 0)) (e_T 147 (e_L 147 (0, ei_load 4 0 149, 0, 0)) (e_L 149 (0, ei_goto 155, 0, 0)))) (e_T 152 (e_L 152 (0, ei_load 4 0 154, 0, 0)) (e_T 154 (e_L 154 (0, ei_un (fun x => (0, e32 (-x))) 155, 0, 0)) (e_L 155 (0, ei_bin eF_add 156, 0, 0))))) (e_T 160 (e_T 156 (e_L 156 (0, ei_putf eft elay 5 9 0 159, 0, 0)) (e_T 159 (e_L 159 (0, ei_load 1 2 160, 0, 0)) (e_L 160 (0, ei_push (0, (-1)) 161, 0, 0)))) (e_T 161 (e_L 161 (2, e_nof, 13, 2)) (e_T 164 (e_L 164 (0, ei_push (0, 1) 165, 0, 0)) (e_L 165 (1, e_nof, 4, 0)))))))
set_option maxRecDepth 20000 in
set_option maxHeartbeats 4000000 in
theorem te_108_66_ok : ∀ pc, e_EOq eft cls elay eI n_108 pc (te_108_66 pc) :=
  (e_Tok2
  (e_Tok2
  (e_Tok2
  (e_Tok2
  (e_Lok (ld_aload_n_1 (x_dk dn_108_0_2_ok 16 rfl)))
  (e_Lok (lk_6_70g ho_108 (x_dk dn_108_0_2_ok 17 rfl))))
  (e_Tok2
  (e_Lok (ld_iload_n_2 (x_dk dn_108_0_2_ok 18 rfl)))
  (e_Tok2
  (e_Lok (ps_iconst_2 (x_dk dn_108_0_2_ok 19 rfl)))
  (e_Lok (e_st (I := eI) (er_idiv (x_dk dn_108_0_2_ok 20 rfl)) nx_bin)))))
  (e_Tok2
  (e_Tok2
  (e_Lok (e_st (I := eI) (er_aaload (x_dk dn_108_0_2_ok 21 rfl)) nx_aald))
  (e_Tok2
  (e_Lok (e_st (I := eI) (er_dup (x_dk dn_108_0_2_ok 22 rfl)) (nx_stk bf_dup)))
  (e_Lok (lk_6_132g ho_108 (x_dk dn_108_0_2_ok 23 rfl)))))
  (e_Tok2
  (e_Lok (ld_iload_n_2 (x_dk dn_108_0_2_ok 24 rfl)))
  (e_Tok2
  (e_Lok (ps_iconst_2 (x_dk dn_108_0_3_ok 0 rfl)))
  (e_Lok (e_st (I := eI) (er_irem (x_dk dn_108_0_3_ok 1 rfl)) nx_bin))))))
  (e_Tok2
  (e_Tok2
  (e_Tok2
  (e_Lok (e_st (I := eI) (er_ifne (off := 8) (tg := 152) (x_dk dn_108_0_3_ok 2 rfl) (by decide)) nx_if1))
  (e_Tok2
  (e_Lok (ld_iload_4 (x_dk dn_108_0_3_ok 3 rfl)))
  (e_Lok (e_st (I := eI) (er_goto (off := 6) (tg := 155) (x_dk dn_108_0_3_ok 4 rfl) (by decide)) nx_goto))))
  (e_Tok2
  (e_Lok (ld_iload_4 (x_dk dn_108_0_3_ok 5 rfl)))
  (e_Tok2
  (e_Lok (e_st (I := eI) (er_ineg (x_dk dn_108_0_3_ok 6 rfl)) (nx_un (fun _ => rfl))))
  (e_Lok (sm_iadd (x_dk dn_108_0_3_ok 7 rfl))))))
  (e_Tok2
  (e_Tok2
  (e_Lok (lk_6_132p ho_108 (x_dk dn_108_0_3_ok 8 rfl)))
  (e_Tok2
  (e_Lok (ld_aload_n_1 (x_dk dn_108_0_3_ok 9 rfl)))
  (e_Lok (ps_iconst_m1 (x_dk dn_108_0_3_ok 10 rfl)))))
  (e_Tok2
  (e_Lok (lk_6_135 ho_108 (x_dk dn_108_0_3_ok 11 rfl)))
  (e_Tok2
  (e_Lok (ps_iconst_1 (x_dk dn_108_0_3_ok 12 rfl)))
  (e_Lok (e_rt (I := eI) (k := 4) ⟨(x_dk dn_108_0_3_ok 13 rfl), rfl⟩)))))))
def te_108 : Nat → eE := (e_T 83 (e_T 39 te_108_0 te_108_22) (e_T 127 te_108_44 te_108_66))
theorem te_108_ok : ∀ pc, e_EOq eft cls elay eI n_108 pc (te_108 pc) := (e_Tok2 ((e_Tok2 (te_108_0_ok) (te_108_22_ok))) ((e_Tok2 (te_108_44_ok) (te_108_66_ok))))
theorem ho_109 : (xm_y n_109).cls = "RobotCellHouse$Points" := rfl
def dn_109_0_0 : List (Nat × Instr × Nat) := [(0, .aload_n 0, 1), (1, .getfield 24, 3), (4, .iconst (-1), 1), (5, .invokestatic 37, 3), (8, .aload_n 0, 1), (9, .invokevirtual 43, 3), (12, .return_, 1)]
set_option maxRecDepth 20000 in
theorem dn_109_0_0_ok : dn_109_0_0.all (fun q => decide (decode (xm_b n_109) q.1 = .ok (q.2.1, q.2.2))) = true := xa_g_ok (by decide +kernel)
def te_109_0 : Nat → eE := (e_T 4 (e_T 0 (e_L 0 (0, ei_load 0 2 1, 0, 0)) (e_T 1 (e_L 1 (0, ei_getf eft elay 7 4 4, 0, 0)) (e_L 4 (0, ei_push (0, (-1)) 5, 0, 0)))) (e_T 8 (e_T 5 (e_L 5 (2, e_nof, 452, 2)) (e_L 8 (0, ei_load 0 2 9, 0, 0))) (e_T 9 (e_L 9 (2, e_nof, 115, 1)) (e_L 12 (1, e_nof, 0, 0)))))
set_option maxRecDepth 20000 in
set_option maxHeartbeats 4000000 in
theorem te_109_0_ok : ∀ pc, e_EOq eft cls elay eI n_109 pc (te_109_0 pc) :=
  (e_Tok2
  (e_Tok2
  (e_Lok (ld_aload_n_0 (x_dk dn_109_0_0_ok 0 rfl)))
  (e_Tok2
  (e_Lok (lk_7_24g ho_109 (x_dk dn_109_0_0_ok 1 rfl)))
  (e_Lok (ps_iconst_m1 (x_dk dn_109_0_0_ok 2 rfl)))))
  (e_Tok2
  (e_Tok2
  (e_Lok (lk_7_37 ho_109 (x_dk dn_109_0_0_ok 3 rfl)))
  (e_Lok (ld_aload_n_0 (x_dk dn_109_0_0_ok 4 rfl))))
  (e_Tok2
  (e_Lok (lk_7_43 ho_109 (x_dk dn_109_0_0_ok 5 rfl)))
  (e_Lok (e_rt (I := eI) (k := 0) ⟨(x_dk dn_109_0_0_ok 6 rfl), rfl⟩)))))
def te_109 : Nat → eE := te_109_0
theorem te_109_ok : ∀ pc, e_EOq eft cls elay eI n_109 pc (te_109 pc) := te_109_0_ok
theorem ho_110 : (xm_y n_110).cls = "RobotCellHouse$Points" := rfl
def dn_110_0_0 : List (Nat × Instr × Nat) := [(0, .aload_n 0, 1), (1, .getfield 9, 3), (4, .iconst 0, 1), (5, .invokestatic 37, 3), (8, .iconst 0, 1), (9, .istore_n 1, 1), (10, .iload_n 1, 1), (11, .bipush 64, 2), (13, .if_icmp .ge 16, 3), (16, .aload_n 0, 1), (17, .getfield 27, 3), (20, .iload_n 1, 1), (21, .iconst 0, 1), (22, .bastore, 1), (23, .iinc 1 1, 3), (26, .goto (-16), 3), (29, .aload_n 0, 1), (30, .invokevirtual 46, 3), (33, .aload_n 0, 1), (34, .getfield 18, 3), (37, .iconst 0, 1), (38, .invokestatic 37, 3), (41, .return_, 1)]
set_option maxRecDepth 20000 in
theorem dn_110_0_0_ok : dn_110_0_0.all (fun q => decide (decode (xm_b n_110) q.1 = .ok (q.2.1, q.2.2))) = true := xa_g_ok (by decide +kernel)
def te_110_0 : Nat → eE := (e_T 17 (e_T 8 (e_T 1 (e_T 0 (e_L 0 (0, ei_load 0 2 1, 0, 0)) (e_L 1 (0, ei_getf eft elay 7 0 4, 0, 0))) (e_T 4 (e_L 4 (0, ei_push (0, 0) 5, 0, 0)) (e_T 5 (e_L 5 (2, e_nof, 452, 2)) (e_L 8 (0, ei_push (0, 0) 9, 0, 0))))) (e_T 11 (e_T 9 (e_L 9 (0, ei_stor 1 0 10, 0, 0)) (e_T 10 (e_L 10 (0, ei_load 1 0 11, 0, 0)) (e_L 11 (0, ei_push (0, 64) 13, 0, 0)))) (e_T 13 (e_L 13 (0, ei_if2 3 29 16, 0, 0)) (e_T 16 (e_L 16 (0, ei_load 0 2 17, 0, 0)) (e_L 17 (0, ei_getf eft elay 7 5 20, 0, 0)))))) (e_T 29 (e_T 22 (e_T 20 (e_L 20 (0, ei_load 1 0 21, 0, 0)) (e_T 21 (e_L 21 (0, ei_push (0, 0) 22, 0, 0)) (e_L 22 (0, ei_ast elay true 23, 0, 0)))) (e_T 23 (e_L 23 (0, ei_inc 1 1 26, 0, 0)) (e_T 26 (e_L 26 (0, ei_goto 10, 0, 0)) (e_L 29 (0, ei_load 0 2 30, 0, 0))))) (e_T 34 (e_T 30 (e_L 30 (2, e_nof, 116, 1)) (e_T 33 (e_L 33 (0, ei_load 0 2 34, 0, 0)) (e_L 34 (0, ei_getf eft elay 7 2 37, 0, 0)))) (e_T 37 (e_L 37 (0, ei_push (0, 0) 38, 0, 0)) (e_T 38 (e_L 38 (2, e_nof, 452, 2)) (e_L 41 (1, e_nof, 0, 0)))))))
set_option maxRecDepth 20000 in
set_option maxHeartbeats 4000000 in
theorem te_110_0_ok : ∀ pc, e_EOq eft cls elay eI n_110 pc (te_110_0 pc) :=
  (e_Tok2
  (e_Tok2
  (e_Tok2
  (e_Tok2
  (e_Lok (ld_aload_n_0 (x_dk dn_110_0_0_ok 0 rfl)))
  (e_Lok (lk_7_9g ho_110 (x_dk dn_110_0_0_ok 1 rfl))))
  (e_Tok2
  (e_Lok (ps_iconst_0 (x_dk dn_110_0_0_ok 2 rfl)))
  (e_Tok2
  (e_Lok (lk_7_37 ho_110 (x_dk dn_110_0_0_ok 3 rfl)))
  (e_Lok (ps_iconst_0 (x_dk dn_110_0_0_ok 4 rfl))))))
  (e_Tok2
  (e_Tok2
  (e_Lok (e_st (I := eI) (er_istore_n (i := 1) (x_dk dn_110_0_0_ok 5 rfl) (by decide +kernel)) nx_stor))
  (e_Tok2
  (e_Lok (ld_iload_n_1 (x_dk dn_110_0_0_ok 6 rfl)))
  (e_Lok (ps_bipush_64 (x_dk dn_110_0_0_ok 7 rfl)))))
  (e_Tok2
  (e_Lok (e_st (I := eI) (er_icmpge (off := 16) (tg := 29) (x_dk dn_110_0_0_ok 8 rfl) (by decide)) nx_if2))
  (e_Tok2
  (e_Lok (ld_aload_n_0 (x_dk dn_110_0_0_ok 9 rfl)))
  (e_Lok (lk_7_27g ho_110 (x_dk dn_110_0_0_ok 10 rfl)))))))
  (e_Tok2
  (e_Tok2
  (e_Tok2
  (e_Lok (ld_iload_n_1 (x_dk dn_110_0_0_ok 11 rfl)))
  (e_Tok2
  (e_Lok (ps_iconst_0 (x_dk dn_110_0_0_ok 12 rfl)))
  (e_Lok (e_st (I := eI) (er_bastore (x_dk dn_110_0_0_ok 13 rfl)) nx_ast))))
  (e_Tok2
  (e_Lok (e_st (I := eI) (er_iinc (i := 1) (n := 1) (x_dk dn_110_0_0_ok 14 rfl) (by decide +kernel) (by decide)) nx_inc))
  (e_Tok2
  (e_Lok (e_st (I := eI) (er_goto (off := (-16)) (tg := 10) (x_dk dn_110_0_0_ok 15 rfl) (by decide)) nx_goto))
  (e_Lok (ld_aload_n_0 (x_dk dn_110_0_0_ok 16 rfl))))))
  (e_Tok2
  (e_Tok2
  (e_Lok (lk_7_46 ho_110 (x_dk dn_110_0_0_ok 17 rfl)))
  (e_Tok2
  (e_Lok (ld_aload_n_0 (x_dk dn_110_0_0_ok 18 rfl)))
  (e_Lok (lk_7_18g ho_110 (x_dk dn_110_0_0_ok 19 rfl)))))
  (e_Tok2
  (e_Lok (ps_iconst_0 (x_dk dn_110_0_0_ok 20 rfl)))
  (e_Tok2
  (e_Lok (lk_7_37 ho_110 (x_dk dn_110_0_0_ok 21 rfl)))
  (e_Lok (e_rt (I := eI) (k := 0) ⟨(x_dk dn_110_0_0_ok 22 rfl), rfl⟩)))))))
def te_110 : Nat → eE := te_110_0
theorem te_110_ok : ∀ pc, e_EOq eft cls elay eI n_110 pc (te_110 pc) := te_110_0_ok
theorem ho_111 : (xm_y n_111).cls = "RobotCellHouse$Points" := rfl
def dn_111_0_0 : List (Nat × Instr × Nat) := [(0, .aload_n 0, 1), (1, .getfield 24, 3), (4, .iload_n 2, 1), (5, .iaload, 1), (6, .ifCond .lt 5, 3), (9, .iconst 0, 1), (10, .ireturn, 1), (11, .iload_n 1, 1), (12, .istore_n 3, 1), (13, .iconst 0, 1), (14, .istore 4, 2), (16, .iload 4, 2), (18, .bipush 64, 2), (20, .if_icmp .ge 27, 3), (23, .iload_n 3, 1), (24, .ifCond .lt 23, 3), (27, .iload_n 3, 1), (28, .iload_n 2, 1), (29, .if_icmp .ne 5, 3), (32, .iconst 0, 1), (33, .ireturn, 1), (34, .aload_n 0, 1), (35, .getfield 24, 3), (38, .iload_n 3, 1), (39, .iaload, 1)]
set_option maxRecDepth 20000 in
theorem dn_111_0_0_ok : dn_111_0_0.all (fun q => decide (decode (xm_b n_111) q.1 = .ok (q.2.1, q.2.2))) = true := xa_g_ok (by decide +kernel)
def dn_111_0_1 : List (Nat × Instr × Nat) := [(40, .istore_n 3, 1), (41, .iinc 4 1, 3), (44, .goto (-28), 3), (47, .iconst 1, 1), (48, .ireturn, 1)]
set_option maxRecDepth 20000 in
theorem dn_111_0_1_ok : dn_111_0_1.all (fun q => decide (decode (xm_b n_111) q.1 = .ok (q.2.1, q.2.2))) = true := xa_g_ok (by decide +kernel)
def te_111_0 : Nat → eE := (e_T 23 (e_T 10 (e_T 4 (e_T 0 (e_L 0 (0, ei_load 0 2 1, 0, 0)) (e_T 1 (e_L 1 (0, ei_getf eft elay 7 4 4, 0, 0)) (e_L 4 (0, ei_load 2 0 5, 0, 0)))) (e_T 6 (e_T 5 (e_L 5 (0, ei_ald elay false 6, 0, 0)) (e_L 6 (0, ei_if1 2 11 9, 0, 0))) (e_T 9 (e_L 9 (0, ei_push (0, 0) 10, 0, 0)) (e_L 10 (1, e_nof, 4, 0))))) (e_T 14 (e_T 12 (e_T 11 (e_L 11 (0, ei_load 1 0 12, 0, 0)) (e_L 12 (0, ei_stor 3 0 13, 0, 0))) (e_T 13 (e_L 13 (0, ei_push (0, 0) 14, 0, 0)) (e_L 14 (0, ei_stor 4 0 16, 0, 0)))) (e_T 18 (e_T 16 (e_L 16 (0, ei_load 4 0 18, 0, 0)) (e_L 18 (0, ei_push (0, 64) 20, 0, 0))) (e_T 20 (e_L 20 (0, ei_if2 3 47 23, 0, 0)) (e_L 23 (0, ei_load 3 0 24, 0, 0)))))) (e_T 34 (e_T 28 (e_T 24 (e_L 24 (0, ei_if1 2 47 27, 0, 0)) (e_T 27 (e_L 27 (0, ei_load 3 0 28, 0, 0)) (e_L 28 (0, ei_load 2 0 29, 0, 0)))) (e_T 32 (e_T 29 (e_L 29 (0, ei_if2 1 34 32, 0, 0)) (e_L 32 (0, ei_push (0, 0) 33, 0, 0))) (e_T 33 (e_L 33 (1, e_nof, 4, 0)) (e_L 34 (0, ei_load 0 2 35, 0, 0))))) (e_T 40 (e_T 38 (e_T 35 (e_L 35 (0, ei_getf eft elay 7 4 38, 0, 0)) (e_L 38 (0, ei_load 3 0 39, 0, 0))) (e_T 39 (e_L 39 (0, ei_ald elay false 40, 0, 0)) (e_L 40 (0, ei_stor 3 0 41, 0, 0)))) (e_T 44 (e_T 41 (e_L 41 (0, ei_inc 4 1 44, 0, 0)) (e_L 44 (0, ei_goto 16, 0, 0))) (e_T 47 (e_L 47 (0, ei_push (0, 1) 48, 0, 0)) (e_L 48 (1, e_nof, 4, 0)))))))
set_option maxRecDepth 20000 in
set_option maxHeartbeats 4000000 in
theorem te_111_0_ok : ∀ pc, e_EOq eft cls elay eI n_111 pc (te_111_0 pc) :=
  (e_Tok2
  (e_Tok2
  (e_Tok2
  (e_Tok2
  (e_Lok (ld_aload_n_0 (x_dk dn_111_0_0_ok 0 rfl)))
  (e_Tok2
  (e_Lok (lk_7_24g ho_111 (x_dk dn_111_0_0_ok 1 rfl)))
  (e_Lok (ld_iload_n_2 (x_dk dn_111_0_0_ok 2 rfl)))))
  (e_Tok2
  (e_Tok2
  (e_Lok (sm_iaload (x_dk dn_111_0_0_ok 3 rfl)))
  (e_Lok (e_st (I := eI) (er_iflt (off := 5) (tg := 11) (x_dk dn_111_0_0_ok 4 rfl) (by decide)) nx_if1)))
  (e_Tok2
  (e_Lok (ps_iconst_0 (x_dk dn_111_0_0_ok 5 rfl)))
  (e_Lok (e_rt (I := eI) (k := 4) ⟨(x_dk dn_111_0_0_ok 6 rfl), rfl⟩)))))
  (e_Tok2
  (e_Tok2
  (e_Tok2
  (e_Lok (ld_iload_n_1 (x_dk dn_111_0_0_ok 7 rfl)))
  (e_Lok (e_st (I := eI) (er_istore_n (i := 3) (x_dk dn_111_0_0_ok 8 rfl) (by decide +kernel)) nx_stor)))
  (e_Tok2
  (e_Lok (ps_iconst_0 (x_dk dn_111_0_0_ok 9 rfl)))
  (e_Lok (e_st (I := eI) (er_istore (i := 4) (x_dk dn_111_0_0_ok 10 rfl) (by decide +kernel)) nx_stor))))
  (e_Tok2
  (e_Tok2
  (e_Lok (ld_iload_4 (x_dk dn_111_0_0_ok 11 rfl)))
  (e_Lok (ps_bipush_64 (x_dk dn_111_0_0_ok 12 rfl))))
  (e_Tok2
  (e_Lok (e_st (I := eI) (er_icmpge (off := 27) (tg := 47) (x_dk dn_111_0_0_ok 13 rfl) (by decide)) nx_if2))
  (e_Lok (ld_iload_n_3 (x_dk dn_111_0_0_ok 14 rfl)))))))
  (e_Tok2
  (e_Tok2
  (e_Tok2
  (e_Lok (e_st (I := eI) (er_iflt (off := 23) (tg := 47) (x_dk dn_111_0_0_ok 15 rfl) (by decide)) nx_if1))
  (e_Tok2
  (e_Lok (ld_iload_n_3 (x_dk dn_111_0_0_ok 16 rfl)))
  (e_Lok (ld_iload_n_2 (x_dk dn_111_0_0_ok 17 rfl)))))
  (e_Tok2
  (e_Tok2
  (e_Lok (e_st (I := eI) (er_icmpne (off := 5) (tg := 34) (x_dk dn_111_0_0_ok 18 rfl) (by decide)) nx_if2))
  (e_Lok (ps_iconst_0 (x_dk dn_111_0_0_ok 19 rfl))))
  (e_Tok2
  (e_Lok (e_rt (I := eI) (k := 4) ⟨(x_dk dn_111_0_0_ok 20 rfl), rfl⟩))
  (e_Lok (ld_aload_n_0 (x_dk dn_111_0_0_ok 21 rfl))))))
  (e_Tok2
  (e_Tok2
  (e_Tok2
  (e_Lok (lk_7_24g ho_111 (x_dk dn_111_0_0_ok 22 rfl)))
  (e_Lok (ld_iload_n_3 (x_dk dn_111_0_0_ok 23 rfl))))
  (e_Tok2
  (e_Lok (sm_iaload (x_dk dn_111_0_0_ok 24 rfl)))
  (e_Lok (e_st (I := eI) (er_istore_n (i := 3) (x_dk dn_111_0_1_ok 0 rfl) (by decide +kernel)) nx_stor))))
  (e_Tok2
  (e_Tok2
  (e_Lok (e_st (I := eI) (er_iinc (i := 4) (n := 1) (x_dk dn_111_0_1_ok 1 rfl) (by decide +kernel) (by decide)) nx_inc))
  (e_Lok (e_st (I := eI) (er_goto (off := (-28)) (tg := 16) (x_dk dn_111_0_1_ok 2 rfl) (by decide)) nx_goto)))
  (e_Tok2
  (e_Lok (ps_iconst_1 (x_dk dn_111_0_1_ok 3 rfl)))
  (e_Lok (e_rt (I := eI) (k := 4) ⟨(x_dk dn_111_0_1_ok 4 rfl), rfl⟩)))))))
def te_111 : Nat → eE := te_111_0
theorem te_111_ok : ∀ pc, e_EOq eft cls elay eI n_111 pc (te_111 pc) := te_111_0_ok
theorem ho_112 : (xm_y n_112).cls = "RobotCellHouse$Points" := rfl
def dn_112_0_0 : List (Nat × Instr × Nat) := [(0, .aload_n 0, 1), (1, .getfield 24, 3), (4, .iload_n 2, 1), (5, .iload_n 1, 1), (6, .iastore, 1), (7, .aload_n 0, 1), (8, .getfield 31, 3), (11, .iload_n 2, 1), (12, .iload_n 3, 1), (13, .bastore, 1), (14, .aload_n 0, 1), (15, .invokevirtual 43, 3), (18, .aload_n 0, 1), (19, .invokevirtual 49, 3), (22, .return_, 1)]
set_option maxRecDepth 20000 in
theorem dn_112_0_0_ok : dn_112_0_0.all (fun q => decide (decode (xm_b n_112) q.1 = .ok (q.2.1, q.2.2))) = true := xa_g_ok (by decide +kernel)
def te_112_0 : Nat → eE := (e_T 8 (e_T 4 (e_T 0 (e_L 0 (0, ei_load 0 2 1, 0, 0)) (e_T 1 (e_L 1 (0, ei_getf eft elay 7 4 4, 0, 0)) (e_L 4 (0, ei_load 2 0 5, 0, 0)))) (e_T 6 (e_T 5 (e_L 5 (0, ei_load 1 0 6, 0, 0)) (e_L 6 (0, ei_ast elay false 7, 0, 0))) (e_T 7 (e_L 7 (0, ei_load 0 2 8, 0, 0)) (e_L 8 (0, ei_getf eft elay 7 6 11, 0, 0))))) (e_T 14 (e_T 12 (e_T 11 (e_L 11 (0, ei_load 2 0 12, 0, 0)) (e_L 12 (0, ei_load 3 0 13, 0, 0))) (e_T 13 (e_L 13 (0, ei_ast elay true 14, 0, 0)) (e_L 14 (0, ei_load 0 2 15, 0, 0)))) (e_T 18 (e_T 15 (e_L 15 (2, e_nof, 115, 1)) (e_L 18 (0, ei_load 0 2 19, 0, 0))) (e_T 19 (e_L 19 (2, e_nof, 110, 1)) (e_L 22 (1, e_nof, 0, 0))))))
set_option maxRecDepth 20000 in
set_option maxHeartbeats 4000000 in
theorem te_112_0_ok : ∀ pc, e_EOq eft cls elay eI n_112 pc (te_112_0 pc) :=
  (e_Tok2
  (e_Tok2
  (e_Tok2
  (e_Lok (ld_aload_n_0 (x_dk dn_112_0_0_ok 0 rfl)))
  (e_Tok2
  (e_Lok (lk_7_24g ho_112 (x_dk dn_112_0_0_ok 1 rfl)))
  (e_Lok (ld_iload_n_2 (x_dk dn_112_0_0_ok 2 rfl)))))
  (e_Tok2
  (e_Tok2
  (e_Lok (ld_iload_n_1 (x_dk dn_112_0_0_ok 3 rfl)))
  (e_Lok (sm_iastore (x_dk dn_112_0_0_ok 4 rfl))))
  (e_Tok2
  (e_Lok (ld_aload_n_0 (x_dk dn_112_0_0_ok 5 rfl)))
  (e_Lok (lk_7_31g ho_112 (x_dk dn_112_0_0_ok 6 rfl))))))
  (e_Tok2
  (e_Tok2
  (e_Tok2
  (e_Lok (ld_iload_n_2 (x_dk dn_112_0_0_ok 7 rfl)))
  (e_Lok (ld_iload_n_3 (x_dk dn_112_0_0_ok 8 rfl))))
  (e_Tok2
  (e_Lok (e_st (I := eI) (er_bastore (x_dk dn_112_0_0_ok 9 rfl)) nx_ast))
  (e_Lok (ld_aload_n_0 (x_dk dn_112_0_0_ok 10 rfl)))))
  (e_Tok2
  (e_Tok2
  (e_Lok (lk_7_43 ho_112 (x_dk dn_112_0_0_ok 11 rfl)))
  (e_Lok (ld_aload_n_0 (x_dk dn_112_0_0_ok 12 rfl))))
  (e_Tok2
  (e_Lok (lk_7_49 ho_112 (x_dk dn_112_0_0_ok 13 rfl)))
  (e_Lok (e_rt (I := eI) (k := 0) ⟨(x_dk dn_112_0_0_ok 14 rfl), rfl⟩))))))
def te_112 : Nat → eE := te_112_0
theorem te_112_ok : ∀ pc, e_EOq eft cls elay eI n_112 pc (te_112 pc) := te_112_0_ok
theorem ho_113 : (xm_y n_113).cls = "RobotCellHouse$Points" := rfl
def dn_113_0_0 : List (Nat × Instr × Nat) := [(0, .aload_n 0, 1), (1, .getfield 9, 3), (4, .iload_n 1, 1), (5, .iaload, 1), (6, .istore_n 3, 1), (7, .aload_n 0, 1), (8, .getfield 9, 3), (11, .iload_n 1, 1), (12, .iload_n 2, 1), (13, .iastore, 1), (14, .aload_n 0, 1), (15, .iload_n 1, 1), (16, .invokevirtual 52, 3), (19, .aload_n 0, 1), (20, .getfield 15, 3), (23, .iload_n 1, 1), (24, .iaload, 1), (25, .if_icmp .eq 7, 3), (28, .aload_n 0, 1), (29, .invokevirtual 46, 3), (32, .iload_n 3, 1), (33, .ireturn, 1)]
set_option maxRecDepth 20000 in
theorem dn_113_0_0_ok : dn_113_0_0.all (fun q => decide (decode (xm_b n_113) q.1 = .ok (q.2.1, q.2.2))) = true := xa_g_ok (by decide +kernel)
def te_113_0 : Nat → eE := (e_T 14 (e_T 6 (e_T 1 (e_T 0 (e_L 0 (0, ei_load 0 2 1, 0, 0)) (e_L 1 (0, ei_getf eft elay 7 0 4, 0, 0))) (e_T 4 (e_L 4 (0, ei_load 1 0 5, 0, 0)) (e_T 5 (e_L 5 (0, ei_ald elay false 6, 0, 0)) (e_L 6 (0, ei_stor 3 0 7, 0, 0))))) (e_T 11 (e_T 7 (e_L 7 (0, ei_load 0 2 8, 0, 0)) (e_T 8 (e_L 8 (0, ei_getf eft elay 7 0 11, 0, 0)) (e_L 11 (0, ei_load 1 0 12, 0, 0)))) (e_T 12 (e_L 12 (0, ei_load 2 0 13, 0, 0)) (e_T 13 (e_L 13 (0, ei_ast elay false 14, 0, 0)) (e_L 14 (0, ei_load 0 2 15, 0, 0)))))) (e_T 23 (e_T 16 (e_T 15 (e_L 15 (0, ei_load 1 0 16, 0, 0)) (e_L 16 (2, e_nof, 117, 2))) (e_T 19 (e_L 19 (0, ei_load 0 2 20, 0, 0)) (e_T 20 (e_L 20 (0, ei_getf eft elay 7 1 23, 0, 0)) (e_L 23 (0, ei_load 1 0 24, 0, 0))))) (e_T 28 (e_T 24 (e_L 24 (0, ei_ald elay false 25, 0, 0)) (e_T 25 (e_L 25 (0, ei_if2 0 32 28, 0, 0)) (e_L 28 (0, ei_load 0 2 29, 0, 0)))) (e_T 29 (e_L 29 (2, e_nof, 116, 1)) (e_T 32 (e_L 32 (0, ei_load 3 0 33, 0, 0)) (e_L 33 (1, e_nof, 1, 0)))))))
set_option maxRecDepth 20000 in
set_option maxHeartbeats 4000000 in
theorem te_113_0_ok : ∀ pc, e_EOq eft cls elay eI n_113 pc (te_113_0 pc) :=
  (e_Tok2
  (e_Tok2
  (e_Tok2
  (e_Tok2
  (e_Lok (ld_aload_n_0 (x_dk dn_113_0_0_ok 0 rfl)))
  (e_Lok (lk_7_9g ho_113 (x_dk dn_113_0_0_ok 1 rfl))))
  (e_Tok2
  (e_Lok (ld_iload_n_1 (x_dk dn_113_0_0_ok 2 rfl)))
  (e_Tok2
  (e_Lok (sm_iaload (x_dk dn_113_0_0_ok 3 rfl)))
  (e_Lok (e_st (I := eI) (er_istore_n (i := 3) (x_dk dn_113_0_0_ok 4 rfl) (by decide +kernel)) nx_stor)))))
  (e_Tok2
  (e_Tok2
  (e_Lok (ld_aload_n_0 (x_dk dn_113_0_0_ok 5 rfl)))
  (e_Tok2
  (e_Lok (lk_7_9g ho_113 (x_dk dn_113_0_0_ok 6 rfl)))
  (e_Lok (ld_iload_n_1 (x_dk dn_113_0_0_ok 7 rfl)))))
  (e_Tok2
  (e_Lok (ld_iload_n_2 (x_dk dn_113_0_0_ok 8 rfl)))
  (e_Tok2
  (e_Lok (sm_iastore (x_dk dn_113_0_0_ok 9 rfl)))
  (e_Lok (ld_aload_n_0 (x_dk dn_113_0_0_ok 10 rfl)))))))
  (e_Tok2
  (e_Tok2
  (e_Tok2
  (e_Lok (ld_iload_n_1 (x_dk dn_113_0_0_ok 11 rfl)))
  (e_Lok (lk_7_52 ho_113 (x_dk dn_113_0_0_ok 12 rfl))))
  (e_Tok2
  (e_Lok (ld_aload_n_0 (x_dk dn_113_0_0_ok 13 rfl)))
  (e_Tok2
  (e_Lok (lk_7_15g ho_113 (x_dk dn_113_0_0_ok 14 rfl)))
  (e_Lok (ld_iload_n_1 (x_dk dn_113_0_0_ok 15 rfl))))))
  (e_Tok2
  (e_Tok2
  (e_Lok (sm_iaload (x_dk dn_113_0_0_ok 16 rfl)))
  (e_Tok2
  (e_Lok (e_st (I := eI) (er_icmpeq (off := 7) (tg := 32) (x_dk dn_113_0_0_ok 17 rfl) (by decide)) nx_if2))
  (e_Lok (ld_aload_n_0 (x_dk dn_113_0_0_ok 18 rfl)))))
  (e_Tok2
  (e_Lok (lk_7_46 ho_113 (x_dk dn_113_0_0_ok 19 rfl)))
  (e_Tok2
  (e_Lok (ld_iload_n_3 (x_dk dn_113_0_0_ok 20 rfl)))
  (e_Lok (e_rt (I := eI) (k := 1) ⟨(x_dk dn_113_0_0_ok 21 rfl), rfl⟩)))))))
def te_113 : Nat → eE := te_113_0
theorem te_113_ok : ∀ pc, e_EOq eft cls elay eI n_113 pc (te_113 pc) := te_113_0_ok
theorem ho_114 : (xm_y n_114).cls = "RobotCellHouse$Points" := rfl
def dn_114_0_0 : List (Nat × Instr × Nat) := [(0, .aload_n 0, 1), (1, .getfield 27, 3), (4, .iload_n 1, 1), (5, .baload, 1), (6, .ifCond .eq 7, 3), (9, .iconst 1, 1), (10, .goto 4, 3), (13, .iconst 0, 1), (14, .istore 4, 2), (16, .aload_n 0, 1), (17, .getfield 27, 3), (20, .iload_n 1, 1), (21, .iload_n 3, 1), (22, .bastore, 1), (23, .aload_n 0, 1), (24, .getfield 21, 3), (27, .iload_n 1, 1), (28, .iload_n 2, 1), (29, .iastore, 1), (30, .aload_n 0, 1), (31, .iload_n 1, 1), (32, .invokevirtual 52, 3), (35, .aload_n 0, 1), (36, .getfield 15, 3), (39, .iload_n 1, 1)]
set_option maxRecDepth 20000 in
theorem dn_114_0_0_ok : dn_114_0_0.all (fun q => decide (decode (xm_b n_114) q.1 = .ok (q.2.1, q.2.2))) = true := xa_g_ok (by decide +kernel)
def dn_114_0_1 : List (Nat × Instr × Nat) := [(40, .iaload, 1), (41, .if_icmp .eq 7, 3), (44, .aload_n 0, 1), (45, .invokevirtual 46, 3), (48, .iload 4, 2), (50, .ireturn, 1)]
set_option maxRecDepth 20000 in
theorem dn_114_0_1_ok : dn_114_0_1.all (fun q => decide (decode (xm_b n_114) q.1 = .ok (q.2.1, q.2.2))) = true := xa_g_ok (by decide +kernel)
def te_114_0 : Nat → eE := (e_T 23 (e_T 10 (e_T 4 (e_T 0 (e_L 0 (0, ei_load 0 2 1, 0, 0)) (e_T 1 (e_L 1 (0, ei_getf eft elay 7 5 4, 0, 0)) (e_L 4 (0, ei_load 1 0 5, 0, 0)))) (e_T 6 (e_T 5 (e_L 5 (0, ei_ald elay true 6, 0, 0)) (e_L 6 (0, ei_if1 0 13 9, 0, 0))) (e_T 9 (e_L 9 (0, ei_push (0, 1) 10, 0, 0)) (e_L 10 (0, ei_goto 14, 0, 0))))) (e_T 17 (e_T 14 (e_T 13 (e_L 13 (0, ei_push (0, 0) 14, 0, 0)) (e_L 14 (0, ei_stor 4 0 16, 0, 0))) (e_T 16 (e_L 16 (0, ei_load 0 2 17, 0, 0)) (e_L 17 (0, ei_getf eft elay 7 5 20, 0, 0)))) (e_T 21 (e_T 20 (e_L 20 (0, ei_load 1 0 21, 0, 0)) (e_L 21 (0, ei_load 3 0 22, 0, 0))) (e_T 22 (e_L 22 (0, ei_ast elay true 23, 0, 0)) (e_L 23 (0, ei_load 0 2 24, 0, 0)))))) (e_T 35 (e_T 29 (e_T 27 (e_T 24 (e_L 24 (0, ei_getf eft elay 7 3 27, 0, 0)) (e_L 27 (0, ei_load 1 0 28, 0, 0))) (e_T 28 (e_L 28 (0, ei_load 2 0 29, 0, 0)) (e_L 29 (0, ei_ast elay false 30, 0, 0)))) (e_T 31 (e_T 30 (e_L 30 (0, ei_load 0 2 31, 0, 0)) (e_L 31 (0, ei_load 1 0 32, 0, 0))) (e_T 32 (e_L 32 (2, e_nof, 117, 2)) (e_L 35 (0, ei_load 0 2 36, 0, 0))))) (e_T 41 (e_T 39 (e_T 36 (e_L 36 (0, ei_getf eft elay 7 1 39, 0, 0)) (e_L 39 (0, ei_load 1 0 40, 0, 0))) (e_T 40 (e_L 40 (0, ei_ald elay false 41, 0, 0)) (e_L 41 (0, ei_if2 0 48 44, 0, 0)))) (e_T 45 (e_T 44 (e_L 44 (0, ei_load 0 2 45, 0, 0)) (e_L 45 (2, e_nof, 116, 1))) (e_T 48 (e_L 48 (0, ei_load 4 0 50, 0, 0)) (e_L 50 (1, e_nof, 1, 0)))))))
set_option maxRecDepth 20000 in
set_option maxHeartbeats 4000000 in
theorem te_114_0_ok : ∀ pc, e_EOq eft cls elay eI n_114 pc (te_114_0 pc) :=
  (e_Tok2
  (e_Tok2
  (e_Tok2
  (e_Tok2
  (e_Lok (ld_aload_n_0 (x_dk dn_114_0_0_ok 0 rfl)))
  (e_Tok2
  (e_Lok (lk_7_27g ho_114 (x_dk dn_114_0_0_ok 1 rfl)))
  (e_Lok (ld_iload_n_1 (x_dk dn_114_0_0_ok 2 rfl)))))
  (e_Tok2
  (e_Tok2
  (e_Lok (e_st (I := eI) (er_baload (x_dk dn_114_0_0_ok 3 rfl)) nx_ald))
  (e_Lok (e_st (I := eI) (er_ifeq (off := 7) (tg := 13) (x_dk dn_114_0_0_ok 4 rfl) (by decide)) nx_if1)))
  (e_Tok2
  (e_Lok (ps_iconst_1 (x_dk dn_114_0_0_ok 5 rfl)))
  (e_Lok (e_st (I := eI) (er_goto (off := 4) (tg := 14) (x_dk dn_114_0_0_ok 6 rfl) (by decide)) nx_goto)))))
  (e_Tok2
  (e_Tok2
  (e_Tok2
  (e_Lok (ps_iconst_0 (x_dk dn_114_0_0_ok 7 rfl)))
  (e_Lok (e_st (I := eI) (er_istore (i := 4) (x_dk dn_114_0_0_ok 8 rfl) (by decide +kernel)) nx_stor)))
  (e_Tok2
  (e_Lok (ld_aload_n_0 (x_dk dn_114_0_0_ok 9 rfl)))
  (e_Lok (lk_7_27g ho_114 (x_dk dn_114_0_0_ok 10 rfl)))))
  (e_Tok2
  (e_Tok2
  (e_Lok (ld_iload_n_1 (x_dk dn_114_0_0_ok 11 rfl)))
  (e_Lok (ld_iload_n_3 (x_dk dn_114_0_0_ok 12 rfl))))
  (e_Tok2
  (e_Lok (e_st (I := eI) (er_bastore (x_dk dn_114_0_0_ok 13 rfl)) nx_ast))
  (e_Lok (ld_aload_n_0 (x_dk dn_114_0_0_ok 14 rfl)))))))
  (e_Tok2
  (e_Tok2
  (e_Tok2
  (e_Tok2
  (e_Lok (lk_7_21g ho_114 (x_dk dn_114_0_0_ok 15 rfl)))
  (e_Lok (ld_iload_n_1 (x_dk dn_114_0_0_ok 16 rfl))))
  (e_Tok2
  (e_Lok (ld_iload_n_2 (x_dk dn_114_0_0_ok 17 rfl)))
  (e_Lok (sm_iastore (x_dk dn_114_0_0_ok 18 rfl)))))
  (e_Tok2
  (e_Tok2
  (e_Lok (ld_aload_n_0 (x_dk dn_114_0_0_ok 19 rfl)))
  (e_Lok (ld_iload_n_1 (x_dk dn_114_0_0_ok 20 rfl))))
  (e_Tok2
  (e_Lok (lk_7_52 ho_114 (x_dk dn_114_0_0_ok 21 rfl)))
  (e_Lok (ld_aload_n_0 (x_dk dn_114_0_0_ok 22 rfl))))))
  (e_Tok2
  (e_Tok2
  (e_Tok2
  (e_Lok (lk_7_15g ho_114 (x_dk dn_114_0_0_ok 23 rfl)))
  (e_Lok (ld_iload_n_1 (x_dk dn_114_0_0_ok 24 rfl))))
  (e_Tok2
  (e_Lok (sm_iaload (x_dk dn_114_0_1_ok 0 rfl)))
  (e_Lok (e_st (I := eI) (er_icmpeq (off := 7) (tg := 48) (x_dk dn_114_0_1_ok 1 rfl) (by decide)) nx_if2))))
  (e_Tok2
  (e_Tok2
  (e_Lok (ld_aload_n_0 (x_dk dn_114_0_1_ok 2 rfl)))
  (e_Lok (lk_7_46 ho_114 (x_dk dn_114_0_1_ok 3 rfl))))
  (e_Tok2
  (e_Lok (ld_iload_4 (x_dk dn_114_0_1_ok 4 rfl)))
  (e_Lok (e_rt (I := eI) (k := 1) ⟨(x_dk dn_114_0_1_ok 5 rfl), rfl⟩)))))))
def te_114 : Nat → eE := te_114_0
theorem te_114_ok : ∀ pc, e_EOq eft cls elay eI n_114 pc (te_114 pc) := te_114_0_ok
theorem ho_115 : (xm_y n_115).cls = "RobotCellHouse$Points" := rfl
def dn_115_0_0 : List (Nat × Instr × Nat) := [(0, .iconst 0, 1), (1, .istore_n 1, 1), (2, .iconst 0, 1), (3, .istore_n 2, 1), (4, .iload_n 2, 1), (5, .bipush 64, 2), (7, .if_icmp .ge 28, 3), (10, .aload_n 0, 1), (11, .getfield 24, 3), (14, .iload_n 2, 1), (15, .iaload, 1), (16, .ifCond .ge 13, 3), (19, .aload_n 0, 1), (20, .getfield 34, 3), (23, .iload_n 1, 1), (24, .iload_n 2, 1), (25, .iastore, 1), (26, .iinc 1 1, 3), (29, .iinc 2 1, 3), (32, .goto (-28), 3), (35, .iconst 0, 1), (36, .istore_n 2, 1), (37, .iload_n 2, 1), (38, .iload_n 1, 1), (39, .if_icmp .ge 60, 3)]
set_option maxRecDepth 20000 in
theorem dn_115_0_0_ok : dn_115_0_0.all (fun q => decide (decode (xm_b n_115) q.1 = .ok (q.2.1, q.2.2))) = true := xa_g_ok (by decide +kernel)
def dn_115_0_1 : List (Nat × Instr × Nat) := [(42, .iload_n 1, 1), (43, .bipush 64, 2), (45, .if_icmp .ge 54, 3), (48, .iconst 0, 1), (49, .istore_n 3, 1), (50, .iload_n 3, 1), (51, .bipush 64, 2), (53, .if_icmp .ge 40, 3), (56, .aload_n 0, 1), (57, .getfield 24, 3), (60, .iload_n 3, 1), (61, .iaload, 1), (62, .aload_n 0, 1), (63, .getfield 34, 3), (66, .iload_n 2, 1), (67, .iaload, 1), (68, .if_icmp .ne 19, 3), (71, .iload_n 1, 1), (72, .bipush 64, 2), (74, .if_icmp .ge 13, 3), (77, .aload_n 0, 1), (78, .getfield 34, 3), (81, .iload_n 1, 1), (82, .iload_n 3, 1), (83, .iastore, 1)]
set_option maxRecDepth 20000 in
theorem dn_115_0_1_ok : dn_115_0_1.all (fun q => decide (decode (xm_b n_115) q.1 = .ok (q.2.1, q.2.2))) = true := xa_g_ok (by decide +kernel)
def dn_115_0_2 : List (Nat × Instr × Nat) := [(84, .iinc 1 1, 3), (87, .iinc 3 1, 3), (90, .goto (-40), 3), (93, .iinc 2 1, 3), (96, .goto (-59), 3), (99, .return_, 1)]
set_option maxRecDepth 20000 in
theorem dn_115_0_2_ok : dn_115_0_2.all (fun q => decide (decode (xm_b n_115) q.1 = .ok (q.2.1, q.2.2))) = true := xa_g_ok (by decide +kernel)
def te_115_0 : Nat → eE := (e_T 20 (e_T 7 (e_T 2 (e_T 0 (e_L 0 (0, ei_push (0, 0) 1, 0, 0)) (e_T 1 (e_L 1 (0, ei_stor 1 0 2, 0, 0)) (e_L 2 (0, ei_push (0, 0) 3, 0, 0)))) (e_T 4 (e_T 3 (e_L 3 (0, ei_stor 2 0 4, 0, 0)) (e_L 4 (0, ei_load 2 0 5, 0, 0))) (e_T 5 (e_L 5 (0, ei_push (0, 64) 7, 0, 0)) (e_L 7 (0, ei_if2 3 35 10, 0, 0))))) (e_T 14 (e_T 10 (e_L 10 (0, ei_load 0 2 11, 0, 0)) (e_T 11 (e_L 11 (0, ei_getf eft elay 7 4 14, 0, 0)) (e_L 14 (0, ei_load 2 0 15, 0, 0)))) (e_T 16 (e_T 15 (e_L 15 (0, ei_ald elay false 16, 0, 0)) (e_L 16 (0, ei_if1 3 29 19, 0, 0))) (e_T 19 (e_L 19 (0, ei_load 0 2 20, 0, 0)) (e_L 20 (0, ei_getf eft elay 7 7 23, 0, 0)))))) (e_T 35 (e_T 25 (e_T 23 (e_L 23 (0, ei_load 1 0 24, 0, 0)) (e_T 24 (e_L 24 (0, ei_load 2 0 25, 0, 0)) (e_L 25 (0, ei_ast elay false 26, 0, 0)))) (e_T 29 (e_T 26 (e_L 26 (0, ei_inc 1 1 29, 0, 0)) (e_L 29 (0, ei_inc 2 1 32, 0, 0))) (e_T 32 (e_L 32 (0, ei_goto 4, 0, 0)) (e_L 35 (0, ei_push (0, 0) 36, 0, 0))))) (e_T 38 (e_T 36 (e_L 36 (0, ei_stor 2 0 37, 0, 0)) (e_T 37 (e_L 37 (0, ei_load 2 0 38, 0, 0)) (e_L 38 (0, ei_load 1 0 39, 0, 0)))) (e_T 42 (e_T 39 (e_L 39 (0, ei_if2 3 99 42, 0, 0)) (e_L 42 (0, ei_load 1 0 43, 0, 0))) (e_T 43 (e_L 43 (0, ei_push (0, 64) 45, 0, 0)) (e_L 45 (0, ei_if2 3 99 48, 0, 0)))))))
set_option maxRecDepth 20000 in
set_option maxHeartbeats 4000000 in
theorem te_115_0_ok : ∀ pc, e_EOq eft cls elay eI n_115 pc (te_115_0 pc) :=
  (e_Tok2
  (e_Tok2
  (e_Tok2
  (e_Tok2
  (e_Lok (ps_iconst_0 (x_dk dn_115_0_0_ok 0 rfl)))
  (e_Tok2
  (e_Lok (e_st (I := eI) (er_istore_n (i := 1) (x_dk dn_115_0_0_ok 1 rfl) (by decide +kernel)) nx_stor))
  (e_Lok (ps_iconst_0 (x_dk dn_115_0_0_ok 2 rfl)))))
  (e_Tok2
  (e_Tok2
  (e_Lok (e_st (I := eI) (er_istore_n (i := 2) (x_dk dn_115_0_0_ok 3 rfl) (by decide +kernel)) nx_stor))
  (e_Lok (ld_iload_n_2 (x_dk dn_115_0_0_ok 4 rfl))))
  (e_Tok2
  (e_Lok (ps_bipush_64 (x_dk dn_115_0_0_ok 5 rfl)))
  (e_Lok (e_st (I := eI) (er_icmpge (off := 28) (tg := 35) (x_dk dn_115_0_0_ok 6 rfl) (by decide)) nx_if2)))))
  (e_Tok2
  (e_Tok2
  (e_Lok (ld_aload_n_0 (x_dk dn_115_0_0_ok 7 rfl)))
  (e_Tok2
  (e_Lok (lk_7_24g ho_115 (x_dk dn_115_0_0_ok 8 rfl)))
  (e_Lok (ld_iload_n_2 (x_dk dn_115_0_0_ok 9 rfl)))))
  (e_Tok2
  (e_Tok2
  (e_Lok (sm_iaload (x_dk dn_115_0_0_ok 10 rfl)))
  (e_Lok (e_st (I := eI) (er_ifge (off := 13) (tg := 29) (x_dk dn_115_0_0_ok 11 rfl) (by decide)) nx_if1)))
  (e_Tok2
  (e_Lok (ld_aload_n_0 (x_dk dn_115_0_0_ok 12 rfl)))
  (e_Lok (lk_7_34g ho_115 (x_dk dn_115_0_0_ok 13 rfl)))))))
  (e_Tok2
  (e_Tok2
  (e_Tok2
  (e_Lok (ld_iload_n_1 (x_dk dn_115_0_0_ok 14 rfl)))
  (e_Tok2
  (e_Lok (ld_iload_n_2 (x_dk dn_115_0_0_ok 15 rfl)))
  (e_Lok (sm_iastore (x_dk dn_115_0_0_ok 16 rfl)))))
  (e_Tok2
  (e_Tok2
  (e_Lok (e_st (I := eI) (er_iinc (i := 1) (n := 1) (x_dk dn_115_0_0_ok 17 rfl) (by decide +kernel) (by decide)) nx_inc))
  (e_Lok (e_st (I := eI) (er_iinc (i := 2) (n := 1) (x_dk dn_115_0_0_ok 18 rfl) (by decide +kernel) (by decide)) nx_inc)))
  (e_Tok2
  (e_Lok (e_st (I := eI) (er_goto (off := (-28)) (tg := 4) (x_dk dn_115_0_0_ok 19 rfl) (by decide)) nx_goto))
  (e_Lok (ps_iconst_0 (x_dk dn_115_0_0_ok 20 rfl))))))
  (e_Tok2
  (e_Tok2
  (e_Lok (e_st (I := eI) (er_istore_n (i := 2) (x_dk dn_115_0_0_ok 21 rfl) (by decide +kernel)) nx_stor))
  (e_Tok2
  (e_Lok (ld_iload_n_2 (x_dk dn_115_0_0_ok 22 rfl)))
  (e_Lok (ld_iload_n_1 (x_dk dn_115_0_0_ok 23 rfl)))))
  (e_Tok2
  (e_Tok2
  (e_Lok (e_st (I := eI) (er_icmpge (off := 60) (tg := 99) (x_dk dn_115_0_0_ok 24 rfl) (by decide)) nx_if2))
  (e_Lok (ld_iload_n_1 (x_dk dn_115_0_1_ok 0 rfl))))
  (e_Tok2
  (e_Lok (ps_bipush_64 (x_dk dn_115_0_1_ok 1 rfl)))
  (e_Lok (e_st (I := eI) (er_icmpge (off := 54) (tg := 99) (x_dk dn_115_0_1_ok 2 rfl) (by decide)) nx_if2)))))))
def te_115_28 : Nat → eE := (e_T 68 (e_T 57 (e_T 50 (e_T 48 (e_L 48 (0, ei_push (0, 0) 49, 0, 0)) (e_T 49 (e_L 49 (0, ei_stor 3 0 50, 0, 0)) (e_L 50 (0, ei_load 3 0 51, 0, 0)))) (e_T 53 (e_T 51 (e_L 51 (0, ei_push (0, 64) 53, 0, 0)) (e_L 53 (0, ei_if2 3 93 56, 0, 0))) (e_T 56 (e_L 56 (0, ei_load 0 2 57, 0, 0)) (e_L 57 (0, ei_getf eft elay 7 4 60, 0, 0))))) (e_T 62 (e_T 60 (e_L 60 (0, ei_load 3 0 61, 0, 0)) (e_T 61 (e_L 61 (0, ei_ald elay false 62, 0, 0)) (e_L 62 (0, ei_load 0 2 63, 0, 0)))) (e_T 66 (e_T 63 (e_L 63 (0, ei_getf eft elay 7 7 66, 0, 0)) (e_L 66 (0, ei_load 2 0 67, 0, 0))) (e_T 67 (e_L 67 (0, ei_ald elay false 68, 0, 0)) (e_L 68 (0, ei_if2 1 87 71, 0, 0)))))) (e_T 82 (e_T 74 (e_T 71 (e_L 71 (0, ei_load 1 0 72, 0, 0)) (e_T 72 (e_L 72 (0, ei_push (0, 64) 74, 0, 0)) (e_L 74 (0, ei_if2 3 87 77, 0, 0)))) (e_T 78 (e_T 77 (e_L 77 (0, ei_load 0 2 78, 0, 0)) (e_L 78 (0, ei_getf eft elay 7 7 81, 0, 0))) (e_T 81 (e_L 81 (0, ei_load 1 0 82, 0, 0)) (e_L 82 (0, ei_load 3 0 83, 0, 0))))) (e_T 87 (e_T 83 (e_L 83 (0, ei_ast elay false 84, 0, 0)) (e_T 84 (e_L 84 (0, ei_inc 1 1 87, 0, 0)) (e_L 87 (0, ei_inc 3 1 90, 0, 0)))) (e_T 93 (e_T 90 (e_L 90 (0, ei_goto 50, 0, 0)) (e_L 93 (0, ei_inc 2 1 96, 0, 0))) (e_T 96 (e_L 96 (0, ei_goto 37, 0, 0)) (e_L 99 (1, e_nof, 0, 0)))))))
set_option maxRecDepth 20000 in
set_option maxHeartbeats 4000000 in
theorem te_115_28_ok : ∀ pc, e_EOq eft cls elay eI n_115 pc (te_115_28 pc) :=
  (e_Tok2
  (e_Tok2
  (e_Tok2
  (e_Tok2
  (e_Lok (ps_iconst_0 (x_dk dn_115_0_1_ok 3 rfl)))
  (e_Tok2
  (e_Lok (e_st (I := eI) (er_istore_n (i := 3) (x_dk dn_115_0_1_ok 4 rfl) (by decide +kernel)) nx_stor))
  (e_Lok (ld_iload_n_3 (x_dk dn_115_0_1_ok 5 rfl)))))
  (e_Tok2
  (e_Tok2
  (e_Lok (ps_bipush_64 (x_dk dn_115_0_1_ok 6 rfl)))
  (e_Lok (e_st (I := eI) (er_icmpge (off := 40) (tg := 93) (x_dk dn_115_0_1_ok 7 rfl) (by decide)) nx_if2)))
  (e_Tok2
  (e_Lok (ld_aload_n_0 (x_dk dn_115_0_1_ok 8 rfl)))
  (e_Lok (lk_7_24g ho_115 (x_dk dn_115_0_1_ok 9 rfl))))))
  (e_Tok2
  (e_Tok2
  (e_Lok (ld_iload_n_3 (x_dk dn_115_0_1_ok 10 rfl)))
  (e_Tok2
  (e_Lok (sm_iaload (x_dk dn_115_0_1_ok 11 rfl)))
  (e_Lok (ld_aload_n_0 (x_dk dn_115_0_1_ok 12 rfl)))))
  (e_Tok2
  (e_Tok2
  (e_Lok (lk_7_34g ho_115 (x_dk dn_115_0_1_ok 13 rfl)))
  (e_Lok (ld_iload_n_2 (x_dk dn_115_0_1_ok 14 rfl))))
  (e_Tok2
  (e_Lok (sm_iaload (x_dk dn_115_0_1_ok 15 rfl)))
  (e_Lok (e_st (I := eI) (er_icmpne (off := 19) (tg := 87) (x_dk dn_115_0_1_ok 16 rfl) (by decide)) nx_if2))))))
  (e_Tok2
  (e_Tok2
  (e_Tok2
  (e_Lok (ld_iload_n_1 (x_dk dn_115_0_1_ok 17 rfl)))
  (e_Tok2
  (e_Lok (ps_bipush_64 (x_dk dn_115_0_1_ok 18 rfl)))
  (e_Lok (e_st (I := eI) (er_icmpge (off := 13) (tg := 87) (x_dk dn_115_0_1_ok 19 rfl) (by decide)) nx_if2))))
  (e_Tok2
  (e_Tok2
  (e_Lok (ld_aload_n_0 (x_dk dn_115_0_1_ok 20 rfl)))
  (e_Lok (lk_7_34g ho_115 (x_dk dn_115_0_1_ok 21 rfl))))
  (e_Tok2
  (e_Lok (ld_iload_n_1 (x_dk dn_115_0_1_ok 22 rfl)))
  (e_Lok (ld_iload_n_3 (x_dk dn_115_0_1_ok 23 rfl))))))
  (e_Tok2
  (e_Tok2
  (e_Lok (sm_iastore (x_dk dn_115_0_1_ok 24 rfl)))
  (e_Tok2
  (e_Lok (e_st (I := eI) (er_iinc (i := 1) (n := 1) (x_dk dn_115_0_2_ok 0 rfl) (by decide +kernel) (by decide)) nx_inc))
  (e_Lok (e_st (I := eI) (er_iinc (i := 3) (n := 1) (x_dk dn_115_0_2_ok 1 rfl) (by decide +kernel) (by decide)) nx_inc))))
  (e_Tok2
  (e_Tok2
  (e_Lok (e_st (I := eI) (er_goto (off := (-40)) (tg := 50) (x_dk dn_115_0_2_ok 2 rfl) (by decide)) nx_goto))
  (e_Lok (e_st (I := eI) (er_iinc (i := 2) (n := 1) (x_dk dn_115_0_2_ok 3 rfl) (by decide +kernel) (by decide)) nx_inc)))
  (e_Tok2
  (e_Lok (e_st (I := eI) (er_goto (off := (-59)) (tg := 37) (x_dk dn_115_0_2_ok 4 rfl) (by decide)) nx_goto))
  (e_Lok (e_rt (I := eI) (k := 0) ⟨(x_dk dn_115_0_2_ok 5 rfl), rfl⟩)))))))
def te_115 : Nat → eE := (e_T 45 te_115_0 te_115_28)
theorem te_115_ok : ∀ pc, e_EOq eft cls elay eI n_115 pc (te_115 pc) := (e_Tok2 (te_115_0_ok) (te_115_28_ok))
theorem ho_116 : (xm_y n_116).cls = "RobotCellHouse$Points" := rfl
def dn_116_0_0 : List (Nat × Instr × Nat) := [(0, .iconst 0, 1), (1, .istore_n 1, 1), (2, .iload_n 1, 1), (3, .bipush 64, 2), (5, .if_icmp .ge 52, 3), (8, .aload_n 0, 1), (9, .getfield 34, 3), (12, .iload_n 1, 1), (13, .iaload, 1), (14, .istore_n 2, 1), (15, .aload_n 0, 1), (16, .iload_n 2, 1), (17, .invokevirtual 52, 3), (20, .istore_n 3, 1), (21, .aload_n 0, 1), (22, .getfield 15, 3), (25, .iload_n 2, 1), (26, .iaload, 1), (27, .ifCond .ne 17, 3), (30, .iload_n 3, 1), (31, .ifCond .eq 13, 3), (34, .aload_n 0, 1), (35, .getfield 18, 3), (38, .iload_n 2, 1), (39, .dup2, 1)]
set_option maxRecDepth 20000 in
theorem dn_116_0_0_ok : dn_116_0_0.all (fun q => decide (decode (xm_b n_116) q.1 = .ok (q.2.1, q.2.2))) = true := xa_g_ok (by decide +kernel)
def dn_116_0_1 : List (Nat × Instr × Nat) := [(40, .iaload, 1), (41, .iconst 1, 1), (42, .iadd, 1), (43, .iastore, 1), (44, .aload_n 0, 1), (45, .getfield 15, 3), (48, .iload_n 2, 1), (49, .iload_n 3, 1), (50, .iastore, 1), (51, .iinc 1 1, 3), (54, .goto (-52), 3), (57, .return_, 1)]
set_option maxRecDepth 20000 in
theorem dn_116_0_1_ok : dn_116_0_1.all (fun q => decide (decode (xm_b n_116) q.1 = .ok (q.2.1, q.2.2))) = true := xa_g_ok (by decide +kernel)
def te_116_0 : Nat → eE := (e_T 26 (e_T 13 (e_T 3 (e_T 1 (e_T 0 (e_L 0 (0, ei_push (0, 0) 1, 0, 0)) (e_L 1 (0, ei_stor 1 0 2, 0, 0))) (e_T 2 (e_L 2 (0, ei_load 1 0 3, 0, 0)) (e_L 3 (0, ei_push (0, 64) 5, 0, 0)))) (e_T 8 (e_T 5 (e_L 5 (0, ei_if2 3 57 8, 0, 0)) (e_L 8 (0, ei_load 0 2 9, 0, 0))) (e_T 9 (e_L 9 (0, ei_getf eft elay 7 7 12, 0, 0)) (e_T 12 (e_L 12 (0, ei_load 1 0 13, 0, 0)) (e_L 13 (0, ei_ald elay false 14, 0, 0)))))) (e_T 17 (e_T 15 (e_T 14 (e_L 14 (0, ei_stor 2 0 15, 0, 0)) (e_L 15 (0, ei_load 0 2 16, 0, 0))) (e_T 16 (e_L 16 (0, ei_load 2 0 17, 0, 0)) (e_L 17 (2, e_nof, 117, 2)))) (e_T 21 (e_T 20 (e_L 20 (0, ei_stor 3 0 21, 0, 0)) (e_L 21 (0, ei_load 0 2 22, 0, 0))) (e_T 22 (e_L 22 (0, ei_getf eft elay 7 1 25, 0, 0)) (e_T 25 (e_L 25 (0, ei_load 2 0 26, 0, 0)) (e_L 26 (0, ei_ald elay false 27, 0, 0))))))) (e_T 41 (e_T 34 (e_T 30 (e_T 27 (e_L 27 (0, ei_if1 1 44 30, 0, 0)) (e_L 30 (0, ei_load 3 0 31, 0, 0))) (e_T 31 (e_L 31 (0, ei_if1 0 44 34, 0, 0)) (e_L 34 (0, ei_load 0 2 35, 0, 0)))) (e_T 38 (e_T 35 (e_L 35 (0, ei_getf eft elay 7 2 38, 0, 0)) (e_L 38 (0, ei_load 2 0 39, 0, 0))) (e_T 39 (e_L 39 (0, ei_stk ef_dup2 40, 0, 0)) (e_T 40 (e_L 40 (0, ei_ald elay false 41, 0, 0)) (e_L 41 (0, ei_push (0, 1) 42, 0, 0)))))) (e_T 48 (e_T 43 (e_T 42 (e_L 42 (0, ei_bin eF_add 43, 0, 0)) (e_L 43 (0, ei_ast elay false 44, 0, 0))) (e_T 44 (e_L 44 (0, ei_load 0 2 45, 0, 0)) (e_T 45 (e_L 45 (0, ei_getf eft elay 7 1 48, 0, 0)) (e_L 48 (0, ei_load 2 0 49, 0, 0))))) (e_T 50 (e_T 49 (e_L 49 (0, ei_load 3 0 50, 0, 0)) (e_L 50 (0, ei_ast elay false 51, 0, 0))) (e_T 51 (e_L 51 (0, ei_inc 1 1 54, 0, 0)) (e_T 54 (e_L 54 (0, ei_goto 2, 0, 0)) (e_L 57 (1, e_nof, 0, 0))))))))
set_option maxRecDepth 20000 in
set_option maxHeartbeats 4000000 in
theorem te_116_0_ok : ∀ pc, e_EOq eft cls elay eI n_116 pc (te_116_0 pc) :=
  (e_Tok2
  (e_Tok2
  (e_Tok2
  (e_Tok2
  (e_Tok2
  (e_Lok (ps_iconst_0 (x_dk dn_116_0_0_ok 0 rfl)))
  (e_Lok (e_st (I := eI) (er_istore_n (i := 1) (x_dk dn_116_0_0_ok 1 rfl) (by decide +kernel)) nx_stor)))
  (e_Tok2
  (e_Lok (ld_iload_n_1 (x_dk dn_116_0_0_ok 2 rfl)))
  (e_Lok (ps_bipush_64 (x_dk dn_116_0_0_ok 3 rfl)))))
  (e_Tok2
  (e_Tok2
  (e_Lok (e_st (I := eI) (er_icmpge (off := 52) (tg := 57) (x_dk dn_116_0_0_ok 4 rfl) (by decide)) nx_if2))
  (e_Lok (ld_aload_n_0 (x_dk dn_116_0_0_ok 5 rfl))))
  (e_Tok2
  (e_Lok (lk_7_34g ho_116 (x_dk dn_116_0_0_ok 6 rfl)))
  (e_Tok2
  (e_Lok (ld_iload_n_1 (x_dk dn_116_0_0_ok 7 rfl)))
  (e_Lok (sm_iaload (x_dk dn_116_0_0_ok 8 rfl)))))))
  (e_Tok2
  (e_Tok2
  (e_Tok2
  (e_Lok (e_st (I := eI) (er_istore_n (i := 2) (x_dk dn_116_0_0_ok 9 rfl) (by decide +kernel)) nx_stor))
  (e_Lok (ld_aload_n_0 (x_dk dn_116_0_0_ok 10 rfl))))
  (e_Tok2
  (e_Lok (ld_iload_n_2 (x_dk dn_116_0_0_ok 11 rfl)))
  (e_Lok (lk_7_52 ho_116 (x_dk dn_116_0_0_ok 12 rfl)))))
  (e_Tok2
  (e_Tok2
  (e_Lok (e_st (I := eI) (er_istore_n (i := 3) (x_dk dn_116_0_0_ok 13 rfl) (by decide +kernel)) nx_stor))
  (e_Lok (ld_aload_n_0 (x_dk dn_116_0_0_ok 14 rfl))))
  (e_Tok2
  (e_Lok (lk_7_15g ho_116 (x_dk dn_116_0_0_ok 15 rfl)))
  (e_Tok2
  (e_Lok (ld_iload_n_2 (x_dk dn_116_0_0_ok 16 rfl)))
  (e_Lok (sm_iaload (x_dk dn_116_0_0_ok 17 rfl))))))))
  (e_Tok2
  (e_Tok2
  (e_Tok2
  (e_Tok2
  (e_Lok (e_st (I := eI) (er_ifne (off := 17) (tg := 44) (x_dk dn_116_0_0_ok 18 rfl) (by decide)) nx_if1))
  (e_Lok (ld_iload_n_3 (x_dk dn_116_0_0_ok 19 rfl))))
  (e_Tok2
  (e_Lok (e_st (I := eI) (er_ifeq (off := 13) (tg := 44) (x_dk dn_116_0_0_ok 20 rfl) (by decide)) nx_if1))
  (e_Lok (ld_aload_n_0 (x_dk dn_116_0_0_ok 21 rfl)))))
  (e_Tok2
  (e_Tok2
  (e_Lok (lk_7_18g ho_116 (x_dk dn_116_0_0_ok 22 rfl)))
  (e_Lok (ld_iload_n_2 (x_dk dn_116_0_0_ok 23 rfl))))
  (e_Tok2
  (e_Lok (e_st (I := eI) (er_dup2 (x_dk dn_116_0_0_ok 24 rfl)) (nx_stk bf_dup2)))
  (e_Tok2
  (e_Lok (sm_iaload (x_dk dn_116_0_1_ok 0 rfl)))
  (e_Lok (ps_iconst_1 (x_dk dn_116_0_1_ok 1 rfl)))))))
  (e_Tok2
  (e_Tok2
  (e_Tok2
  (e_Lok (sm_iadd (x_dk dn_116_0_1_ok 2 rfl)))
  (e_Lok (sm_iastore (x_dk dn_116_0_1_ok 3 rfl))))
  (e_Tok2
  (e_Lok (ld_aload_n_0 (x_dk dn_116_0_1_ok 4 rfl)))
  (e_Tok2
  (e_Lok (lk_7_15g ho_116 (x_dk dn_116_0_1_ok 5 rfl)))
  (e_Lok (ld_iload_n_2 (x_dk dn_116_0_1_ok 6 rfl))))))
  (e_Tok2
  (e_Tok2
  (e_Lok (ld_iload_n_3 (x_dk dn_116_0_1_ok 7 rfl)))
  (e_Lok (sm_iastore (x_dk dn_116_0_1_ok 8 rfl))))
  (e_Tok2
  (e_Lok (e_st (I := eI) (er_iinc (i := 1) (n := 1) (x_dk dn_116_0_1_ok 9 rfl) (by decide +kernel) (by decide)) nx_inc))
  (e_Tok2
  (e_Lok (e_st (I := eI) (er_goto (off := (-52)) (tg := 2) (x_dk dn_116_0_1_ok 10 rfl) (by decide)) nx_goto))
  (e_Lok (e_rt (I := eI) (k := 0) ⟨(x_dk dn_116_0_1_ok 11 rfl), rfl⟩))))))))
def te_116 : Nat → eE := te_116_0
theorem te_116_ok : ∀ pc, e_EOq eft cls elay eI n_116 pc (te_116 pc) := te_116_0_ok
theorem ho_117 : (xm_y n_117).cls = "RobotCellHouse$Points" := rfl
def dn_117_0_0 : List (Nat × Instr × Nat) := [(0, .aload_n 0, 1), (1, .getfield 27, 3), (4, .iload_n 1, 1), (5, .baload, 1), (6, .ifCond .eq 10, 3), (9, .aload_n 0, 1), (10, .getfield 21, 3), (13, .iload_n 1, 1), (14, .iaload, 1), (15, .ireturn, 1), (16, .aload_n 0, 1), (17, .getfield 24, 3), (20, .iload_n 1, 1), (21, .iaload, 1), (22, .ifCond .ge 10, 3), (25, .aload_n 0, 1), (26, .getfield 9, 3), (29, .iload_n 1, 1), (30, .iaload, 1), (31, .ireturn, 1), (32, .aload_n 0, 1), (33, .getfield 15, 3), (36, .aload_n 0, 1), (37, .getfield 24, 3), (40, .iload_n 1, 1)]
set_option maxRecDepth 20000 in
theorem dn_117_0_0_ok : dn_117_0_0.all (fun q => decide (decode (xm_b n_117) q.1 = .ok (q.2.1, q.2.2))) = true := xa_g_ok (by decide +kernel)
def dn_117_0_1 : List (Nat × Instr × Nat) := [(41, .iaload, 1), (42, .iaload, 1), (43, .istore_n 2, 1), (44, .aload_n 0, 1), (45, .getfield 31, 3), (48, .iload_n 1, 1), (49, .baload, 1), (50, .ifCond .ne 5, 3), (53, .iload_n 2, 1), (54, .ireturn, 1), (55, .iload_n 2, 1), (56, .ifCond .ne 7, 3), (59, .iconst 1, 1), (60, .goto 4, 3), (63, .iconst 0, 1), (64, .ireturn, 1)]
set_option maxRecDepth 20000 in
theorem dn_117_0_1_ok : dn_117_0_1.all (fun q => decide (decode (xm_b n_117) q.1 = .ok (q.2.1, q.2.2))) = true := xa_g_ok (by decide +kernel)
def te_117_0 : Nat → eE := (e_T 15 (e_T 6 (e_T 1 (e_T 0 (e_L 0 (0, ei_load 0 2 1, 0, 0)) (e_L 1 (0, ei_getf eft elay 7 5 4, 0, 0))) (e_T 4 (e_L 4 (0, ei_load 1 0 5, 0, 0)) (e_T 5 (e_L 5 (0, ei_ald elay true 6, 0, 0)) (e_L 6 (0, ei_if1 0 16 9, 0, 0))))) (e_T 10 (e_T 9 (e_L 9 (0, ei_load 0 2 10, 0, 0)) (e_L 10 (0, ei_getf eft elay 7 3 13, 0, 0))) (e_T 13 (e_L 13 (0, ei_load 1 0 14, 0, 0)) (e_T 14 (e_L 14 (0, ei_ald elay false 15, 0, 0)) (e_L 15 (1, e_nof, 1, 0)))))) (e_T 22 (e_T 17 (e_T 16 (e_L 16 (0, ei_load 0 2 17, 0, 0)) (e_L 17 (0, ei_getf eft elay 7 4 20, 0, 0))) (e_T 20 (e_L 20 (0, ei_load 1 0 21, 0, 0)) (e_T 21 (e_L 21 (0, ei_ald elay false 22, 0, 0)) (e_L 22 (0, ei_if1 3 32 25, 0, 0))))) (e_T 26 (e_T 25 (e_L 25 (0, ei_load 0 2 26, 0, 0)) (e_L 26 (0, ei_getf eft elay 7 0 29, 0, 0))) (e_T 29 (e_L 29 (0, ei_load 1 0 30, 0, 0)) (e_T 30 (e_L 30 (0, ei_ald elay false 31, 0, 0)) (e_L 31 (1, e_nof, 1, 0)))))))
set_option maxRecDepth 20000 in
set_option maxHeartbeats 4000000 in
theorem te_117_0_ok : ∀ pc, e_EOq eft cls elay eI n_117 pc (te_117_0 pc) :=
  (e_Tok2
  (e_Tok2
  (e_Tok2
  (e_Tok2
  (e_Lok (ld_aload_n_0 (x_dk dn_117_0_0_ok 0 rfl)))
  (e_Lok (lk_7_27g ho_117 (x_dk dn_117_0_0_ok 1 rfl))))
  (e_Tok2
  (e_Lok (ld_iload_n_1 (x_dk dn_117_0_0_ok 2 rfl)))
  (e_Tok2
  (e_Lok (e_st (I := eI) (er_baload (x_dk dn_117_0_0_ok 3 rfl)) nx_ald))
  (e_Lok (e_st (I := eI) (er_ifeq (off := 10) (tg := 16) (x_dk dn_117_0_0_ok 4 rfl) (by decide)) nx_if1)))))
  (e_Tok2
  (e_Tok2
  (e_Lok (ld_aload_n_0 (x_dk dn_117_0_0_ok 5 rfl)))
  (e_Lok (lk_7_21g ho_117 (x_dk dn_117_0_0_ok 6 rfl))))
  (e_Tok2
  (e_Lok (ld_iload_n_1 (x_dk dn_117_0_0_ok 7 rfl)))
  (e_Tok2
  (e_Lok (sm_iaload (x_dk dn_117_0_0_ok 8 rfl)))
  (e_Lok (e_rt (I := eI) (k := 1) ⟨(x_dk dn_117_0_0_ok 9 rfl), rfl⟩))))))
  (e_Tok2
  (e_Tok2
  (e_Tok2
  (e_Lok (ld_aload_n_0 (x_dk dn_117_0_0_ok 10 rfl)))
  (e_Lok (lk_7_24g ho_117 (x_dk dn_117_0_0_ok 11 rfl))))
  (e_Tok2
  (e_Lok (ld_iload_n_1 (x_dk dn_117_0_0_ok 12 rfl)))
  (e_Tok2
  (e_Lok (sm_iaload (x_dk dn_117_0_0_ok 13 rfl)))
  (e_Lok (e_st (I := eI) (er_ifge (off := 10) (tg := 32) (x_dk dn_117_0_0_ok 14 rfl) (by decide)) nx_if1)))))
  (e_Tok2
  (e_Tok2
  (e_Lok (ld_aload_n_0 (x_dk dn_117_0_0_ok 15 rfl)))
  (e_Lok (lk_7_9g ho_117 (x_dk dn_117_0_0_ok 16 rfl))))
  (e_Tok2
  (e_Lok (ld_iload_n_1 (x_dk dn_117_0_0_ok 17 rfl)))
  (e_Tok2
  (e_Lok (sm_iaload (x_dk dn_117_0_0_ok 18 rfl)))
  (e_Lok (e_rt (I := eI) (k := 1) ⟨(x_dk dn_117_0_0_ok 19 rfl), rfl⟩)))))))
def te_117_20 : Nat → eE := (e_T 45 (e_T 40 (e_T 33 (e_T 32 (e_L 32 (0, ei_load 0 2 33, 0, 0)) (e_L 33 (0, ei_getf eft elay 7 1 36, 0, 0))) (e_T 36 (e_L 36 (0, ei_load 0 2 37, 0, 0)) (e_T 37 (e_L 37 (0, ei_getf eft elay 7 4 40, 0, 0)) (e_L 40 (0, ei_load 1 0 41, 0, 0))))) (e_T 42 (e_T 41 (e_L 41 (0, ei_ald elay false 42, 0, 0)) (e_L 42 (0, ei_ald elay false 43, 0, 0))) (e_T 43 (e_L 43 (0, ei_stor 2 0 44, 0, 0)) (e_T 44 (e_L 44 (0, ei_load 0 2 45, 0, 0)) (e_L 45 (0, ei_getf eft elay 7 6 48, 0, 0)))))) (e_T 54 (e_T 49 (e_T 48 (e_L 48 (0, ei_load 1 0 49, 0, 0)) (e_L 49 (0, ei_ald elay true 50, 0, 0))) (e_T 50 (e_L 50 (0, ei_if1 1 55 53, 0, 0)) (e_T 53 (e_L 53 (0, ei_load 2 0 54, 0, 0)) (e_L 54 (1, e_nof, 1, 0))))) (e_T 59 (e_T 55 (e_L 55 (0, ei_load 2 0 56, 0, 0)) (e_T 56 (e_L 56 (0, ei_if1 1 63 59, 0, 0)) (e_L 59 (0, ei_push (0, 1) 60, 0, 0)))) (e_T 60 (e_L 60 (0, ei_goto 64, 0, 0)) (e_T 63 (e_L 63 (0, ei_push (0, 0) 64, 0, 0)) (e_L 64 (1, e_nof, 1, 0)))))))
set_option maxRecDepth 20000 in
set_option maxHeartbeats 4000000 in
theorem te_117_20_ok : ∀ pc, e_EOq eft cls elay eI n_117 pc (te_117_20 pc) :=
  (e_Tok2
  (e_Tok2
  (e_Tok2
  (e_Tok2
  (e_Lok (ld_aload_n_0 (x_dk dn_117_0_0_ok 20 rfl)))
  (e_Lok (lk_7_15g ho_117 (x_dk dn_117_0_0_ok 21 rfl))))
  (e_Tok2
  (e_Lok (ld_aload_n_0 (x_dk dn_117_0_0_ok 22 rfl)))
  (e_Tok2
  (e_Lok (lk_7_24g ho_117 (x_dk dn_117_0_0_ok 23 rfl)))
  (e_Lok (ld_iload_n_1 (x_dk dn_117_0_0_ok 24 rfl))))))
  (e_Tok2
  (e_Tok2
  (e_Lok (sm_iaload (x_dk dn_117_0_1_ok 0 rfl)))
  (e_Lok (sm_iaload (x_dk dn_117_0_1_ok 1 rfl))))
  (e_Tok2
  (e_Lok (e_st (I := eI) (er_istore_n (i := 2) (x_dk dn_117_0_1_ok 2 rfl) (by decide +kernel)) nx_stor))
  (e_Tok2
  (e_Lok (ld_aload_n_0 (x_dk dn_117_0_1_ok 3 rfl)))
  (e_Lok (lk_7_31g ho_117 (x_dk dn_117_0_1_ok 4 rfl)))))))
  (e_Tok2
  (e_Tok2
  (e_Tok2
  (e_Lok (ld_iload_n_1 (x_dk dn_117_0_1_ok 5 rfl)))
  (e_Lok (e_st (I := eI) (er_baload (x_dk dn_117_0_1_ok 6 rfl)) nx_ald)))
  (e_Tok2
  (e_Lok (e_st (I := eI) (er_ifne (off := 5) (tg := 55) (x_dk dn_117_0_1_ok 7 rfl) (by decide)) nx_if1))
  (e_Tok2
  (e_Lok (ld_iload_n_2 (x_dk dn_117_0_1_ok 8 rfl)))
  (e_Lok (e_rt (I := eI) (k := 1) ⟨(x_dk dn_117_0_1_ok 9 rfl), rfl⟩)))))
  (e_Tok2
  (e_Tok2
  (e_Lok (ld_iload_n_2 (x_dk dn_117_0_1_ok 10 rfl)))
  (e_Tok2
  (e_Lok (e_st (I := eI) (er_ifne (off := 7) (tg := 63) (x_dk dn_117_0_1_ok 11 rfl) (by decide)) nx_if1))
  (e_Lok (ps_iconst_1 (x_dk dn_117_0_1_ok 12 rfl)))))
  (e_Tok2
  (e_Lok (e_st (I := eI) (er_goto (off := 4) (tg := 64) (x_dk dn_117_0_1_ok 13 rfl) (by decide)) nx_goto))
  (e_Tok2
  (e_Lok (ps_iconst_0 (x_dk dn_117_0_1_ok 14 rfl)))
  (e_Lok (e_rt (I := eI) (k := 1) ⟨(x_dk dn_117_0_1_ok 15 rfl), rfl⟩)))))))
def te_117 : Nat → eE := (e_T 31 te_117_0 te_117_20)
theorem te_117_ok : ∀ pc, e_EOq eft cls elay eI n_117 pc (te_117 pc) := (e_Tok2 (te_117_0_ok) (te_117_20_ok))
theorem ho_118 : (xm_y n_118).cls = "RobotCellHouse$Reader" := rfl
def dn_118_0_0 : List (Nat × Instr × Nat) := [(0, .bipush 24, 2), (2, .istore_n 2, 1), (3, .iload_n 2, 1), (4, .ifCond .lt 42, 3), (7, .aload_n 0, 1), (8, .getfield 36, 3), (11, .sipush 4000, 3), (14, .if_icmp .ge 32, 3), (17, .aload_n 0, 1), (18, .getfield 25, 3), (21, .aload_n 0, 1), (22, .getfield 36, 3), (25, .iload_n 1, 1), (26, .iload_n 2, 1), (27, .ishr, 1), (28, .i2b, 1), (29, .bastore, 1), (30, .aload_n 0, 1), (31, .dup, 1), (32, .getfield 36, 3), (35, .iconst 1, 1), (36, .iadd, 1), (37, .putfield 36, 3), (40, .iinc 2 (-8), 3), (43, .goto (-40), 3)]
set_option maxRecDepth 20000 in
theorem dn_118_0_0_ok : dn_118_0_0.all (fun q => decide (decode (xm_b n_118) q.1 = .ok (q.2.1, q.2.2))) = true := xa_g_ok (by decide +kernel)
def dn_118_0_1 : List (Nat × Instr × Nat) := [(46, .return_, 1)]
set_option maxRecDepth 20000 in
theorem dn_118_0_1_ok : dn_118_0_1.all (fun q => decide (decode (xm_b n_118) q.1 = .ok (q.2.1, q.2.2))) = true := xa_g_ok (by decide +kernel)
def te_118_0 : Nat → eE := (e_T 25 (e_T 8 (e_T 3 (e_T 0 (e_L 0 (0, ei_push (0, 24) 2, 0, 0)) (e_T 2 (e_L 2 (0, ei_stor 2 0 3, 0, 0)) (e_L 3 (0, ei_load 2 0 4, 0, 0)))) (e_T 4 (e_L 4 (0, ei_if1 2 46 7, 0, 0)) (e_T 7 (e_L 7 (0, ei_load 0 2 8, 0, 0)) (e_L 8 (0, ei_getf eft elay 8 0 11, 0, 0))))) (e_T 17 (e_T 11 (e_L 11 (0, ei_push (0, 4000) 14, 0, 0)) (e_T 14 (e_L 14 (0, ei_if2 3 46 17, 0, 0)) (e_L 17 (0, ei_load 0 2 18, 0, 0)))) (e_T 21 (e_T 18 (e_L 18 (0, ei_getf eft elay 8 4 21, 0, 0)) (e_L 21 (0, ei_load 0 2 22, 0, 0))) (e_T 22 (e_L 22 (0, ei_getf eft elay 8 0 25, 0, 0)) (e_L 25 (0, ei_load 1 0 26, 0, 0)))))) (e_T 31 (e_T 28 (e_T 26 (e_L 26 (0, ei_load 2 0 27, 0, 0)) (e_T 27 (e_L 27 (0, ei_bin (eB (fun x y => x >>> (y &&& 31))) 28, 0, 0)) (e_L 28 (0, ei_un (fun x => (0, x.bmod 256)) 29, 0, 0)))) (e_T 29 (e_L 29 (0, ei_ast elay true 30, 0, 0)) (e_T 30 (e_L 30 (0, ei_load 0 2 31, 0, 0)) (e_L 31 (0, ei_stk ef_dup 32, 0, 0))))) (e_T 36 (e_T 32 (e_L 32 (0, ei_getf eft elay 8 0 35, 0, 0)) (e_T 35 (e_L 35 (0, ei_push (0, 1) 36, 0, 0)) (e_L 36 (0, ei_bin eF_add 37, 0, 0)))) (e_T 40 (e_T 37 (e_L 37 (0, ei_putf eft elay 8 0 0 40, 0, 0)) (e_L 40 (0, ei_inc 2 (-8) 43, 0, 0))) (e_T 43 (e_L 43 (0, ei_goto 3, 0, 0)) (e_L 46 (1, e_nof, 0, 0)))))))
set_option maxRecDepth 20000 in
set_option maxHeartbeats 4000000 in
theorem te_118_0_ok : ∀ pc, e_EOq eft cls elay eI n_118 pc (te_118_0 pc) :=
  (e_Tok2
  (e_Tok2
  (e_Tok2
  (e_Tok2
  (e_Lok (ps_bipush_24 (x_dk dn_118_0_0_ok 0 rfl)))
  (e_Tok2
  (e_Lok (e_st (I := eI) (er_istore_n (i := 2) (x_dk dn_118_0_0_ok 1 rfl) (by decide +kernel)) nx_stor))
  (e_Lok (ld_iload_n_2 (x_dk dn_118_0_0_ok 2 rfl)))))
  (e_Tok2
  (e_Lok (e_st (I := eI) (er_iflt (off := 42) (tg := 46) (x_dk dn_118_0_0_ok 3 rfl) (by decide)) nx_if1))
  (e_Tok2
  (e_Lok (ld_aload_n_0 (x_dk dn_118_0_0_ok 4 rfl)))
  (e_Lok (lk_8_36g ho_118 (x_dk dn_118_0_0_ok 5 rfl))))))
  (e_Tok2
  (e_Tok2
  (e_Lok (ps_sipush_4000 (x_dk dn_118_0_0_ok 6 rfl)))
  (e_Tok2
  (e_Lok (e_st (I := eI) (er_icmpge (off := 32) (tg := 46) (x_dk dn_118_0_0_ok 7 rfl) (by decide)) nx_if2))
  (e_Lok (ld_aload_n_0 (x_dk dn_118_0_0_ok 8 rfl)))))
  (e_Tok2
  (e_Tok2
  (e_Lok (lk_8_25g ho_118 (x_dk dn_118_0_0_ok 9 rfl)))
  (e_Lok (ld_aload_n_0 (x_dk dn_118_0_0_ok 10 rfl))))
  (e_Tok2
  (e_Lok (lk_8_36g ho_118 (x_dk dn_118_0_0_ok 11 rfl)))
  (e_Lok (ld_iload_n_1 (x_dk dn_118_0_0_ok 12 rfl)))))))
  (e_Tok2
  (e_Tok2
  (e_Tok2
  (e_Lok (ld_iload_n_2 (x_dk dn_118_0_0_ok 13 rfl)))
  (e_Tok2
  (e_Lok (e_st (I := eI) (er_ishr (x_dk dn_118_0_0_ok 14 rfl)) nx_bin))
  (e_Lok (e_st (I := eI) (er_i2b (x_dk dn_118_0_0_ok 15 rfl)) (nx_un (fun _ => rfl))))))
  (e_Tok2
  (e_Lok (e_st (I := eI) (er_bastore (x_dk dn_118_0_0_ok 16 rfl)) nx_ast))
  (e_Tok2
  (e_Lok (ld_aload_n_0 (x_dk dn_118_0_0_ok 17 rfl)))
  (e_Lok (e_st (I := eI) (er_dup (x_dk dn_118_0_0_ok 18 rfl)) (nx_stk bf_dup))))))
  (e_Tok2
  (e_Tok2
  (e_Lok (lk_8_36g ho_118 (x_dk dn_118_0_0_ok 19 rfl)))
  (e_Tok2
  (e_Lok (ps_iconst_1 (x_dk dn_118_0_0_ok 20 rfl)))
  (e_Lok (sm_iadd (x_dk dn_118_0_0_ok 21 rfl)))))
  (e_Tok2
  (e_Tok2
  (e_Lok (lk_8_36p ho_118 (x_dk dn_118_0_0_ok 22 rfl)))
  (e_Lok (e_st (I := eI) (er_iinc (i := 2) (n := (-8)) (x_dk dn_118_0_0_ok 23 rfl) (by decide +kernel) (by decide)) nx_inc)))
  (e_Tok2
  (e_Lok (e_st (I := eI) (er_goto (off := (-40)) (tg := 3) (x_dk dn_118_0_0_ok 24 rfl) (by decide)) nx_goto))
  (e_Lok (e_rt (I := eI) (k := 0) ⟨(x_dk dn_118_0_1_ok 0 rfl), rfl⟩)))))))
def te_118 : Nat → eE := te_118_0
theorem te_118_ok : ∀ pc, e_EOq eft cls elay eI n_118 pc (te_118 pc) := te_118_0_ok
end
end
