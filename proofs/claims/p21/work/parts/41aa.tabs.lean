noncomputable section
theorem ho_1 : (xm_y n_1).cls = "RobotCellHouse$Arm" := rfl
def dn_1_0_0 : List (Nat × Instr × Nat) := [(0, .aload_n 0, 1), (1, .iconst 0, 1), (2, .putfield 44, 3), (5, .aload_n 0, 1), (6, .getfield 17, 3), (9, .iconst 0, 1), (10, .iload_n 1, 1), (11, .iastore, 1), (12, .aload_n 0, 1), (13, .getfield 21, 3), (16, .iconst 0, 1), (17, .iload_n 2, 1), (18, .iastore, 1), (19, .aload_n 0, 1), (20, .iload_n 3, 1), (21, .putfield 48, 3), (24, .aload_n 0, 1), (25, .iload 4, 2), (27, .putfield 51, 3), (30, .aload_n 0, 1), (31, .getfield 30, 3), (34, .iconst 0, 1), (35, .invokestatic 54, 3), (38, .aload_n 0, 1), (39, .getfield 39, 3)]
set_option maxRecDepth 20000 in
theorem dn_1_0_0_ok : dn_1_0_0.all (fun q => decide (decode (xm_b n_1) q.1 = .ok (q.2.1, q.2.2))) = true := xa_g_ok (by decide +kernel)
def dn_1_0_1 : List (Nat × Instr × Nat) := [(42, .invokevirtual 60, 3), (45, .aload_n 0, 1), (46, .invokevirtual 63, 3), (49, .return_, 1)]
set_option maxRecDepth 20000 in
theorem dn_1_0_1_ok : dn_1_0_1.all (fun q => decide (decode (xm_b n_1) q.1 = .ok (q.2.1, q.2.2))) = true := xa_g_ok (by decide +kernel)
def te_1_0 : Nat → eE := (e_T 19 (e_T 10 (e_T 2 (e_T 0 (e_L 0 (0, ei_load 0 2 1, 0, 0)) (e_T 1 (e_L 1 (0, ei_push (0, 0) 2, 0, 0)) (e_L 2 (0, ei_putf eft elay 0 8 0 5, 0, 0)))) (e_T 6 (e_T 5 (e_L 5 (0, ei_load 0 2 6, 0, 0)) (e_L 6 (0, ei_getf eft elay 0 1 9, 0, 0))) (e_T 9 (e_L 9 (0, ei_push (0, 0) 10, 0, 0)) (e_L 10 (0, ei_load 1 0 11, 0, 0))))) (e_T 13 (e_T 11 (e_L 11 (0, ei_ast elay false 12, 0, 0)) (e_T 12 (e_L 12 (0, ei_load 0 2 13, 0, 0)) (e_L 13 (0, ei_getf eft elay 0 2 16, 0, 0)))) (e_T 17 (e_T 16 (e_L 16 (0, ei_push (0, 0) 17, 0, 0)) (e_L 17 (0, ei_load 2 0 18, 0, 0))) (e_T 18 (e_L 18 (0, ei_ast elay false 19, 0, 0)) (e_L 19 (0, ei_load 0 2 20, 0, 0)))))) (e_T 31 (e_T 24 (e_T 20 (e_L 20 (0, ei_load 3 0 21, 0, 0)) (e_T 21 (e_L 21 (0, ei_putf eft elay 0 9 0 24, 0, 0)) (e_L 24 (0, ei_load 0 2 25, 0, 0)))) (e_T 27 (e_T 25 (e_L 25 (0, ei_load 4 0 27, 0, 0)) (e_L 27 (0, ei_putf eft elay 0 10 0 30, 0, 0))) (e_T 30 (e_L 30 (0, ei_load 0 2 31, 0, 0)) (e_L 31 (0, ei_getf eft elay 0 5 34, 0, 0))))) (e_T 39 (e_T 35 (e_T 34 (e_L 34 (0, ei_push (0, 0) 35, 0, 0)) (e_L 35 (2, e_nof, 452, 2))) (e_T 38 (e_L 38 (0, ei_load 0 2 39, 0, 0)) (e_L 39 (0, ei_getf eft elay 0 7 42, 0, 0)))) (e_T 45 (e_T 42 (e_L 42 (2, e_nof, 20, 1)) (e_L 45 (0, ei_load 0 2 46, 0, 0))) (e_T 46 (e_L 46 (2, e_nof, 3, 1)) (e_L 49 (1, e_nof, 0, 0)))))))
set_option maxRecDepth 20000 in
set_option maxHeartbeats 4000000 in
theorem te_1_0_ok : ∀ pc, e_EOq eft cls elay eI n_1 pc (te_1_0 pc) :=
  (e_Tok2
  (e_Tok2
  (e_Tok2
  (e_Tok2
  (e_Lok (ld_aload_n_0 (x_dk dn_1_0_0_ok 0 rfl)))
  (e_Tok2
  (e_Lok (ps_iconst_0 (x_dk dn_1_0_0_ok 1 rfl)))
  (e_Lok (lk_0_44p ho_1 (x_dk dn_1_0_0_ok 2 rfl)))))
  (e_Tok2
  (e_Tok2
  (e_Lok (ld_aload_n_0 (x_dk dn_1_0_0_ok 3 rfl)))
  (e_Lok (lk_0_17g ho_1 (x_dk dn_1_0_0_ok 4 rfl))))
  (e_Tok2
  (e_Lok (ps_iconst_0 (x_dk dn_1_0_0_ok 5 rfl)))
  (e_Lok (ld_iload_n_1 (x_dk dn_1_0_0_ok 6 rfl))))))
  (e_Tok2
  (e_Tok2
  (e_Lok (sm_iastore (x_dk dn_1_0_0_ok 7 rfl)))
  (e_Tok2
  (e_Lok (ld_aload_n_0 (x_dk dn_1_0_0_ok 8 rfl)))
  (e_Lok (lk_0_21g ho_1 (x_dk dn_1_0_0_ok 9 rfl)))))
  (e_Tok2
  (e_Tok2
  (e_Lok (ps_iconst_0 (x_dk dn_1_0_0_ok 10 rfl)))
  (e_Lok (ld_iload_n_2 (x_dk dn_1_0_0_ok 11 rfl))))
  (e_Tok2
  (e_Lok (sm_iastore (x_dk dn_1_0_0_ok 12 rfl)))
  (e_Lok (ld_aload_n_0 (x_dk dn_1_0_0_ok 13 rfl)))))))
  (e_Tok2
  (e_Tok2
  (e_Tok2
  (e_Lok (ld_iload_n_3 (x_dk dn_1_0_0_ok 14 rfl)))
  (e_Tok2
  (e_Lok (lk_0_48p ho_1 (x_dk dn_1_0_0_ok 15 rfl)))
  (e_Lok (ld_aload_n_0 (x_dk dn_1_0_0_ok 16 rfl)))))
  (e_Tok2
  (e_Tok2
  (e_Lok (ld_iload_4 (x_dk dn_1_0_0_ok 17 rfl)))
  (e_Lok (lk_0_51p ho_1 (x_dk dn_1_0_0_ok 18 rfl))))
  (e_Tok2
  (e_Lok (ld_aload_n_0 (x_dk dn_1_0_0_ok 19 rfl)))
  (e_Lok (lk_0_30g ho_1 (x_dk dn_1_0_0_ok 20 rfl))))))
  (e_Tok2
  (e_Tok2
  (e_Tok2
  (e_Lok (ps_iconst_0 (x_dk dn_1_0_0_ok 21 rfl)))
  (e_Lok (lk_0_54 ho_1 (x_dk dn_1_0_0_ok 22 rfl))))
  (e_Tok2
  (e_Lok (ld_aload_n_0 (x_dk dn_1_0_0_ok 23 rfl)))
  (e_Lok (lk_0_39g ho_1 (x_dk dn_1_0_0_ok 24 rfl)))))
  (e_Tok2
  (e_Tok2
  (e_Lok (lk_0_60 ho_1 (x_dk dn_1_0_1_ok 0 rfl)))
  (e_Lok (ld_aload_n_0 (x_dk dn_1_0_1_ok 1 rfl))))
  (e_Tok2
  (e_Lok (lk_0_63 ho_1 (x_dk dn_1_0_1_ok 2 rfl)))
  (e_Lok (e_rt (I := eI) (k := 0) ⟨(x_dk dn_1_0_1_ok 3 rfl), rfl⟩)))))))
def te_1 : Nat → eE := te_1_0
theorem te_1_ok : ∀ pc, e_EOq eft cls elay eI n_1 pc (te_1 pc) := te_1_0_ok
theorem ho_2 : (xm_y n_2).cls = "RobotCellHouse$Arm" := rfl
def dn_2_0_0 : List (Nat × Instr × Nat) := [(0, .aload_n 0, 1), (1, .getfield 11, 3), (4, .aload_n 0, 1), (5, .getfield 44, 3), (8, .aaload, 1), (9, .astore 5, 2), (11, .aload 5, 2), (13, .iload_n 1, 1), (14, .putfield 66, 3), (17, .aload 5, 2), (19, .iload_n 2, 1), (20, .putfield 69, 3), (23, .aload 5, 2), (25, .iload_n 3, 1), (26, .putfield 72, 3), (29, .aload 5, 2), (31, .iload 4, 2), (33, .putfield 75, 3), (36, .aload 5, 2), (38, .iconst 0, 1), (39, .putfield 78, 3), (42, .aload 5, 2), (44, .bipush 100, 2), (46, .putfield 81, 3), (49, .aload 5, 2)]
set_option maxRecDepth 20000 in
theorem dn_2_0_0_ok : dn_2_0_0.all (fun q => decide (decode (xm_b n_2) q.1 = .ok (q.2.1, q.2.2))) = true := xa_g_ok (by decide +kernel)
def dn_2_0_1 : List (Nat × Instr × Nat) := [(51, .bipush 10, 2), (53, .putfield 84, 3), (56, .aload_n 0, 1), (57, .dup, 1), (58, .getfield 44, 3), (61, .iconst 1, 1), (62, .iadd, 1), (63, .putfield 44, 3), (66, .aload_n 0, 1), (67, .invokevirtual 87, 3), (70, .aload_n 0, 1), (71, .getfield 44, 3), (74, .iconst 1, 1), (75, .isub, 1), (76, .ireturn, 1)]
set_option maxRecDepth 20000 in
theorem dn_2_0_1_ok : dn_2_0_1.all (fun q => decide (decode (xm_b n_2) q.1 = .ok (q.2.1, q.2.2))) = true := xa_g_ok (by decide +kernel)
def te_2_0 : Nat → eE := (e_T 38 (e_T 17 (e_T 8 (e_T 1 (e_T 0 (e_L 0 (0, ei_load 0 2 1, 0, 0)) (e_L 1 (0, ei_getf eft elay 0 0 4, 0, 0))) (e_T 4 (e_L 4 (0, ei_load 0 2 5, 0, 0)) (e_T 5 (e_L 5 (0, ei_getf eft elay 0 8 8, 0, 0)) (e_L 8 (0, ei_aald elay 9, 0, 0))))) (e_T 11 (e_T 9 (e_L 9 (0, ei_stor 5 2 11, 0, 0)) (e_L 11 (0, ei_load 5 2 13, 0, 0))) (e_T 13 (e_L 13 (0, ei_load 1 0 14, 0, 0)) (e_T 14 (e_L 14 (0, ei_putf eft elay 5 0 0 17, 0, 0)) (e_L 17 (0, ei_load 5 2 19, 0, 0)))))) (e_T 26 (e_T 20 (e_T 19 (e_L 19 (0, ei_load 2 0 20, 0, 0)) (e_L 20 (0, ei_putf eft elay 5 1 0 23, 0, 0))) (e_T 23 (e_L 23 (0, ei_load 5 2 25, 0, 0)) (e_T 25 (e_L 25 (0, ei_load 3 0 26, 0, 0)) (e_L 26 (0, ei_putf eft elay 5 2 0 29, 0, 0))))) (e_T 31 (e_T 29 (e_L 29 (0, ei_load 5 2 31, 0, 0)) (e_L 31 (0, ei_load 4 0 33, 0, 0))) (e_T 33 (e_L 33 (0, ei_putf eft elay 5 3 0 36, 0, 0)) (e_T 36 (e_L 36 (0, ei_load 5 2 38, 0, 0)) (e_L 38 (0, ei_push (0, 0) 39, 0, 0))))))) (e_T 58 (e_T 49 (e_T 42 (e_T 39 (e_L 39 (0, ei_putf eft elay 5 4 0 42, 0, 0)) (e_L 42 (0, ei_load 5 2 44, 0, 0))) (e_T 44 (e_L 44 (0, ei_push (0, 100) 46, 0, 0)) (e_T 46 (e_L 46 (0, ei_putf eft elay 5 5 0 49, 0, 0)) (e_L 49 (0, ei_load 5 2 51, 0, 0))))) (e_T 53 (e_T 51 (e_L 51 (0, ei_push (0, 10) 53, 0, 0)) (e_L 53 (0, ei_putf eft elay 5 6 0 56, 0, 0))) (e_T 56 (e_L 56 (0, ei_load 0 2 57, 0, 0)) (e_T 57 (e_L 57 (0, ei_stk ef_dup 58, 0, 0)) (e_L 58 (0, ei_getf eft elay 0 8 61, 0, 0)))))) (e_T 67 (e_T 62 (e_T 61 (e_L 61 (0, ei_push (0, 1) 62, 0, 0)) (e_L 62 (0, ei_bin eF_add 63, 0, 0))) (e_T 63 (e_L 63 (0, ei_putf eft elay 0 8 0 66, 0, 0)) (e_T 66 (e_L 66 (0, ei_load 0 2 67, 0, 0)) (e_L 67 (2, e_nof, 10, 1))))) (e_T 71 (e_T 70 (e_L 70 (0, ei_load 0 2 71, 0, 0)) (e_L 71 (0, ei_getf eft elay 0 8 74, 0, 0))) (e_T 74 (e_L 74 (0, ei_push (0, 1) 75, 0, 0)) (e_T 75 (e_L 75 (0, ei_bin eF_sub 76, 0, 0)) (e_L 76 (1, e_nof, 1, 0))))))))
set_option maxRecDepth 20000 in
set_option maxHeartbeats 4000000 in
theorem te_2_0_ok : ∀ pc, e_EOq eft cls elay eI n_2 pc (te_2_0 pc) :=
  (e_Tok2
  (e_Tok2
  (e_Tok2
  (e_Tok2
  (e_Tok2
  (e_Lok (ld_aload_n_0 (x_dk dn_2_0_0_ok 0 rfl)))
  (e_Lok (lk_0_11g ho_2 (x_dk dn_2_0_0_ok 1 rfl))))
  (e_Tok2
  (e_Lok (ld_aload_n_0 (x_dk dn_2_0_0_ok 2 rfl)))
  (e_Tok2
  (e_Lok (lk_0_44g ho_2 (x_dk dn_2_0_0_ok 3 rfl)))
  (e_Lok (e_st (I := eI) (er_aaload (x_dk dn_2_0_0_ok 4 rfl)) nx_aald)))))
  (e_Tok2
  (e_Tok2
  (e_Lok (e_st (I := eI) (er_astore (i := 5) (x_dk dn_2_0_0_ok 5 rfl) (by decide +kernel)) nx_stor))
  (e_Lok (ld_aload_5 (x_dk dn_2_0_0_ok 6 rfl))))
  (e_Tok2
  (e_Lok (ld_iload_n_1 (x_dk dn_2_0_0_ok 7 rfl)))
  (e_Tok2
  (e_Lok (lk_0_66p ho_2 (x_dk dn_2_0_0_ok 8 rfl)))
  (e_Lok (ld_aload_5 (x_dk dn_2_0_0_ok 9 rfl)))))))
  (e_Tok2
  (e_Tok2
  (e_Tok2
  (e_Lok (ld_iload_n_2 (x_dk dn_2_0_0_ok 10 rfl)))
  (e_Lok (lk_0_69p ho_2 (x_dk dn_2_0_0_ok 11 rfl))))
  (e_Tok2
  (e_Lok (ld_aload_5 (x_dk dn_2_0_0_ok 12 rfl)))
  (e_Tok2
  (e_Lok (ld_iload_n_3 (x_dk dn_2_0_0_ok 13 rfl)))
  (e_Lok (lk_0_72p ho_2 (x_dk dn_2_0_0_ok 14 rfl))))))
  (e_Tok2
  (e_Tok2
  (e_Lok (ld_aload_5 (x_dk dn_2_0_0_ok 15 rfl)))
  (e_Lok (ld_iload_4 (x_dk dn_2_0_0_ok 16 rfl))))
  (e_Tok2
  (e_Lok (lk_0_75p ho_2 (x_dk dn_2_0_0_ok 17 rfl)))
  (e_Tok2
  (e_Lok (ld_aload_5 (x_dk dn_2_0_0_ok 18 rfl)))
  (e_Lok (ps_iconst_0 (x_dk dn_2_0_0_ok 19 rfl))))))))
  (e_Tok2
  (e_Tok2
  (e_Tok2
  (e_Tok2
  (e_Lok (lk_0_78p ho_2 (x_dk dn_2_0_0_ok 20 rfl)))
  (e_Lok (ld_aload_5 (x_dk dn_2_0_0_ok 21 rfl))))
  (e_Tok2
  (e_Lok (ps_bipush_100 (x_dk dn_2_0_0_ok 22 rfl)))
  (e_Tok2
  (e_Lok (lk_0_81p ho_2 (x_dk dn_2_0_0_ok 23 rfl)))
  (e_Lok (ld_aload_5 (x_dk dn_2_0_0_ok 24 rfl))))))
  (e_Tok2
  (e_Tok2
  (e_Lok (ps_bipush_10 (x_dk dn_2_0_1_ok 0 rfl)))
  (e_Lok (lk_0_84p ho_2 (x_dk dn_2_0_1_ok 1 rfl))))
  (e_Tok2
  (e_Lok (ld_aload_n_0 (x_dk dn_2_0_1_ok 2 rfl)))
  (e_Tok2
  (e_Lok (e_st (I := eI) (er_dup (x_dk dn_2_0_1_ok 3 rfl)) (nx_stk bf_dup)))
  (e_Lok (lk_0_44g ho_2 (x_dk dn_2_0_1_ok 4 rfl)))))))
  (e_Tok2
  (e_Tok2
  (e_Tok2
  (e_Lok (ps_iconst_1 (x_dk dn_2_0_1_ok 5 rfl)))
  (e_Lok (sm_iadd (x_dk dn_2_0_1_ok 6 rfl))))
  (e_Tok2
  (e_Lok (lk_0_44p ho_2 (x_dk dn_2_0_1_ok 7 rfl)))
  (e_Tok2
  (e_Lok (ld_aload_n_0 (x_dk dn_2_0_1_ok 8 rfl)))
  (e_Lok (lk_0_87 ho_2 (x_dk dn_2_0_1_ok 9 rfl))))))
  (e_Tok2
  (e_Tok2
  (e_Lok (ld_aload_n_0 (x_dk dn_2_0_1_ok 10 rfl)))
  (e_Lok (lk_0_44g ho_2 (x_dk dn_2_0_1_ok 11 rfl))))
  (e_Tok2
  (e_Lok (ps_iconst_1 (x_dk dn_2_0_1_ok 12 rfl)))
  (e_Tok2
  (e_Lok (sm_isub (x_dk dn_2_0_1_ok 13 rfl)))
  (e_Lok (e_rt (I := eI) (k := 1) ⟨(x_dk dn_2_0_1_ok 14 rfl), rfl⟩))))))))
def te_2 : Nat → eE := te_2_0
theorem te_2_ok : ∀ pc, e_EOq eft cls elay eI n_2 pc (te_2 pc) := te_2_0_ok
theorem ho_3 : (xm_y n_3).cls = "RobotCellHouse$Arm" := rfl
def dn_3_0_0 : List (Nat × Instr × Nat) := [(0, .iconst 0, 1), (1, .istore_n 1, 1), (2, .iload_n 1, 1), (3, .bipush 6, 2), (5, .if_icmp .ge 29, 3), (8, .aload_n 0, 1), (9, .getfield 11, 3), (12, .iload_n 1, 1), (13, .aaload, 1), (14, .iconst 0, 1), (15, .putfield 90, 3), (18, .aload_n 0, 1), (19, .getfield 11, 3), (22, .iload_n 1, 1), (23, .aaload, 1), (24, .iconst 0, 1), (25, .putfield 93, 3), (28, .iinc 1 1, 3), (31, .goto (-29), 3), (34, .aload_n 0, 1), (35, .getfield 33, 3), (38, .iconst 0, 1), (39, .invokestatic 54, 3), (42, .aload_n 0, 1), (43, .invokevirtual 96, 3)]
set_option maxRecDepth 20000 in
theorem dn_3_0_0_ok : dn_3_0_0.all (fun q => decide (decode (xm_b n_3) q.1 = .ok (q.2.1, q.2.2))) = true := xa_g_ok (by decide +kernel)
def dn_3_0_1 : List (Nat × Instr × Nat) := [(46, .aload_n 0, 1), (47, .iconst (-1), 1), (48, .putfield 99, 3), (51, .aload_n 0, 1), (52, .iconst 0, 1), (53, .putfield 102, 3), (56, .aload_n 0, 1), (57, .iconst (-1), 1), (58, .putfield 105, 3), (61, .aload_n 0, 1), (62, .iconst (-1), 1), (63, .putfield 108, 3), (66, .aload_n 0, 1), (67, .iconst 0, 1), (68, .putfield 111, 3), (71, .aload_n 0, 1), (72, .invokevirtual 87, 3), (75, .aload_n 0, 1), (76, .invokevirtual 114, 3), (79, .return_, 1)]
set_option maxRecDepth 20000 in
theorem dn_3_0_1_ok : dn_3_0_1.all (fun q => decide (decode (xm_b n_3) q.1 = .ok (q.2.1, q.2.2))) = true := xa_g_ok (by decide +kernel)
def te_3_0 : Nat → eE := (e_T 15 (e_T 5 (e_T 1 (e_T 0 (e_L 0 (0, ei_push (0, 0) 1, 0, 0)) (e_L 1 (0, ei_stor 1 0 2, 0, 0))) (e_T 2 (e_L 2 (0, ei_load 1 0 3, 0, 0)) (e_T 3 (e_L 3 (0, ei_push (0, 6) 5, 0, 0)) (e_L 5 (0, ei_if2 3 34 8, 0, 0))))) (e_T 12 (e_T 8 (e_L 8 (0, ei_load 0 2 9, 0, 0)) (e_T 9 (e_L 9 (0, ei_getf eft elay 0 0 12, 0, 0)) (e_L 12 (0, ei_load 1 0 13, 0, 0)))) (e_T 13 (e_L 13 (0, ei_aald elay 14, 0, 0)) (e_T 14 (e_L 14 (0, ei_push (0, 0) 15, 0, 0)) (e_L 15 (0, ei_putf eft elay 5 7 0 18, 0, 0)))))) (e_T 24 (e_T 19 (e_T 18 (e_L 18 (0, ei_load 0 2 19, 0, 0)) (e_L 19 (0, ei_getf eft elay 0 0 22, 0, 0))) (e_T 22 (e_L 22 (0, ei_load 1 0 23, 0, 0)) (e_T 23 (e_L 23 (0, ei_aald elay 24, 0, 0)) (e_L 24 (0, ei_push (0, 0) 25, 0, 0))))) (e_T 31 (e_T 25 (e_L 25 (0, ei_putf eft elay 5 9 0 28, 0, 0)) (e_T 28 (e_L 28 (0, ei_inc 1 1 31, 0, 0)) (e_L 31 (0, ei_goto 2, 0, 0)))) (e_T 34 (e_L 34 (0, ei_load 0 2 35, 0, 0)) (e_T 35 (e_L 35 (0, ei_getf eft elay 0 6 38, 0, 0)) (e_L 38 (0, ei_push (0, 0) 39, 0, 0)))))))
set_option maxRecDepth 20000 in
set_option maxHeartbeats 4000000 in
theorem te_3_0_ok : ∀ pc, e_EOq eft cls elay eI n_3 pc (te_3_0 pc) :=
  (e_Tok2
  (e_Tok2
  (e_Tok2
  (e_Tok2
  (e_Lok (ps_iconst_0 (x_dk dn_3_0_0_ok 0 rfl)))
  (e_Lok (e_st (I := eI) (er_istore_n (i := 1) (x_dk dn_3_0_0_ok 1 rfl) (by decide +kernel)) nx_stor)))
  (e_Tok2
  (e_Lok (ld_iload_n_1 (x_dk dn_3_0_0_ok 2 rfl)))
  (e_Tok2
  (e_Lok (ps_bipush_6 (x_dk dn_3_0_0_ok 3 rfl)))
  (e_Lok (e_st (I := eI) (er_icmpge (off := 29) (tg := 34) (x_dk dn_3_0_0_ok 4 rfl) (by decide)) nx_if2)))))
  (e_Tok2
  (e_Tok2
  (e_Lok (ld_aload_n_0 (x_dk dn_3_0_0_ok 5 rfl)))
  (e_Tok2
  (e_Lok (lk_0_11g ho_3 (x_dk dn_3_0_0_ok 6 rfl)))
  (e_Lok (ld_iload_n_1 (x_dk dn_3_0_0_ok 7 rfl)))))
  (e_Tok2
  (e_Lok (e_st (I := eI) (er_aaload (x_dk dn_3_0_0_ok 8 rfl)) nx_aald))
  (e_Tok2
  (e_Lok (ps_iconst_0 (x_dk dn_3_0_0_ok 9 rfl)))
  (e_Lok (lk_0_90p ho_3 (x_dk dn_3_0_0_ok 10 rfl)))))))
  (e_Tok2
  (e_Tok2
  (e_Tok2
  (e_Lok (ld_aload_n_0 (x_dk dn_3_0_0_ok 11 rfl)))
  (e_Lok (lk_0_11g ho_3 (x_dk dn_3_0_0_ok 12 rfl))))
  (e_Tok2
  (e_Lok (ld_iload_n_1 (x_dk dn_3_0_0_ok 13 rfl)))
  (e_Tok2
  (e_Lok (e_st (I := eI) (er_aaload (x_dk dn_3_0_0_ok 14 rfl)) nx_aald))
  (e_Lok (ps_iconst_0 (x_dk dn_3_0_0_ok 15 rfl))))))
  (e_Tok2
  (e_Tok2
  (e_Lok (lk_0_93p ho_3 (x_dk dn_3_0_0_ok 16 rfl)))
  (e_Tok2
  (e_Lok (e_st (I := eI) (er_iinc (i := 1) (n := 1) (x_dk dn_3_0_0_ok 17 rfl) (by decide +kernel) (by decide)) nx_inc))
  (e_Lok (e_st (I := eI) (er_goto (off := (-29)) (tg := 2) (x_dk dn_3_0_0_ok 18 rfl) (by decide)) nx_goto))))
  (e_Tok2
  (e_Lok (ld_aload_n_0 (x_dk dn_3_0_0_ok 19 rfl)))
  (e_Tok2
  (e_Lok (lk_0_33g ho_3 (x_dk dn_3_0_0_ok 20 rfl)))
  (e_Lok (ps_iconst_0 (x_dk dn_3_0_0_ok 21 rfl))))))))
def te_3_22 : Nat → eE := (e_T 57 (e_T 47 (e_T 42 (e_T 39 (e_L 39 (2, e_nof, 452, 2)) (e_L 42 (0, ei_load 0 2 43, 0, 0))) (e_T 43 (e_L 43 (2, e_nof, 17, 1)) (e_T 46 (e_L 46 (0, ei_load 0 2 47, 0, 0)) (e_L 47 (0, ei_push (0, (-1)) 48, 0, 0))))) (e_T 52 (e_T 48 (e_L 48 (0, ei_putf eft elay 0 14 0 51, 0, 0)) (e_T 51 (e_L 51 (0, ei_load 0 2 52, 0, 0)) (e_L 52 (0, ei_push (0, 0) 53, 0, 0)))) (e_T 53 (e_L 53 (0, ei_putf eft elay 0 15 0 56, 0, 0)) (e_T 56 (e_L 56 (0, ei_load 0 2 57, 0, 0)) (e_L 57 (0, ei_push (0, (-1)) 58, 0, 0)))))) (e_T 67 (e_T 62 (e_T 58 (e_L 58 (0, ei_putf eft elay 0 16 0 61, 0, 0)) (e_T 61 (e_L 61 (0, ei_load 0 2 62, 0, 0)) (e_L 62 (0, ei_push (0, (-1)) 63, 0, 0)))) (e_T 63 (e_L 63 (0, ei_putf eft elay 0 17 0 66, 0, 0)) (e_T 66 (e_L 66 (0, ei_load 0 2 67, 0, 0)) (e_L 67 (0, ei_push (0, 0) 68, 0, 0))))) (e_T 72 (e_T 68 (e_L 68 (0, ei_putf eft elay 0 19 0 71, 0, 0)) (e_T 71 (e_L 71 (0, ei_load 0 2 72, 0, 0)) (e_L 72 (2, e_nof, 10, 1)))) (e_T 75 (e_L 75 (0, ei_load 0 2 76, 0, 0)) (e_T 76 (e_L 76 (2, e_nof, 11, 1)) (e_L 79 (1, e_nof, 0, 0)))))))
set_option maxRecDepth 20000 in
set_option maxHeartbeats 4000000 in
theorem te_3_22_ok : ∀ pc, e_EOq eft cls elay eI n_3 pc (te_3_22 pc) :=
  (e_Tok2
  (e_Tok2
  (e_Tok2
  (e_Tok2
  (e_Lok (lk_0_54 ho_3 (x_dk dn_3_0_0_ok 22 rfl)))
  (e_Lok (ld_aload_n_0 (x_dk dn_3_0_0_ok 23 rfl))))
  (e_Tok2
  (e_Lok (lk_0_96 ho_3 (x_dk dn_3_0_0_ok 24 rfl)))
  (e_Tok2
  (e_Lok (ld_aload_n_0 (x_dk dn_3_0_1_ok 0 rfl)))
  (e_Lok (ps_iconst_m1 (x_dk dn_3_0_1_ok 1 rfl))))))
  (e_Tok2
  (e_Tok2
  (e_Lok (lk_0_99p ho_3 (x_dk dn_3_0_1_ok 2 rfl)))
  (e_Tok2
  (e_Lok (ld_aload_n_0 (x_dk dn_3_0_1_ok 3 rfl)))
  (e_Lok (ps_iconst_0 (x_dk dn_3_0_1_ok 4 rfl)))))
  (e_Tok2
  (e_Lok (lk_0_102p ho_3 (x_dk dn_3_0_1_ok 5 rfl)))
  (e_Tok2
  (e_Lok (ld_aload_n_0 (x_dk dn_3_0_1_ok 6 rfl)))
  (e_Lok (ps_iconst_m1 (x_dk dn_3_0_1_ok 7 rfl)))))))
  (e_Tok2
  (e_Tok2
  (e_Tok2
  (e_Lok (lk_0_105p ho_3 (x_dk dn_3_0_1_ok 8 rfl)))
  (e_Tok2
  (e_Lok (ld_aload_n_0 (x_dk dn_3_0_1_ok 9 rfl)))
  (e_Lok (ps_iconst_m1 (x_dk dn_3_0_1_ok 10 rfl)))))
  (e_Tok2
  (e_Lok (lk_0_108p ho_3 (x_dk dn_3_0_1_ok 11 rfl)))
  (e_Tok2
  (e_Lok (ld_aload_n_0 (x_dk dn_3_0_1_ok 12 rfl)))
  (e_Lok (ps_iconst_0 (x_dk dn_3_0_1_ok 13 rfl))))))
  (e_Tok2
  (e_Tok2
  (e_Lok (lk_0_111p ho_3 (x_dk dn_3_0_1_ok 14 rfl)))
  (e_Tok2
  (e_Lok (ld_aload_n_0 (x_dk dn_3_0_1_ok 15 rfl)))
  (e_Lok (lk_0_87 ho_3 (x_dk dn_3_0_1_ok 16 rfl)))))
  (e_Tok2
  (e_Lok (ld_aload_n_0 (x_dk dn_3_0_1_ok 17 rfl)))
  (e_Tok2
  (e_Lok (lk_0_114 ho_3 (x_dk dn_3_0_1_ok 18 rfl)))
  (e_Lok (e_rt (I := eI) (k := 0) ⟨(x_dk dn_3_0_1_ok 19 rfl), rfl⟩)))))))
def te_3 : Nat → eE := (e_T 38 te_3_0 te_3_22)
theorem te_3_ok : ∀ pc, e_EOq eft cls elay eI n_3 pc (te_3 pc) := (e_Tok2 (te_3_0_ok) (te_3_22_ok))
theorem ho_4 : (xm_y n_4).cls = "RobotCellHouse$Arm" := rfl
def dn_4_0_0 : List (Nat × Instr × Nat) := [(0, .aload_n 0, 1), (1, .getfield 39, 3), (4, .astore_n 2, 1), (5, .aload_n 0, 1), (6, .aload_n 1, 1), (7, .putfield 39, 3), (10, .aload_n 2, 1), (11, .areturn, 1)]
set_option maxRecDepth 20000 in
theorem dn_4_0_0_ok : dn_4_0_0.all (fun q => decide (decode (xm_b n_4) q.1 = .ok (q.2.1, q.2.2))) = true := xa_g_ok (by decide +kernel)
def te_4_0 : Nat → eE := (e_T 5 (e_T 1 (e_T 0 (e_L 0 (0, ei_load 0 2 1, 0, 0)) (e_L 1 (0, ei_getf eft elay 0 7 4, 0, 0))) (e_T 4 (e_L 4 (0, ei_stor 2 2 5, 0, 0)) (e_L 5 (0, ei_load 0 2 6, 0, 0)))) (e_T 7 (e_T 6 (e_L 6 (0, ei_load 1 2 7, 0, 0)) (e_L 7 (0, ei_putf eft elay 0 7 2 10, 0, 0))) (e_T 10 (e_L 10 (0, ei_load 2 2 11, 0, 0)) (e_L 11 (1, e_nof, 3, 0)))))
set_option maxRecDepth 20000 in
set_option maxHeartbeats 4000000 in
theorem te_4_0_ok : ∀ pc, e_EOq eft cls elay eI n_4 pc (te_4_0 pc) :=
  (e_Tok2
  (e_Tok2
  (e_Tok2
  (e_Lok (ld_aload_n_0 (x_dk dn_4_0_0_ok 0 rfl)))
  (e_Lok (lk_0_39g ho_4 (x_dk dn_4_0_0_ok 1 rfl))))
  (e_Tok2
  (e_Lok (e_st (I := eI) (er_astore_n (i := 2) (x_dk dn_4_0_0_ok 2 rfl) (by decide +kernel)) nx_stor))
  (e_Lok (ld_aload_n_0 (x_dk dn_4_0_0_ok 3 rfl)))))
  (e_Tok2
  (e_Tok2
  (e_Lok (ld_aload_n_1 (x_dk dn_4_0_0_ok 4 rfl)))
  (e_Lok (lk_0_39p ho_4 (x_dk dn_4_0_0_ok 5 rfl))))
  (e_Tok2
  (e_Lok (ld_aload_n_2 (x_dk dn_4_0_0_ok 6 rfl)))
  (e_Lok (e_rt (I := eI) (k := 3) ⟨(x_dk dn_4_0_0_ok 7 rfl), _, rfl, Or.inl ⟨_, rfl⟩⟩)))))
def te_4 : Nat → eE := te_4_0
theorem te_4_ok : ∀ pc, e_EOq eft cls elay eI n_4 pc (te_4 pc) := te_4_0_ok
theorem ho_5 : (xm_y n_5).cls = "RobotCellHouse$Arm" := rfl
def dn_5_0_0 : List (Nat × Instr × Nat) := [(0, .iconst 0, 1), (1, .istore_n 1, 1), (2, .iconst 0, 1), (3, .istore_n 2, 1), (4, .iload_n 2, 1), (5, .aload_n 0, 1), (6, .getfield 44, 3), (9, .if_icmp .ge 48, 3), (12, .iload_n 1, 1), (13, .aload_n 0, 1), (14, .getfield 11, 3), (17, .iload_n 2, 1), (18, .aaload, 1), (19, .getfield 75, 3), (22, .aload_n 0, 1), (23, .getfield 11, 3), (26, .iload_n 2, 1), (27, .aaload, 1), (28, .getfield 66, 3), (31, .iconst 1, 1), (32, .if_icmp .ne 15, 3), (35, .aload_n 0, 1), (36, .getfield 11, 3), (39, .iload_n 2, 1), (40, .aaload, 1)]
set_option maxRecDepth 20000 in
theorem dn_5_0_0_ok : dn_5_0_0.all (fun q => decide (decode (xm_b n_5) q.1 = .ok (q.2.1, q.2.2))) = true := xa_g_ok (by decide +kernel)
def dn_5_0_1 : List (Nat × Instr × Nat) := [(41, .getfield 72, 3), (44, .goto 4, 3), (47, .iconst 0, 1), (48, .iadd, 1), (49, .iadd, 1), (50, .istore_n 1, 1), (51, .iinc 2 1, 3), (54, .goto (-50), 3), (57, .iload_n 1, 1), (58, .ireturn, 1)]
set_option maxRecDepth 20000 in
theorem dn_5_0_1_ok : dn_5_0_1.all (fun q => decide (decode (xm_b n_5) q.1 = .ok (q.2.1, q.2.2))) = true := xa_g_ok (by decide +kernel)
def te_5_0 : Nat → eE := (e_T 26 (e_T 9 (e_T 3 (e_T 1 (e_T 0 (e_L 0 (0, ei_push (0, 0) 1, 0, 0)) (e_L 1 (0, ei_stor 1 0 2, 0, 0))) (e_T 2 (e_L 2 (0, ei_push (0, 0) 3, 0, 0)) (e_L 3 (0, ei_stor 2 0 4, 0, 0)))) (e_T 5 (e_T 4 (e_L 4 (0, ei_load 2 0 5, 0, 0)) (e_L 5 (0, ei_load 0 2 6, 0, 0))) (e_T 6 (e_L 6 (0, ei_getf eft elay 0 8 9, 0, 0)) (e_L 9 (0, ei_if2 3 57 12, 0, 0))))) (e_T 17 (e_T 13 (e_T 12 (e_L 12 (0, ei_load 1 0 13, 0, 0)) (e_L 13 (0, ei_load 0 2 14, 0, 0))) (e_T 14 (e_L 14 (0, ei_getf eft elay 0 0 17, 0, 0)) (e_L 17 (0, ei_load 2 0 18, 0, 0)))) (e_T 19 (e_T 18 (e_L 18 (0, ei_aald elay 19, 0, 0)) (e_L 19 (0, ei_getf eft elay 5 3 22, 0, 0))) (e_T 22 (e_L 22 (0, ei_load 0 2 23, 0, 0)) (e_T 23 (e_L 23 (0, ei_getf eft elay 0 0 26, 0, 0)) (e_L 26 (0, ei_load 2 0 27, 0, 0))))))) (e_T 41 (e_T 32 (e_T 28 (e_T 27 (e_L 27 (0, ei_aald elay 28, 0, 0)) (e_L 28 (0, ei_getf eft elay 5 0 31, 0, 0))) (e_T 31 (e_L 31 (0, ei_push (0, 1) 32, 0, 0)) (e_L 32 (0, ei_if2 1 47 35, 0, 0)))) (e_T 36 (e_T 35 (e_L 35 (0, ei_load 0 2 36, 0, 0)) (e_L 36 (0, ei_getf eft elay 0 0 39, 0, 0))) (e_T 39 (e_L 39 (0, ei_load 2 0 40, 0, 0)) (e_T 40 (e_L 40 (0, ei_aald elay 41, 0, 0)) (e_L 41 (0, ei_getf eft elay 5 2 44, 0, 0)))))) (e_T 49 (e_T 47 (e_T 44 (e_L 44 (0, ei_goto 48, 0, 0)) (e_L 47 (0, ei_push (0, 0) 48, 0, 0))) (e_T 48 (e_L 48 (0, ei_bin eF_add 49, 0, 0)) (e_L 49 (0, ei_bin eF_add 50, 0, 0)))) (e_T 51 (e_T 50 (e_L 50 (0, ei_stor 1 0 51, 0, 0)) (e_L 51 (0, ei_inc 2 1 54, 0, 0))) (e_T 54 (e_L 54 (0, ei_goto 4, 0, 0)) (e_T 57 (e_L 57 (0, ei_load 1 0 58, 0, 0)) (e_L 58 (1, e_nof, 1, 0))))))))
set_option maxRecDepth 20000 in
set_option maxHeartbeats 4000000 in
theorem te_5_0_ok : ∀ pc, e_EOq eft cls elay eI n_5 pc (te_5_0 pc) :=
  (e_Tok2
  (e_Tok2
  (e_Tok2
  (e_Tok2
  (e_Tok2
  (e_Lok (ps_iconst_0 (x_dk dn_5_0_0_ok 0 rfl)))
  (e_Lok (e_st (I := eI) (er_istore_n (i := 1) (x_dk dn_5_0_0_ok 1 rfl) (by decide +kernel)) nx_stor)))
  (e_Tok2
  (e_Lok (ps_iconst_0 (x_dk dn_5_0_0_ok 2 rfl)))
  (e_Lok (e_st (I := eI) (er_istore_n (i := 2) (x_dk dn_5_0_0_ok 3 rfl) (by decide +kernel)) nx_stor))))
  (e_Tok2
  (e_Tok2
  (e_Lok (ld_iload_n_2 (x_dk dn_5_0_0_ok 4 rfl)))
  (e_Lok (ld_aload_n_0 (x_dk dn_5_0_0_ok 5 rfl))))
  (e_Tok2
  (e_Lok (lk_0_44g ho_5 (x_dk dn_5_0_0_ok 6 rfl)))
  (e_Lok (e_st (I := eI) (er_icmpge (off := 48) (tg := 57) (x_dk dn_5_0_0_ok 7 rfl) (by decide)) nx_if2)))))
  (e_Tok2
  (e_Tok2
  (e_Tok2
  (e_Lok (ld_iload_n_1 (x_dk dn_5_0_0_ok 8 rfl)))
  (e_Lok (ld_aload_n_0 (x_dk dn_5_0_0_ok 9 rfl))))
  (e_Tok2
  (e_Lok (lk_0_11g ho_5 (x_dk dn_5_0_0_ok 10 rfl)))
  (e_Lok (ld_iload_n_2 (x_dk dn_5_0_0_ok 11 rfl)))))
  (e_Tok2
  (e_Tok2
  (e_Lok (e_st (I := eI) (er_aaload (x_dk dn_5_0_0_ok 12 rfl)) nx_aald))
  (e_Lok (lk_0_75g ho_5 (x_dk dn_5_0_0_ok 13 rfl))))
  (e_Tok2
  (e_Lok (ld_aload_n_0 (x_dk dn_5_0_0_ok 14 rfl)))
  (e_Tok2
  (e_Lok (lk_0_11g ho_5 (x_dk dn_5_0_0_ok 15 rfl)))
  (e_Lok (ld_iload_n_2 (x_dk dn_5_0_0_ok 16 rfl))))))))
  (e_Tok2
  (e_Tok2
  (e_Tok2
  (e_Tok2
  (e_Lok (e_st (I := eI) (er_aaload (x_dk dn_5_0_0_ok 17 rfl)) nx_aald))
  (e_Lok (lk_0_66g ho_5 (x_dk dn_5_0_0_ok 18 rfl))))
  (e_Tok2
  (e_Lok (ps_iconst_1 (x_dk dn_5_0_0_ok 19 rfl)))
  (e_Lok (e_st (I := eI) (er_icmpne (off := 15) (tg := 47) (x_dk dn_5_0_0_ok 20 rfl) (by decide)) nx_if2))))
  (e_Tok2
  (e_Tok2
  (e_Lok (ld_aload_n_0 (x_dk dn_5_0_0_ok 21 rfl)))
  (e_Lok (lk_0_11g ho_5 (x_dk dn_5_0_0_ok 22 rfl))))
  (e_Tok2
  (e_Lok (ld_iload_n_2 (x_dk dn_5_0_0_ok 23 rfl)))
  (e_Tok2
  (e_Lok (e_st (I := eI) (er_aaload (x_dk dn_5_0_0_ok 24 rfl)) nx_aald))
  (e_Lok (lk_0_72g ho_5 (x_dk dn_5_0_1_ok 0 rfl)))))))
  (e_Tok2
  (e_Tok2
  (e_Tok2
  (e_Lok (e_st (I := eI) (er_goto (off := 4) (tg := 48) (x_dk dn_5_0_1_ok 1 rfl) (by decide)) nx_goto))
  (e_Lok (ps_iconst_0 (x_dk dn_5_0_1_ok 2 rfl))))
  (e_Tok2
  (e_Lok (sm_iadd (x_dk dn_5_0_1_ok 3 rfl)))
  (e_Lok (sm_iadd (x_dk dn_5_0_1_ok 4 rfl)))))
  (e_Tok2
  (e_Tok2
  (e_Lok (e_st (I := eI) (er_istore_n (i := 1) (x_dk dn_5_0_1_ok 5 rfl) (by decide +kernel)) nx_stor))
  (e_Lok (e_st (I := eI) (er_iinc (i := 2) (n := 1) (x_dk dn_5_0_1_ok 6 rfl) (by decide +kernel) (by decide)) nx_inc)))
  (e_Tok2
  (e_Lok (e_st (I := eI) (er_goto (off := (-50)) (tg := 4) (x_dk dn_5_0_1_ok 7 rfl) (by decide)) nx_goto))
  (e_Tok2
  (e_Lok (ld_iload_n_1 (x_dk dn_5_0_1_ok 8 rfl)))
  (e_Lok (e_rt (I := eI) (k := 1) ⟨(x_dk dn_5_0_1_ok 9 rfl), rfl⟩))))))))
def te_5 : Nat → eE := te_5_0
theorem te_5_ok : ∀ pc, e_EOq eft cls elay eI n_5 pc (te_5 pc) := te_5_0_ok
theorem ho_6 : (xm_y n_6).cls = "RobotCellHouse$Arm" := rfl
def dn_6_0_0 : List (Nat × Instr × Nat) := [(0, .aload_n 0, 1), (1, .getfield 30, 3), (4, .iload_n 1, 1), (5, .iaload, 1), (6, .iload_n 2, 1), (7, .ishr, 1), (8, .iconst 1, 1), (9, .iand, 1), (10, .ifCond .eq 7, 3), (13, .iconst 1, 1), (14, .goto 4, 3), (17, .iconst 0, 1), (18, .ireturn, 1)]
set_option maxRecDepth 20000 in
theorem dn_6_0_0_ok : dn_6_0_0.all (fun q => decide (decode (xm_b n_6) q.1 = .ok (q.2.1, q.2.2))) = true := xa_g_ok (by decide +kernel)
def te_6_0 : Nat → eE := (e_T 7 (e_T 4 (e_T 0 (e_L 0 (0, ei_load 0 2 1, 0, 0)) (e_T 1 (e_L 1 (0, ei_getf eft elay 0 5 4, 0, 0)) (e_L 4 (0, ei_load 1 0 5, 0, 0)))) (e_T 5 (e_L 5 (0, ei_ald elay false 6, 0, 0)) (e_T 6 (e_L 6 (0, ei_load 2 0 7, 0, 0)) (e_L 7 (0, ei_bin (eB (fun x y => x >>> (y &&& 31))) 8, 0, 0))))) (e_T 10 (e_T 8 (e_L 8 (0, ei_push (0, 1) 9, 0, 0)) (e_T 9 (e_L 9 (0, ei_bin (eB (fun x y => x &&& y)) 10, 0, 0)) (e_L 10 (0, ei_if1 0 17 13, 0, 0)))) (e_T 14 (e_T 13 (e_L 13 (0, ei_push (0, 1) 14, 0, 0)) (e_L 14 (0, ei_goto 18, 0, 0))) (e_T 17 (e_L 17 (0, ei_push (0, 0) 18, 0, 0)) (e_L 18 (1, e_nof, 4, 0))))))
set_option maxRecDepth 20000 in
set_option maxHeartbeats 4000000 in
theorem te_6_0_ok : ∀ pc, e_EOq eft cls elay eI n_6 pc (te_6_0 pc) :=
  (e_Tok2
  (e_Tok2
  (e_Tok2
  (e_Lok (ld_aload_n_0 (x_dk dn_6_0_0_ok 0 rfl)))
  (e_Tok2
  (e_Lok (lk_0_30g ho_6 (x_dk dn_6_0_0_ok 1 rfl)))
  (e_Lok (ld_iload_n_1 (x_dk dn_6_0_0_ok 2 rfl)))))
  (e_Tok2
  (e_Lok (sm_iaload (x_dk dn_6_0_0_ok 3 rfl)))
  (e_Tok2
  (e_Lok (ld_iload_n_2 (x_dk dn_6_0_0_ok 4 rfl)))
  (e_Lok (e_st (I := eI) (er_ishr (x_dk dn_6_0_0_ok 5 rfl)) nx_bin)))))
  (e_Tok2
  (e_Tok2
  (e_Lok (ps_iconst_1 (x_dk dn_6_0_0_ok 6 rfl)))
  (e_Tok2
  (e_Lok (e_st (I := eI) (er_iand (x_dk dn_6_0_0_ok 7 rfl)) nx_bin))
  (e_Lok (e_st (I := eI) (er_ifeq (off := 7) (tg := 17) (x_dk dn_6_0_0_ok 8 rfl) (by decide)) nx_if1))))
  (e_Tok2
  (e_Tok2
  (e_Lok (ps_iconst_1 (x_dk dn_6_0_0_ok 9 rfl)))
  (e_Lok (e_st (I := eI) (er_goto (off := 4) (tg := 18) (x_dk dn_6_0_0_ok 10 rfl) (by decide)) nx_goto)))
  (e_Tok2
  (e_Lok (ps_iconst_0 (x_dk dn_6_0_0_ok 11 rfl)))
  (e_Lok (e_rt (I := eI) (k := 4) ⟨(x_dk dn_6_0_0_ok 12 rfl), rfl⟩))))))
def te_6 : Nat → eE := te_6_0
theorem te_6_ok : ∀ pc, e_EOq eft cls elay eI n_6 pc (te_6 pc) := te_6_0_ok
theorem ho_7 : (xm_y n_7).cls = "RobotCellHouse$Arm" := rfl
def dn_7_0_0 : List (Nat × Instr × Nat) := [(0, .aload_n 0, 1), (1, .getfield 99, 3), (4, .ifCond .ge 10, 3), (7, .aload_n 0, 1), (8, .getfield 44, 3), (11, .goto 9, 3), (14, .aload_n 0, 1), (15, .getfield 44, 3), (18, .iconst 1, 1), (19, .iadd, 1), (20, .ireturn, 1)]
set_option maxRecDepth 20000 in
theorem dn_7_0_0_ok : dn_7_0_0.all (fun q => decide (decode (xm_b n_7) q.1 = .ok (q.2.1, q.2.2))) = true := xa_g_ok (by decide +kernel)
def te_7_0 : Nat → eE := (e_T 8 (e_T 1 (e_T 0 (e_L 0 (0, ei_load 0 2 1, 0, 0)) (e_L 1 (0, ei_getf eft elay 0 14 4, 0, 0))) (e_T 4 (e_L 4 (0, ei_if1 3 14 7, 0, 0)) (e_T 7 (e_L 7 (0, ei_load 0 2 8, 0, 0)) (e_L 8 (0, ei_getf eft elay 0 8 11, 0, 0))))) (e_T 15 (e_T 11 (e_L 11 (0, ei_goto 20, 0, 0)) (e_T 14 (e_L 14 (0, ei_load 0 2 15, 0, 0)) (e_L 15 (0, ei_getf eft elay 0 8 18, 0, 0)))) (e_T 18 (e_L 18 (0, ei_push (0, 1) 19, 0, 0)) (e_T 19 (e_L 19 (0, ei_bin eF_add 20, 0, 0)) (e_L 20 (1, e_nof, 1, 0))))))
set_option maxRecDepth 20000 in
set_option maxHeartbeats 4000000 in
theorem te_7_0_ok : ∀ pc, e_EOq eft cls elay eI n_7 pc (te_7_0 pc) :=
  (e_Tok2
  (e_Tok2
  (e_Tok2
  (e_Lok (ld_aload_n_0 (x_dk dn_7_0_0_ok 0 rfl)))
  (e_Lok (lk_0_99g ho_7 (x_dk dn_7_0_0_ok 1 rfl))))
  (e_Tok2
  (e_Lok (e_st (I := eI) (er_ifge (off := 10) (tg := 14) (x_dk dn_7_0_0_ok 2 rfl) (by decide)) nx_if1))
  (e_Tok2
  (e_Lok (ld_aload_n_0 (x_dk dn_7_0_0_ok 3 rfl)))
  (e_Lok (lk_0_44g ho_7 (x_dk dn_7_0_0_ok 4 rfl))))))
  (e_Tok2
  (e_Tok2
  (e_Lok (e_st (I := eI) (er_goto (off := 9) (tg := 20) (x_dk dn_7_0_0_ok 5 rfl) (by decide)) nx_goto))
  (e_Tok2
  (e_Lok (ld_aload_n_0 (x_dk dn_7_0_0_ok 6 rfl)))
  (e_Lok (lk_0_44g ho_7 (x_dk dn_7_0_0_ok 7 rfl)))))
  (e_Tok2
  (e_Lok (ps_iconst_1 (x_dk dn_7_0_0_ok 8 rfl)))
  (e_Tok2
  (e_Lok (sm_iadd (x_dk dn_7_0_0_ok 9 rfl)))
  (e_Lok (e_rt (I := eI) (k := 1) ⟨(x_dk dn_7_0_0_ok 10 rfl), rfl⟩))))))
def te_7 : Nat → eE := te_7_0
theorem te_7_ok : ∀ pc, e_EOq eft cls elay eI n_7 pc (te_7 pc) := te_7_0_ok
theorem ho_8 : (xm_y n_8).cls = "RobotCellHouse$Arm" := rfl
def dn_8_0_0 : List (Nat × Instr × Nat) := [(0, .iload_n 1, 1), (1, .aload_n 0, 1), (2, .getfield 44, 3), (5, .if_icmp .ge 15, 3), (8, .aload_n 0, 1), (9, .getfield 11, 3), (12, .iload_n 1, 1), (13, .aaload, 1), (14, .getfield 78, 3), (17, .goto 7, 3), (20, .aload_n 0, 1), (21, .getfield 102, 3), (24, .ireturn, 1)]
set_option maxRecDepth 20000 in
theorem dn_8_0_0_ok : dn_8_0_0.all (fun q => decide (decode (xm_b n_8) q.1 = .ok (q.2.1, q.2.2))) = true := xa_g_ok (by decide +kernel)
def te_8_0 : Nat → eE := (e_T 9 (e_T 2 (e_T 0 (e_L 0 (0, ei_load 1 0 1, 0, 0)) (e_T 1 (e_L 1 (0, ei_load 0 2 2, 0, 0)) (e_L 2 (0, ei_getf eft elay 0 8 5, 0, 0)))) (e_T 5 (e_L 5 (0, ei_if2 3 20 8, 0, 0)) (e_T 8 (e_L 8 (0, ei_load 0 2 9, 0, 0)) (e_L 9 (0, ei_getf eft elay 0 0 12, 0, 0))))) (e_T 14 (e_T 12 (e_L 12 (0, ei_load 1 0 13, 0, 0)) (e_T 13 (e_L 13 (0, ei_aald elay 14, 0, 0)) (e_L 14 (0, ei_getf eft elay 5 4 17, 0, 0)))) (e_T 20 (e_T 17 (e_L 17 (0, ei_goto 24, 0, 0)) (e_L 20 (0, ei_load 0 2 21, 0, 0))) (e_T 21 (e_L 21 (0, ei_getf eft elay 0 15 24, 0, 0)) (e_L 24 (1, e_nof, 1, 0))))))
set_option maxRecDepth 20000 in
set_option maxHeartbeats 4000000 in
theorem te_8_0_ok : ∀ pc, e_EOq eft cls elay eI n_8 pc (te_8_0 pc) :=
  (e_Tok2
  (e_Tok2
  (e_Tok2
  (e_Lok (ld_iload_n_1 (x_dk dn_8_0_0_ok 0 rfl)))
  (e_Tok2
  (e_Lok (ld_aload_n_0 (x_dk dn_8_0_0_ok 1 rfl)))
  (e_Lok (lk_0_44g ho_8 (x_dk dn_8_0_0_ok 2 rfl)))))
  (e_Tok2
  (e_Lok (e_st (I := eI) (er_icmpge (off := 15) (tg := 20) (x_dk dn_8_0_0_ok 3 rfl) (by decide)) nx_if2))
  (e_Tok2
  (e_Lok (ld_aload_n_0 (x_dk dn_8_0_0_ok 4 rfl)))
  (e_Lok (lk_0_11g ho_8 (x_dk dn_8_0_0_ok 5 rfl))))))
  (e_Tok2
  (e_Tok2
  (e_Lok (ld_iload_n_1 (x_dk dn_8_0_0_ok 6 rfl)))
  (e_Tok2
  (e_Lok (e_st (I := eI) (er_aaload (x_dk dn_8_0_0_ok 7 rfl)) nx_aald))
  (e_Lok (lk_0_78g ho_8 (x_dk dn_8_0_0_ok 8 rfl)))))
  (e_Tok2
  (e_Tok2
  (e_Lok (e_st (I := eI) (er_goto (off := 7) (tg := 24) (x_dk dn_8_0_0_ok 9 rfl) (by decide)) nx_goto))
  (e_Lok (ld_aload_n_0 (x_dk dn_8_0_0_ok 10 rfl))))
  (e_Tok2
  (e_Lok (lk_0_102g ho_8 (x_dk dn_8_0_0_ok 11 rfl)))
  (e_Lok (e_rt (I := eI) (k := 1) ⟨(x_dk dn_8_0_0_ok 12 rfl), rfl⟩))))))
def te_8 : Nat → eE := te_8_0
theorem te_8_ok : ∀ pc, e_EOq eft cls elay eI n_8 pc (te_8 pc) := te_8_0_ok
theorem ho_9 : (xm_y n_9).cls = "RobotCellHouse$Arm" := rfl
def dn_9_0_0 : List (Nat × Instr × Nat) := [(0, .aload_n 0, 1), (1, .getfield 108, 3), (4, .ifCond .lt 14, 3), (7, .aload_n 0, 1), (8, .getfield 111, 3), (11, .ifCond .ne 7, 3), (14, .iconst 1, 1), (15, .goto 4, 3), (18, .iconst 0, 1), (19, .ireturn, 1)]
set_option maxRecDepth 20000 in
theorem dn_9_0_0_ok : dn_9_0_0.all (fun q => decide (decode (xm_b n_9) q.1 = .ok (q.2.1, q.2.2))) = true := xa_g_ok (by decide +kernel)
def te_9_0 : Nat → eE := (e_T 8 (e_T 1 (e_T 0 (e_L 0 (0, ei_load 0 2 1, 0, 0)) (e_L 1 (0, ei_getf eft elay 0 17 4, 0, 0))) (e_T 4 (e_L 4 (0, ei_if1 2 18 7, 0, 0)) (e_T 7 (e_L 7 (0, ei_load 0 2 8, 0, 0)) (e_L 8 (0, ei_getf eft elay 0 19 11, 0, 0))))) (e_T 14 (e_T 11 (e_L 11 (0, ei_if1 1 18 14, 0, 0)) (e_L 14 (0, ei_push (0, 1) 15, 0, 0))) (e_T 15 (e_L 15 (0, ei_goto 19, 0, 0)) (e_T 18 (e_L 18 (0, ei_push (0, 0) 19, 0, 0)) (e_L 19 (1, e_nof, 4, 0))))))
set_option maxRecDepth 20000 in
set_option maxHeartbeats 4000000 in
theorem te_9_0_ok : ∀ pc, e_EOq eft cls elay eI n_9 pc (te_9_0 pc) :=
  (e_Tok2
  (e_Tok2
  (e_Tok2
  (e_Lok (ld_aload_n_0 (x_dk dn_9_0_0_ok 0 rfl)))
  (e_Lok (lk_0_108g ho_9 (x_dk dn_9_0_0_ok 1 rfl))))
  (e_Tok2
  (e_Lok (e_st (I := eI) (er_iflt (off := 14) (tg := 18) (x_dk dn_9_0_0_ok 2 rfl) (by decide)) nx_if1))
  (e_Tok2
  (e_Lok (ld_aload_n_0 (x_dk dn_9_0_0_ok 3 rfl)))
  (e_Lok (lk_0_111g ho_9 (x_dk dn_9_0_0_ok 4 rfl))))))
  (e_Tok2
  (e_Tok2
  (e_Lok (e_st (I := eI) (er_ifne (off := 7) (tg := 18) (x_dk dn_9_0_0_ok 5 rfl) (by decide)) nx_if1))
  (e_Lok (ps_iconst_1 (x_dk dn_9_0_0_ok 6 rfl))))
  (e_Tok2
  (e_Lok (e_st (I := eI) (er_goto (off := 4) (tg := 19) (x_dk dn_9_0_0_ok 7 rfl) (by decide)) nx_goto))
  (e_Tok2
  (e_Lok (ps_iconst_0 (x_dk dn_9_0_0_ok 8 rfl)))
  (e_Lok (e_rt (I := eI) (k := 4) ⟨(x_dk dn_9_0_0_ok 9 rfl), rfl⟩))))))
def te_9 : Nat → eE := te_9_0
theorem te_9_ok : ∀ pc, e_EOq eft cls elay eI n_9 pc (te_9 pc) := te_9_0_ok
theorem ho_10 : (xm_y n_10).cls = "RobotCellHouse$Arm" := rfl
def dn_10_0_0 : List (Nat × Instr × Nat) := [(0, .aload_n 0, 1), (1, .getfield 17, 3), (4, .iconst 0, 1), (5, .iaload, 1), (6, .i2l, 1), (7, .bipush 20, 2), (9, .lshl, 1), (10, .lstore_n 1, 1), (11, .aload_n 0, 1), (12, .getfield 21, 3), (15, .iconst 0, 1), (16, .iaload, 1), (17, .i2l, 1), (18, .bipush 20, 2), (20, .lshl, 1), (21, .lstore_n 3, 1), (22, .aload_n 0, 1), (23, .getfield 48, 3), (26, .istore 5, 2), (28, .iconst 0, 1), (29, .istore 6, 2), (31, .iload 6, 2), (33, .aload_n 0, 1), (34, .getfield 44, 3), (37, .if_icmp .ge 129, 3)]
set_option maxRecDepth 20000 in
theorem dn_10_0_0_ok : dn_10_0_0.all (fun q => decide (decode (xm_b n_10) q.1 = .ok (q.2.1, q.2.2))) = true := xa_g_ok (by decide +kernel)
def dn_10_0_1 : List (Nat × Instr × Nat) := [(40, .aload_n 0, 1), (41, .getfield 11, 3), (44, .iload 6, 2), (46, .aaload, 1), (47, .getfield 75, 3), (50, .istore 7, 2), (52, .aload_n 0, 1), (53, .getfield 11, 3), (56, .iload 6, 2), (58, .aaload, 1), (59, .getfield 66, 3), (62, .ifCond .ne 21, 3), (65, .iload 5, 2), (67, .aload_n 0, 1), (68, .getfield 11, 3), (71, .iload 6, 2), (73, .aaload, 1), (74, .getfield 90, 3), (77, .iadd, 1), (78, .istore 5, 2), (80, .goto 18, 3), (83, .iload 7, 2), (85, .aload_n 0, 1), (86, .getfield 11, 3), (89, .iload 6, 2)]
set_option maxRecDepth 20000 in
theorem dn_10_0_1_ok : dn_10_0_1.all (fun q => decide (decode (xm_b n_10) q.1 = .ok (q.2.1, q.2.2))) = true := xa_g_ok (by decide +kernel)
def dn_10_0_2 : List (Nat × Instr × Nat) := [(91, .aaload, 1), (92, .getfield 90, 3), (95, .iadd, 1), (96, .istore 7, 2), (98, .lload_n 1, 1), (99, .iload 7, 2), (101, .i2l, 1), (102, .iload 5, 2), (104, .invokestatic 117, 3), (107, .i2l, 1), (108, .lmul, 1), (109, .ladd, 1), (110, .lstore_n 1, 1), (111, .lload_n 3, 1), (112, .iload 7, 2), (114, .i2l, 1), (115, .iload 5, 2), (117, .invokestatic 121, 3), (120, .i2l, 1), (121, .lmul, 1), (122, .ladd, 1), (123, .lstore_n 3, 1), (124, .aload_n 0, 1), (125, .getfield 17, 3), (128, .iload 6, 2)]
set_option maxRecDepth 20000 in
theorem dn_10_0_2_ok : dn_10_0_2.all (fun q => decide (decode (xm_b n_10) q.1 = .ok (q.2.1, q.2.2))) = true := xa_g_ok (by decide +kernel)
def dn_10_0_3 : List (Nat × Instr × Nat) := [(130, .iconst 1, 1), (131, .iadd, 1), (132, .lload_n 1, 1), (133, .ldc2_w 124, 3), (136, .ladd, 1), (137, .bipush 20, 2), (139, .lshr, 1), (140, .l2i, 1), (141, .iastore, 1), (142, .aload_n 0, 1), (143, .getfield 21, 3), (146, .iload 6, 2), (148, .iconst 1, 1), (149, .iadd, 1), (150, .lload_n 3, 1), (151, .ldc2_w 124, 3), (154, .ladd, 1), (155, .bipush 20, 2), (157, .lshr, 1), (158, .l2i, 1), (159, .iastore, 1), (160, .iinc 6 1, 3), (163, .goto (-132), 3), (166, .aload_n 0, 1), (167, .getfield 17, 3)]
set_option maxRecDepth 20000 in
theorem dn_10_0_3_ok : dn_10_0_3.all (fun q => decide (decode (xm_b n_10) q.1 = .ok (q.2.1, q.2.2))) = true := xa_g_ok (by decide +kernel)
def dn_10_1_0 : List (Nat × Instr × Nat) := [(170, .aload_n 0, 1), (171, .getfield 44, 3), (174, .iconst 1, 1), (175, .iadd, 1), (176, .aload_n 0, 1), (177, .getfield 17, 3), (180, .aload_n 0, 1), (181, .getfield 44, 3), (184, .iaload, 1), (185, .iastore, 1), (186, .aload_n 0, 1), (187, .getfield 21, 3), (190, .aload_n 0, 1), (191, .getfield 44, 3), (194, .iconst 1, 1), (195, .iadd, 1), (196, .aload_n 0, 1), (197, .getfield 21, 3), (200, .aload_n 0, 1), (201, .getfield 44, 3), (204, .iaload, 1), (205, .iastore, 1), (206, .return_, 1)]
set_option maxRecDepth 20000 in
theorem dn_10_1_0_ok : dn_10_1_0.all (fun q => decide (decode (xm_b n_10) q.1 = .ok (q.2.1, q.2.2))) = true := xa_g_ok (by decide +kernel)
def te_10_0 : Nat → eE := (e_T 20 (e_T 9 (e_T 4 (e_T 0 (e_L 0 (0, ei_load 0 2 1, 0, 0)) (e_T 1 (e_L 1 (0, ei_getf eft elay 0 1 4, 0, 0)) (e_L 4 (0, ei_push (0, 0) 5, 0, 0)))) (e_T 6 (e_T 5 (e_L 5 (0, ei_ald elay false 6, 0, 0)) (e_L 6 (0, ei_un (fun x => (4, x)) 7, 0, 0))) (e_T 7 (e_L 7 (0, ei_push (0, 20) 9, 0, 0)) (e_L 9 (0, ei_shL (eSh (fun x y => x <<< (y.toInt64 &&& 63))) 10, 0, 0))))) (e_T 15 (e_T 11 (e_T 10 (e_L 10 (0, ei_stor 1 1 11, 0, 0)) (e_L 11 (0, ei_load 0 2 12, 0, 0))) (e_T 12 (e_L 12 (0, ei_getf eft elay 0 2 15, 0, 0)) (e_L 15 (0, ei_push (0, 0) 16, 0, 0)))) (e_T 17 (e_T 16 (e_L 16 (0, ei_ald elay false 17, 0, 0)) (e_L 17 (0, ei_un (fun x => (4, x)) 18, 0, 0))) (e_T 18 (e_L 18 (0, ei_push (0, 20) 20, 0, 0)) (e_L 20 (0, ei_shL (eSh (fun x y => x <<< (y.toInt64 &&& 63))) 21, 0, 0)))))) (e_T 31 (e_T 23 (e_T 21 (e_L 21 (0, ei_stor 3 1 22, 0, 0)) (e_T 22 (e_L 22 (0, ei_load 0 2 23, 0, 0)) (e_L 23 (0, ei_getf eft elay 0 9 26, 0, 0)))) (e_T 28 (e_T 26 (e_L 26 (0, ei_stor 5 0 28, 0, 0)) (e_L 28 (0, ei_push (0, 0) 29, 0, 0))) (e_T 29 (e_L 29 (0, ei_stor 6 0 31, 0, 0)) (e_L 31 (0, ei_load 6 0 33, 0, 0))))) (e_T 40 (e_T 34 (e_T 33 (e_L 33 (0, ei_load 0 2 34, 0, 0)) (e_L 34 (0, ei_getf eft elay 0 8 37, 0, 0))) (e_T 37 (e_L 37 (0, ei_if2 3 166 40, 0, 0)) (e_L 40 (0, ei_load 0 2 41, 0, 0)))) (e_T 44 (e_T 41 (e_L 41 (0, ei_getf eft elay 0 0 44, 0, 0)) (e_L 44 (0, ei_load 6 0 46, 0, 0))) (e_T 46 (e_L 46 (0, ei_aald elay 47, 0, 0)) (e_L 47 (0, ei_getf eft elay 5 3 50, 0, 0)))))))
set_option maxRecDepth 20000 in
set_option maxHeartbeats 4000000 in
theorem te_10_0_ok : ∀ pc, e_EOq eft cls elay eI n_10 pc (te_10_0 pc) :=
  (e_Tok2
  (e_Tok2
  (e_Tok2
  (e_Tok2
  (e_Lok (ld_aload_n_0 (x_dk dn_10_0_0_ok 0 rfl)))
  (e_Tok2
  (e_Lok (lk_0_17g ho_10 (x_dk dn_10_0_0_ok 1 rfl)))
  (e_Lok (ps_iconst_0 (x_dk dn_10_0_0_ok 2 rfl)))))
  (e_Tok2
  (e_Tok2
  (e_Lok (sm_iaload (x_dk dn_10_0_0_ok 3 rfl)))
  (e_Lok (e_st (I := eI) (er_i2l (x_dk dn_10_0_0_ok 4 rfl)) (nx_un (fun _ => rfl)))))
  (e_Tok2
  (e_Lok (ps_bipush_20 (x_dk dn_10_0_0_ok 5 rfl)))
  (e_Lok (e_st (I := eI) (er_lshl (x_dk dn_10_0_0_ok 6 rfl)) nx_shL)))))
  (e_Tok2
  (e_Tok2
  (e_Tok2
  (e_Lok (e_st (I := eI) (er_lstore_n (i := 1) (x_dk dn_10_0_0_ok 7 rfl) (by decide +kernel)) nx_stor))
  (e_Lok (ld_aload_n_0 (x_dk dn_10_0_0_ok 8 rfl))))
  (e_Tok2
  (e_Lok (lk_0_21g ho_10 (x_dk dn_10_0_0_ok 9 rfl)))
  (e_Lok (ps_iconst_0 (x_dk dn_10_0_0_ok 10 rfl)))))
  (e_Tok2
  (e_Tok2
  (e_Lok (sm_iaload (x_dk dn_10_0_0_ok 11 rfl)))
  (e_Lok (e_st (I := eI) (er_i2l (x_dk dn_10_0_0_ok 12 rfl)) (nx_un (fun _ => rfl)))))
  (e_Tok2
  (e_Lok (ps_bipush_20 (x_dk dn_10_0_0_ok 13 rfl)))
  (e_Lok (e_st (I := eI) (er_lshl (x_dk dn_10_0_0_ok 14 rfl)) nx_shL))))))
  (e_Tok2
  (e_Tok2
  (e_Tok2
  (e_Lok (e_st (I := eI) (er_lstore_n (i := 3) (x_dk dn_10_0_0_ok 15 rfl) (by decide +kernel)) nx_stor))
  (e_Tok2
  (e_Lok (ld_aload_n_0 (x_dk dn_10_0_0_ok 16 rfl)))
  (e_Lok (lk_0_48g ho_10 (x_dk dn_10_0_0_ok 17 rfl)))))
  (e_Tok2
  (e_Tok2
  (e_Lok (e_st (I := eI) (er_istore (i := 5) (x_dk dn_10_0_0_ok 18 rfl) (by decide +kernel)) nx_stor))
  (e_Lok (ps_iconst_0 (x_dk dn_10_0_0_ok 19 rfl))))
  (e_Tok2
  (e_Lok (e_st (I := eI) (er_istore (i := 6) (x_dk dn_10_0_0_ok 20 rfl) (by decide +kernel)) nx_stor))
  (e_Lok (ld_iload_6 (x_dk dn_10_0_0_ok 21 rfl))))))
  (e_Tok2
  (e_Tok2
  (e_Tok2
  (e_Lok (ld_aload_n_0 (x_dk dn_10_0_0_ok 22 rfl)))
  (e_Lok (lk_0_44g ho_10 (x_dk dn_10_0_0_ok 23 rfl))))
  (e_Tok2
  (e_Lok (e_st (I := eI) (er_icmpge (off := 129) (tg := 166) (x_dk dn_10_0_0_ok 24 rfl) (by decide)) nx_if2))
  (e_Lok (ld_aload_n_0 (x_dk dn_10_0_1_ok 0 rfl)))))
  (e_Tok2
  (e_Tok2
  (e_Lok (lk_0_11g ho_10 (x_dk dn_10_0_1_ok 1 rfl)))
  (e_Lok (ld_iload_6 (x_dk dn_10_0_1_ok 2 rfl))))
  (e_Tok2
  (e_Lok (e_st (I := eI) (er_aaload (x_dk dn_10_0_1_ok 3 rfl)) nx_aald))
  (e_Lok (lk_0_75g ho_10 (x_dk dn_10_0_1_ok 4 rfl))))))))
def te_10_30 : Nat → eE := (e_T 78 (e_T 62 (e_T 53 (e_T 50 (e_L 50 (0, ei_stor 7 0 52, 0, 0)) (e_T 52 (e_L 52 (0, ei_load 0 2 53, 0, 0)) (e_L 53 (0, ei_getf eft elay 0 0 56, 0, 0)))) (e_T 58 (e_T 56 (e_L 56 (0, ei_load 6 0 58, 0, 0)) (e_L 58 (0, ei_aald elay 59, 0, 0))) (e_T 59 (e_L 59 (0, ei_getf eft elay 5 0 62, 0, 0)) (e_L 62 (0, ei_if1 1 83 65, 0, 0))))) (e_T 71 (e_T 67 (e_T 65 (e_L 65 (0, ei_load 5 0 67, 0, 0)) (e_L 67 (0, ei_load 0 2 68, 0, 0))) (e_T 68 (e_L 68 (0, ei_getf eft elay 0 0 71, 0, 0)) (e_L 71 (0, ei_load 6 0 73, 0, 0)))) (e_T 74 (e_T 73 (e_L 73 (0, ei_aald elay 74, 0, 0)) (e_L 74 (0, ei_getf eft elay 5 7 77, 0, 0))) (e_T 77 (e_L 77 (0, ei_bin eF_add 78, 0, 0)) (e_L 78 (0, ei_stor 5 0 80, 0, 0)))))) (e_T 95 (e_T 86 (e_T 83 (e_T 80 (e_L 80 (0, ei_goto 98, 0, 0)) (e_L 83 (0, ei_load 7 0 85, 0, 0))) (e_T 85 (e_L 85 (0, ei_load 0 2 86, 0, 0)) (e_L 86 (0, ei_getf eft elay 0 0 89, 0, 0)))) (e_T 91 (e_T 89 (e_L 89 (0, ei_load 6 0 91, 0, 0)) (e_L 91 (0, ei_aald elay 92, 0, 0))) (e_T 92 (e_L 92 (0, ei_getf eft elay 5 7 95, 0, 0)) (e_L 95 (0, ei_bin eF_add 96, 0, 0))))) (e_T 101 (e_T 98 (e_T 96 (e_L 96 (0, ei_stor 7 0 98, 0, 0)) (e_L 98 (0, ei_load 1 1 99, 0, 0))) (e_T 99 (e_L 99 (0, ei_load 7 0 101, 0, 0)) (e_L 101 (0, ei_un (fun x => (4, x)) 102, 0, 0)))) (e_T 104 (e_T 102 (e_L 102 (0, ei_load 5 0 104, 0, 0)) (e_L 104 (2, e_nof, 250, 1))) (e_T 107 (e_L 107 (0, ei_un (fun x => (4, x)) 108, 0, 0)) (e_L 108 (0, ei_binL eG_mul 109, 0, 0)))))))
set_option maxRecDepth 20000 in
set_option maxHeartbeats 4000000 in
theorem te_10_30_ok : ∀ pc, e_EOq eft cls elay eI n_10 pc (te_10_30 pc) :=
  (e_Tok2
  (e_Tok2
  (e_Tok2
  (e_Tok2
  (e_Lok (e_st (I := eI) (er_istore (i := 7) (x_dk dn_10_0_1_ok 5 rfl) (by decide +kernel)) nx_stor))
  (e_Tok2
  (e_Lok (ld_aload_n_0 (x_dk dn_10_0_1_ok 6 rfl)))
  (e_Lok (lk_0_11g ho_10 (x_dk dn_10_0_1_ok 7 rfl)))))
  (e_Tok2
  (e_Tok2
  (e_Lok (ld_iload_6 (x_dk dn_10_0_1_ok 8 rfl)))
  (e_Lok (e_st (I := eI) (er_aaload (x_dk dn_10_0_1_ok 9 rfl)) nx_aald)))
  (e_Tok2
  (e_Lok (lk_0_66g ho_10 (x_dk dn_10_0_1_ok 10 rfl)))
  (e_Lok (e_st (I := eI) (er_ifne (off := 21) (tg := 83) (x_dk dn_10_0_1_ok 11 rfl) (by decide)) nx_if1)))))
  (e_Tok2
  (e_Tok2
  (e_Tok2
  (e_Lok (ld_iload_5 (x_dk dn_10_0_1_ok 12 rfl)))
  (e_Lok (ld_aload_n_0 (x_dk dn_10_0_1_ok 13 rfl))))
  (e_Tok2
  (e_Lok (lk_0_11g ho_10 (x_dk dn_10_0_1_ok 14 rfl)))
  (e_Lok (ld_iload_6 (x_dk dn_10_0_1_ok 15 rfl)))))
  (e_Tok2
  (e_Tok2
  (e_Lok (e_st (I := eI) (er_aaload (x_dk dn_10_0_1_ok 16 rfl)) nx_aald))
  (e_Lok (lk_0_90g ho_10 (x_dk dn_10_0_1_ok 17 rfl))))
  (e_Tok2
  (e_Lok (sm_iadd (x_dk dn_10_0_1_ok 18 rfl)))
  (e_Lok (e_st (I := eI) (er_istore (i := 5) (x_dk dn_10_0_1_ok 19 rfl) (by decide +kernel)) nx_stor))))))
  (e_Tok2
  (e_Tok2
  (e_Tok2
  (e_Tok2
  (e_Lok (e_st (I := eI) (er_goto (off := 18) (tg := 98) (x_dk dn_10_0_1_ok 20 rfl) (by decide)) nx_goto))
  (e_Lok (ld_iload_7 (x_dk dn_10_0_1_ok 21 rfl))))
  (e_Tok2
  (e_Lok (ld_aload_n_0 (x_dk dn_10_0_1_ok 22 rfl)))
  (e_Lok (lk_0_11g ho_10 (x_dk dn_10_0_1_ok 23 rfl)))))
  (e_Tok2
  (e_Tok2
  (e_Lok (ld_iload_6 (x_dk dn_10_0_1_ok 24 rfl)))
  (e_Lok (e_st (I := eI) (er_aaload (x_dk dn_10_0_2_ok 0 rfl)) nx_aald)))
  (e_Tok2
  (e_Lok (lk_0_90g ho_10 (x_dk dn_10_0_2_ok 1 rfl)))
  (e_Lok (sm_iadd (x_dk dn_10_0_2_ok 2 rfl))))))
  (e_Tok2
  (e_Tok2
  (e_Tok2
  (e_Lok (e_st (I := eI) (er_istore (i := 7) (x_dk dn_10_0_2_ok 3 rfl) (by decide +kernel)) nx_stor))
  (e_Lok (ld_lload_n_1 (x_dk dn_10_0_2_ok 4 rfl))))
  (e_Tok2
  (e_Lok (ld_iload_7 (x_dk dn_10_0_2_ok 5 rfl)))
  (e_Lok (e_st (I := eI) (er_i2l (x_dk dn_10_0_2_ok 6 rfl)) (nx_un (fun _ => rfl))))))
  (e_Tok2
  (e_Tok2
  (e_Lok (ld_iload_5 (x_dk dn_10_0_2_ok 7 rfl)))
  (e_Lok (lk_0_117 ho_10 (x_dk dn_10_0_2_ok 8 rfl))))
  (e_Tok2
  (e_Lok (e_st (I := eI) (er_i2l (x_dk dn_10_0_2_ok 9 rfl)) (nx_un (fun _ => rfl))))
  (e_Lok (e_st (I := eI) (er_lmul (x_dk dn_10_0_2_ok 10 rfl)) (nx_binL bG_lmul))))))))
def te_10_61 : Nat → eE := (e_T 130 (e_T 117 (e_T 111 (e_T 109 (e_L 109 (0, ei_binL eG_add 110, 0, 0)) (e_T 110 (e_L 110 (0, ei_stor 1 1 111, 0, 0)) (e_L 111 (0, ei_load 3 1 112, 0, 0)))) (e_T 114 (e_T 112 (e_L 112 (0, ei_load 7 0 114, 0, 0)) (e_L 114 (0, ei_un (fun x => (4, x)) 115, 0, 0))) (e_T 115 (e_L 115 (0, ei_load 5 0 117, 0, 0)) (e_L 117 (2, e_nof, 249, 1))))) (e_T 123 (e_T 121 (e_T 120 (e_L 120 (0, ei_un (fun x => (4, x)) 121, 0, 0)) (e_L 121 (0, ei_binL eG_mul 122, 0, 0))) (e_T 122 (e_L 122 (0, ei_binL eG_add 123, 0, 0)) (e_L 123 (0, ei_stor 3 1 124, 0, 0)))) (e_T 125 (e_T 124 (e_L 124 (0, ei_load 0 2 125, 0, 0)) (e_L 125 (0, ei_getf eft elay 0 1 128, 0, 0))) (e_T 128 (e_L 128 (0, ei_load 6 0 130, 0, 0)) (e_L 130 (0, ei_push (0, 1) 131, 0, 0)))))) (e_T 141 (e_T 136 (e_T 132 (e_T 131 (e_L 131 (0, ei_bin eF_add 132, 0, 0)) (e_L 132 (0, ei_load 1 1 133, 0, 0))) (e_T 133 (e_L 133 (0, ei_push (4, 524288) 136, 0, 0)) (e_L 136 (0, ei_binL eG_add 137, 0, 0)))) (e_T 139 (e_T 137 (e_L 137 (0, ei_push (0, 20) 139, 0, 0)) (e_L 139 (0, ei_shL (eSh (fun x y => x >>> (y.toInt64 &&& 63))) 140, 0, 0))) (e_T 140 (e_L 140 (0, ei_unL (fun x => (0, e32 x)) 141, 0, 0)) (e_L 141 (0, ei_ast elay false 142, 0, 0))))) (e_T 148 (e_T 143 (e_T 142 (e_L 142 (0, ei_load 0 2 143, 0, 0)) (e_L 143 (0, ei_getf eft elay 0 2 146, 0, 0))) (e_T 146 (e_L 146 (0, ei_load 6 0 148, 0, 0)) (e_L 148 (0, ei_push (0, 1) 149, 0, 0)))) (e_T 150 (e_T 149 (e_L 149 (0, ei_bin eF_add 150, 0, 0)) (e_L 150 (0, ei_load 3 1 151, 0, 0))) (e_T 151 (e_L 151 (0, ei_push (4, 524288) 154, 0, 0)) (e_L 154 (0, ei_binL eG_add 155, 0, 0)))))))
set_option maxRecDepth 20000 in
set_option maxHeartbeats 4000000 in
theorem te_10_61_ok : ∀ pc, e_EOq eft cls elay eI n_10 pc (te_10_61 pc) :=
  (e_Tok2
  (e_Tok2
  (e_Tok2
  (e_Tok2
  (e_Lok (e_st (I := eI) (er_ladd (x_dk dn_10_0_2_ok 11 rfl)) (nx_binL bG_ladd)))
  (e_Tok2
  (e_Lok (e_st (I := eI) (er_lstore_n (i := 1) (x_dk dn_10_0_2_ok 12 rfl) (by decide +kernel)) nx_stor))
  (e_Lok (ld_lload_n_3 (x_dk dn_10_0_2_ok 13 rfl)))))
  (e_Tok2
  (e_Tok2
  (e_Lok (ld_iload_7 (x_dk dn_10_0_2_ok 14 rfl)))
  (e_Lok (e_st (I := eI) (er_i2l (x_dk dn_10_0_2_ok 15 rfl)) (nx_un (fun _ => rfl)))))
  (e_Tok2
  (e_Lok (ld_iload_5 (x_dk dn_10_0_2_ok 16 rfl)))
  (e_Lok (lk_0_121 ho_10 (x_dk dn_10_0_2_ok 17 rfl))))))
  (e_Tok2
  (e_Tok2
  (e_Tok2
  (e_Lok (e_st (I := eI) (er_i2l (x_dk dn_10_0_2_ok 18 rfl)) (nx_un (fun _ => rfl))))
  (e_Lok (e_st (I := eI) (er_lmul (x_dk dn_10_0_2_ok 19 rfl)) (nx_binL bG_lmul))))
  (e_Tok2
  (e_Lok (e_st (I := eI) (er_ladd (x_dk dn_10_0_2_ok 20 rfl)) (nx_binL bG_ladd)))
  (e_Lok (e_st (I := eI) (er_lstore_n (i := 3) (x_dk dn_10_0_2_ok 21 rfl) (by decide +kernel)) nx_stor))))
  (e_Tok2
  (e_Tok2
  (e_Lok (ld_aload_n_0 (x_dk dn_10_0_2_ok 22 rfl)))
  (e_Lok (lk_0_17g ho_10 (x_dk dn_10_0_2_ok 23 rfl))))
  (e_Tok2
  (e_Lok (ld_iload_6 (x_dk dn_10_0_2_ok 24 rfl)))
  (e_Lok (ps_iconst_1 (x_dk dn_10_0_3_ok 0 rfl)))))))
  (e_Tok2
  (e_Tok2
  (e_Tok2
  (e_Tok2
  (e_Lok (sm_iadd (x_dk dn_10_0_3_ok 1 rfl)))
  (e_Lok (ld_lload_n_1 (x_dk dn_10_0_3_ok 2 rfl))))
  (e_Tok2
  (e_Lok (e_st (I := eI) (er_ldc2 (ix := 124) (z := 524288) (v := 524288) (x_dk dn_10_0_3_ok 3 rfl) (in_t4 (List.mem_of_getElem? (i := 35) rfl) rfl) (by decide)) (nx_push (Or.inl rfl))))
  (e_Lok (e_st (I := eI) (er_ladd (x_dk dn_10_0_3_ok 4 rfl)) (nx_binL bG_ladd)))))
  (e_Tok2
  (e_Tok2
  (e_Lok (ps_bipush_20 (x_dk dn_10_0_3_ok 5 rfl)))
  (e_Lok (e_st (I := eI) (er_lshr (x_dk dn_10_0_3_ok 6 rfl)) nx_shL)))
  (e_Tok2
  (e_Lok (e_st (I := eI) (er_l2i (x_dk dn_10_0_3_ok 7 rfl)) (nx_unL (fun _ => rfl))))
  (e_Lok (sm_iastore (x_dk dn_10_0_3_ok 8 rfl))))))
  (e_Tok2
  (e_Tok2
  (e_Tok2
  (e_Lok (ld_aload_n_0 (x_dk dn_10_0_3_ok 9 rfl)))
  (e_Lok (lk_0_21g ho_10 (x_dk dn_10_0_3_ok 10 rfl))))
  (e_Tok2
  (e_Lok (ld_iload_6 (x_dk dn_10_0_3_ok 11 rfl)))
  (e_Lok (ps_iconst_1 (x_dk dn_10_0_3_ok 12 rfl)))))
  (e_Tok2
  (e_Tok2
  (e_Lok (sm_iadd (x_dk dn_10_0_3_ok 13 rfl)))
  (e_Lok (ld_lload_n_3 (x_dk dn_10_0_3_ok 14 rfl))))
  (e_Tok2
  (e_Lok (e_st (I := eI) (er_ldc2 (ix := 124) (z := 524288) (v := 524288) (x_dk dn_10_0_3_ok 15 rfl) (in_t4 (List.mem_of_getElem? (i := 35) rfl) rfl) (by decide)) (nx_push (Or.inl rfl))))
  (e_Lok (e_st (I := eI) (er_ladd (x_dk dn_10_0_3_ok 16 rfl)) (nx_binL bG_ladd))))))))
def te_10_92 : Nat → eE := (e_T 180 (e_T 166 (e_T 158 (e_T 155 (e_L 155 (0, ei_push (0, 20) 157, 0, 0)) (e_T 157 (e_L 157 (0, ei_shL (eSh (fun x y => x >>> (y.toInt64 &&& 63))) 158, 0, 0)) (e_L 158 (0, ei_unL (fun x => (0, e32 x)) 159, 0, 0)))) (e_T 160 (e_T 159 (e_L 159 (0, ei_ast elay false 160, 0, 0)) (e_L 160 (0, ei_inc 6 1 163, 0, 0))) (e_T 163 (e_L 163 (0, ei_goto 31, 0, 0)) (e_L 166 (0, ei_load 0 2 167, 0, 0))))) (e_T 174 (e_T 170 (e_T 167 (e_L 167 (0, ei_getf eft elay 0 1 170, 0, 0)) (e_L 170 (0, ei_load 0 2 171, 0, 0))) (e_T 171 (e_L 171 (0, ei_getf eft elay 0 8 174, 0, 0)) (e_L 174 (0, ei_push (0, 1) 175, 0, 0)))) (e_T 176 (e_T 175 (e_L 175 (0, ei_bin eF_add 176, 0, 0)) (e_L 176 (0, ei_load 0 2 177, 0, 0))) (e_T 177 (e_L 177 (0, ei_getf eft elay 0 1 180, 0, 0)) (e_L 180 (0, ei_load 0 2 181, 0, 0)))))) (e_T 194 (e_T 186 (e_T 184 (e_T 181 (e_L 181 (0, ei_getf eft elay 0 8 184, 0, 0)) (e_L 184 (0, ei_ald elay false 185, 0, 0))) (e_T 185 (e_L 185 (0, ei_ast elay false 186, 0, 0)) (e_L 186 (0, ei_load 0 2 187, 0, 0)))) (e_T 190 (e_T 187 (e_L 187 (0, ei_getf eft elay 0 2 190, 0, 0)) (e_L 190 (0, ei_load 0 2 191, 0, 0))) (e_T 191 (e_L 191 (0, ei_getf eft elay 0 8 194, 0, 0)) (e_L 194 (0, ei_push (0, 1) 195, 0, 0))))) (e_T 200 (e_T 196 (e_T 195 (e_L 195 (0, ei_bin eF_add 196, 0, 0)) (e_L 196 (0, ei_load 0 2 197, 0, 0))) (e_T 197 (e_L 197 (0, ei_getf eft elay 0 2 200, 0, 0)) (e_L 200 (0, ei_load 0 2 201, 0, 0)))) (e_T 204 (e_T 201 (e_L 201 (0, ei_getf eft elay 0 8 204, 0, 0)) (e_L 204 (0, ei_ald elay false 205, 0, 0))) (e_T 205 (e_L 205 (0, ei_ast elay false 206, 0, 0)) (e_L 206 (1, e_nof, 0, 0)))))))
set_option maxRecDepth 20000 in
set_option maxHeartbeats 4000000 in
theorem te_10_92_ok : ∀ pc, e_EOq eft cls elay eI n_10 pc (te_10_92 pc) :=
  (e_Tok2
  (e_Tok2
  (e_Tok2
  (e_Tok2
  (e_Lok (ps_bipush_20 (x_dk dn_10_0_3_ok 17 rfl)))
  (e_Tok2
  (e_Lok (e_st (I := eI) (er_lshr (x_dk dn_10_0_3_ok 18 rfl)) nx_shL))
  (e_Lok (e_st (I := eI) (er_l2i (x_dk dn_10_0_3_ok 19 rfl)) (nx_unL (fun _ => rfl))))))
  (e_Tok2
  (e_Tok2
  (e_Lok (sm_iastore (x_dk dn_10_0_3_ok 20 rfl)))
  (e_Lok (e_st (I := eI) (er_iinc (i := 6) (n := 1) (x_dk dn_10_0_3_ok 21 rfl) (by decide +kernel) (by decide)) nx_inc)))
  (e_Tok2
  (e_Lok (e_st (I := eI) (er_goto (off := (-132)) (tg := 31) (x_dk dn_10_0_3_ok 22 rfl) (by decide)) nx_goto))
  (e_Lok (ld_aload_n_0 (x_dk dn_10_0_3_ok 23 rfl))))))
  (e_Tok2
  (e_Tok2
  (e_Tok2
  (e_Lok (lk_0_17g ho_10 (x_dk dn_10_0_3_ok 24 rfl)))
  (e_Lok (ld_aload_n_0 (x_dk dn_10_1_0_ok 0 rfl))))
  (e_Tok2
  (e_Lok (lk_0_44g ho_10 (x_dk dn_10_1_0_ok 1 rfl)))
  (e_Lok (ps_iconst_1 (x_dk dn_10_1_0_ok 2 rfl)))))
  (e_Tok2
  (e_Tok2
  (e_Lok (sm_iadd (x_dk dn_10_1_0_ok 3 rfl)))
  (e_Lok (ld_aload_n_0 (x_dk dn_10_1_0_ok 4 rfl))))
  (e_Tok2
  (e_Lok (lk_0_17g ho_10 (x_dk dn_10_1_0_ok 5 rfl)))
  (e_Lok (ld_aload_n_0 (x_dk dn_10_1_0_ok 6 rfl)))))))
  (e_Tok2
  (e_Tok2
  (e_Tok2
  (e_Tok2
  (e_Lok (lk_0_44g ho_10 (x_dk dn_10_1_0_ok 7 rfl)))
  (e_Lok (sm_iaload (x_dk dn_10_1_0_ok 8 rfl))))
  (e_Tok2
  (e_Lok (sm_iastore (x_dk dn_10_1_0_ok 9 rfl)))
  (e_Lok (ld_aload_n_0 (x_dk dn_10_1_0_ok 10 rfl)))))
  (e_Tok2
  (e_Tok2
  (e_Lok (lk_0_21g ho_10 (x_dk dn_10_1_0_ok 11 rfl)))
  (e_Lok (ld_aload_n_0 (x_dk dn_10_1_0_ok 12 rfl))))
  (e_Tok2
  (e_Lok (lk_0_44g ho_10 (x_dk dn_10_1_0_ok 13 rfl)))
  (e_Lok (ps_iconst_1 (x_dk dn_10_1_0_ok 14 rfl))))))
  (e_Tok2
  (e_Tok2
  (e_Tok2
  (e_Lok (sm_iadd (x_dk dn_10_1_0_ok 15 rfl)))
  (e_Lok (ld_aload_n_0 (x_dk dn_10_1_0_ok 16 rfl))))
  (e_Tok2
  (e_Lok (lk_0_21g ho_10 (x_dk dn_10_1_0_ok 17 rfl)))
  (e_Lok (ld_aload_n_0 (x_dk dn_10_1_0_ok 18 rfl)))))
  (e_Tok2
  (e_Tok2
  (e_Lok (lk_0_44g ho_10 (x_dk dn_10_1_0_ok 19 rfl)))
  (e_Lok (sm_iaload (x_dk dn_10_1_0_ok 20 rfl))))
  (e_Tok2
  (e_Lok (sm_iastore (x_dk dn_10_1_0_ok 21 rfl)))
  (e_Lok (e_rt (I := eI) (k := 0) ⟨(x_dk dn_10_1_0_ok 22 rfl), rfl⟩)))))))
def te_10 : Nat → eE := (e_T 108 (e_T 47 te_10_0 te_10_30) (e_T 154 te_10_61 te_10_92))
theorem te_10_ok : ∀ pc, e_EOq eft cls elay eI n_10 pc (te_10 pc) := (e_Tok2 ((e_Tok2 (te_10_0_ok) (te_10_30_ok))) ((e_Tok2 (te_10_61_ok) (te_10_92_ok))))
theorem ho_11 : (xm_y n_11).cls = "RobotCellHouse$Arm" := rfl
def dn_11_0_0 : List (Nat × Instr × Nat) := [(0, .iconst 0, 1), (1, .istore_n 1, 1), (2, .iload_n 1, 1), (3, .aload_n 0, 1), (4, .getfield 44, 3), (7, .if_icmp .gt 33, 3), (10, .aload_n 0, 1), (11, .getfield 24, 3), (14, .iload_n 1, 1), (15, .aload_n 0, 1), (16, .getfield 17, 3), (19, .iload_n 1, 1), (20, .iaload, 1), (21, .iastore, 1), (22, .aload_n 0, 1), (23, .getfield 27, 3), (26, .iload_n 1, 1), (27, .aload_n 0, 1), (28, .getfield 21, 3), (31, .iload_n 1, 1), (32, .iaload, 1), (33, .iastore, 1), (34, .iinc 1 1, 3), (37, .goto (-35), 3), (40, .return_, 1)]
set_option maxRecDepth 20000 in
theorem dn_11_0_0_ok : dn_11_0_0.all (fun q => decide (decode (xm_b n_11) q.1 = .ok (q.2.1, q.2.2))) = true := xa_g_ok (by decide +kernel)
def te_11_0 : Nat → eE := (e_T 19 (e_T 7 (e_T 2 (e_T 0 (e_L 0 (0, ei_push (0, 0) 1, 0, 0)) (e_T 1 (e_L 1 (0, ei_stor 1 0 2, 0, 0)) (e_L 2 (0, ei_load 1 0 3, 0, 0)))) (e_T 3 (e_L 3 (0, ei_load 0 2 4, 0, 0)) (e_T 4 (e_L 4 (0, ei_getf eft elay 0 8 7, 0, 0)) (e_L 7 (0, ei_if2 4 40 10, 0, 0))))) (e_T 14 (e_T 10 (e_L 10 (0, ei_load 0 2 11, 0, 0)) (e_T 11 (e_L 11 (0, ei_getf eft elay 0 3 14, 0, 0)) (e_L 14 (0, ei_load 1 0 15, 0, 0)))) (e_T 15 (e_L 15 (0, ei_load 0 2 16, 0, 0)) (e_T 16 (e_L 16 (0, ei_getf eft elay 0 1 19, 0, 0)) (e_L 19 (0, ei_load 1 0 20, 0, 0)))))) (e_T 27 (e_T 22 (e_T 20 (e_L 20 (0, ei_ald elay false 21, 0, 0)) (e_T 21 (e_L 21 (0, ei_ast elay false 22, 0, 0)) (e_L 22 (0, ei_load 0 2 23, 0, 0)))) (e_T 23 (e_L 23 (0, ei_getf eft elay 0 4 26, 0, 0)) (e_T 26 (e_L 26 (0, ei_load 1 0 27, 0, 0)) (e_L 27 (0, ei_load 0 2 28, 0, 0))))) (e_T 32 (e_T 28 (e_L 28 (0, ei_getf eft elay 0 2 31, 0, 0)) (e_T 31 (e_L 31 (0, ei_load 1 0 32, 0, 0)) (e_L 32 (0, ei_ald elay false 33, 0, 0)))) (e_T 34 (e_T 33 (e_L 33 (0, ei_ast elay false 34, 0, 0)) (e_L 34 (0, ei_inc 1 1 37, 0, 0))) (e_T 37 (e_L 37 (0, ei_goto 2, 0, 0)) (e_L 40 (1, e_nof, 0, 0)))))))
set_option maxRecDepth 20000 in
set_option maxHeartbeats 4000000 in
theorem te_11_0_ok : ∀ pc, e_EOq eft cls elay eI n_11 pc (te_11_0 pc) :=
  (e_Tok2
  (e_Tok2
  (e_Tok2
  (e_Tok2
  (e_Lok (ps_iconst_0 (x_dk dn_11_0_0_ok 0 rfl)))
  (e_Tok2
  (e_Lok (e_st (I := eI) (er_istore_n (i := 1) (x_dk dn_11_0_0_ok 1 rfl) (by decide +kernel)) nx_stor))
  (e_Lok (ld_iload_n_1 (x_dk dn_11_0_0_ok 2 rfl)))))
  (e_Tok2
  (e_Lok (ld_aload_n_0 (x_dk dn_11_0_0_ok 3 rfl)))
  (e_Tok2
  (e_Lok (lk_0_44g ho_11 (x_dk dn_11_0_0_ok 4 rfl)))
  (e_Lok (e_st (I := eI) (er_icmpgt (off := 33) (tg := 40) (x_dk dn_11_0_0_ok 5 rfl) (by decide)) nx_if2)))))
  (e_Tok2
  (e_Tok2
  (e_Lok (ld_aload_n_0 (x_dk dn_11_0_0_ok 6 rfl)))
  (e_Tok2
  (e_Lok (lk_0_24g ho_11 (x_dk dn_11_0_0_ok 7 rfl)))
  (e_Lok (ld_iload_n_1 (x_dk dn_11_0_0_ok 8 rfl)))))
  (e_Tok2
  (e_Lok (ld_aload_n_0 (x_dk dn_11_0_0_ok 9 rfl)))
  (e_Tok2
  (e_Lok (lk_0_17g ho_11 (x_dk dn_11_0_0_ok 10 rfl)))
  (e_Lok (ld_iload_n_1 (x_dk dn_11_0_0_ok 11 rfl)))))))
  (e_Tok2
  (e_Tok2
  (e_Tok2
  (e_Lok (sm_iaload (x_dk dn_11_0_0_ok 12 rfl)))
  (e_Tok2
  (e_Lok (sm_iastore (x_dk dn_11_0_0_ok 13 rfl)))
  (e_Lok (ld_aload_n_0 (x_dk dn_11_0_0_ok 14 rfl)))))
  (e_Tok2
  (e_Lok (lk_0_27g ho_11 (x_dk dn_11_0_0_ok 15 rfl)))
  (e_Tok2
  (e_Lok (ld_iload_n_1 (x_dk dn_11_0_0_ok 16 rfl)))
  (e_Lok (ld_aload_n_0 (x_dk dn_11_0_0_ok 17 rfl))))))
  (e_Tok2
  (e_Tok2
  (e_Lok (lk_0_21g ho_11 (x_dk dn_11_0_0_ok 18 rfl)))
  (e_Tok2
  (e_Lok (ld_iload_n_1 (x_dk dn_11_0_0_ok 19 rfl)))
  (e_Lok (sm_iaload (x_dk dn_11_0_0_ok 20 rfl)))))
  (e_Tok2
  (e_Tok2
  (e_Lok (sm_iastore (x_dk dn_11_0_0_ok 21 rfl)))
  (e_Lok (e_st (I := eI) (er_iinc (i := 1) (n := 1) (x_dk dn_11_0_0_ok 22 rfl) (by decide +kernel) (by decide)) nx_inc)))
  (e_Tok2
  (e_Lok (e_st (I := eI) (er_goto (off := (-35)) (tg := 2) (x_dk dn_11_0_0_ok 23 rfl) (by decide)) nx_goto))
  (e_Lok (e_rt (I := eI) (k := 0) ⟨(x_dk dn_11_0_0_ok 24 rfl), rfl⟩)))))))
def te_11 : Nat → eE := te_11_0
theorem te_11_ok : ∀ pc, e_EOq eft cls elay eI n_11 pc (te_11 pc) := te_11_0_ok
theorem ho_12 : (xm_y n_12).cls = "RobotCellHouse$Arm" := rfl
def dn_12_0_0 : List (Nat × Instr × Nat) := [(0, .iconst 0, 1), (1, .istore_n 1, 1), (2, .iload_n 1, 1), (3, .aload_n 0, 1), (4, .getfield 44, 3), (7, .if_icmp .ge 27, 3), (10, .aload_n 0, 1), (11, .getfield 11, 3), (14, .iload_n 1, 1), (15, .aaload, 1), (16, .aload_n 0, 1), (17, .getfield 11, 3), (20, .iload_n 1, 1), (21, .aaload, 1), (22, .getfield 126, 3), (25, .putfield 129, 3), (28, .iinc 1 1, 3), (31, .goto (-29), 3), (34, .return_, 1)]
set_option maxRecDepth 20000 in
theorem dn_12_0_0_ok : dn_12_0_0.all (fun q => decide (decode (xm_b n_12) q.1 = .ok (q.2.1, q.2.2))) = true := xa_g_ok (by decide +kernel)
def te_12_0 : Nat → eE := (e_T 14 (e_T 3 (e_T 1 (e_T 0 (e_L 0 (0, ei_push (0, 0) 1, 0, 0)) (e_L 1 (0, ei_stor 1 0 2, 0, 0))) (e_T 2 (e_L 2 (0, ei_load 1 0 3, 0, 0)) (e_L 3 (0, ei_load 0 2 4, 0, 0)))) (e_T 7 (e_T 4 (e_L 4 (0, ei_getf eft elay 0 8 7, 0, 0)) (e_L 7 (0, ei_if2 3 34 10, 0, 0))) (e_T 10 (e_L 10 (0, ei_load 0 2 11, 0, 0)) (e_T 11 (e_L 11 (0, ei_getf eft elay 0 0 14, 0, 0)) (e_L 14 (0, ei_load 1 0 15, 0, 0)))))) (e_T 21 (e_T 16 (e_T 15 (e_L 15 (0, ei_aald elay 16, 0, 0)) (e_L 16 (0, ei_load 0 2 17, 0, 0))) (e_T 17 (e_L 17 (0, ei_getf eft elay 0 0 20, 0, 0)) (e_T 20 (e_L 20 (0, ei_load 1 0 21, 0, 0)) (e_L 21 (0, ei_aald elay 22, 0, 0))))) (e_T 25 (e_T 22 (e_L 22 (0, ei_getf eft elay 5 8 25, 0, 0)) (e_L 25 (0, ei_putf eft elay 5 11 0 28, 0, 0))) (e_T 28 (e_L 28 (0, ei_inc 1 1 31, 0, 0)) (e_T 31 (e_L 31 (0, ei_goto 2, 0, 0)) (e_L 34 (1, e_nof, 0, 0)))))))
set_option maxRecDepth 20000 in
set_option maxHeartbeats 4000000 in
theorem te_12_0_ok : ∀ pc, e_EOq eft cls elay eI n_12 pc (te_12_0 pc) :=
  (e_Tok2
  (e_Tok2
  (e_Tok2
  (e_Tok2
  (e_Lok (ps_iconst_0 (x_dk dn_12_0_0_ok 0 rfl)))
  (e_Lok (e_st (I := eI) (er_istore_n (i := 1) (x_dk dn_12_0_0_ok 1 rfl) (by decide +kernel)) nx_stor)))
  (e_Tok2
  (e_Lok (ld_iload_n_1 (x_dk dn_12_0_0_ok 2 rfl)))
  (e_Lok (ld_aload_n_0 (x_dk dn_12_0_0_ok 3 rfl)))))
  (e_Tok2
  (e_Tok2
  (e_Lok (lk_0_44g ho_12 (x_dk dn_12_0_0_ok 4 rfl)))
  (e_Lok (e_st (I := eI) (er_icmpge (off := 27) (tg := 34) (x_dk dn_12_0_0_ok 5 rfl) (by decide)) nx_if2)))
  (e_Tok2
  (e_Lok (ld_aload_n_0 (x_dk dn_12_0_0_ok 6 rfl)))
  (e_Tok2
  (e_Lok (lk_0_11g ho_12 (x_dk dn_12_0_0_ok 7 rfl)))
  (e_Lok (ld_iload_n_1 (x_dk dn_12_0_0_ok 8 rfl)))))))
  (e_Tok2
  (e_Tok2
  (e_Tok2
  (e_Lok (e_st (I := eI) (er_aaload (x_dk dn_12_0_0_ok 9 rfl)) nx_aald))
  (e_Lok (ld_aload_n_0 (x_dk dn_12_0_0_ok 10 rfl))))
  (e_Tok2
  (e_Lok (lk_0_11g ho_12 (x_dk dn_12_0_0_ok 11 rfl)))
  (e_Tok2
  (e_Lok (ld_iload_n_1 (x_dk dn_12_0_0_ok 12 rfl)))
  (e_Lok (e_st (I := eI) (er_aaload (x_dk dn_12_0_0_ok 13 rfl)) nx_aald)))))
  (e_Tok2
  (e_Tok2
  (e_Lok (lk_0_126g ho_12 (x_dk dn_12_0_0_ok 14 rfl)))
  (e_Lok (lk_0_129p ho_12 (x_dk dn_12_0_0_ok 15 rfl))))
  (e_Tok2
  (e_Lok (e_st (I := eI) (er_iinc (i := 1) (n := 1) (x_dk dn_12_0_0_ok 16 rfl) (by decide +kernel) (by decide)) nx_inc))
  (e_Tok2
  (e_Lok (e_st (I := eI) (er_goto (off := (-29)) (tg := 2) (x_dk dn_12_0_0_ok 17 rfl) (by decide)) nx_goto))
  (e_Lok (e_rt (I := eI) (k := 0) ⟨(x_dk dn_12_0_0_ok 18 rfl), rfl⟩)))))))
def te_12 : Nat → eE := te_12_0
theorem te_12_ok : ∀ pc, e_EOq eft cls elay eI n_12 pc (te_12 pc) := te_12_0_ok
theorem ho_13 : (xm_y n_13).cls = "RobotCellHouse$Arm" := rfl
def dn_13_0_0 : List (Nat × Instr × Nat) := [(0, .aload_n 0, 1), (1, .iconst 1, 1), (2, .putfield 132, 3), (5, .aload_n 0, 1), (6, .iconst 0, 1), (7, .putfield 135, 3), (10, .aload_n 0, 1), (11, .iload_n 1, 1), (12, .putfield 138, 3), (15, .iconst 0, 1), (16, .istore_n 2, 1), (17, .iload_n 2, 1), (18, .aload_n 0, 1), (19, .getfield 44, 3), (22, .if_icmp .ge 27, 3), (25, .aload_n 0, 1), (26, .getfield 11, 3), (29, .iload_n 2, 1), (30, .aaload, 1), (31, .aload_n 0, 1), (32, .getfield 11, 3), (35, .iload_n 2, 1), (36, .aaload, 1), (37, .getfield 90, 3), (40, .putfield 141, 3)]
set_option maxRecDepth 20000 in
theorem dn_13_0_0_ok : dn_13_0_0.all (fun q => decide (decode (xm_b n_13) q.1 = .ok (q.2.1, q.2.2))) = true := xa_g_ok (by decide +kernel)
def dn_13_0_1 : List (Nat × Instr × Nat) := [(43, .iinc 2 1, 3), (46, .goto (-29), 3), (49, .return_, 1)]
set_option maxRecDepth 20000 in
theorem dn_13_0_1_ok : dn_13_0_1.all (fun q => decide (decode (xm_b n_13) q.1 = .ok (q.2.1, q.2.2))) = true := xa_g_ok (by decide +kernel)
def te_13_0 : Nat → eE := (e_T 19 (e_T 10 (e_T 2 (e_T 0 (e_L 0 (0, ei_load 0 2 1, 0, 0)) (e_T 1 (e_L 1 (0, ei_push (0, 1) 2, 0, 0)) (e_L 2 (0, ei_putf eft elay 0 11 0 5, 0, 0)))) (e_T 6 (e_T 5 (e_L 5 (0, ei_load 0 2 6, 0, 0)) (e_L 6 (0, ei_push (0, 0) 7, 0, 0))) (e_T 7 (e_L 7 (0, ei_putf eft elay 0 12 0 10, 0, 0)) (e_L 10 (0, ei_load 0 2 11, 0, 0))))) (e_T 15 (e_T 11 (e_L 11 (0, ei_load 1 0 12, 0, 0)) (e_T 12 (e_L 12 (0, ei_putf eft elay 0 13 0 15, 0, 0)) (e_L 15 (0, ei_push (0, 0) 16, 0, 0)))) (e_T 17 (e_T 16 (e_L 16 (0, ei_stor 2 0 17, 0, 0)) (e_L 17 (0, ei_load 2 0 18, 0, 0))) (e_T 18 (e_L 18 (0, ei_load 0 2 19, 0, 0)) (e_L 19 (0, ei_getf eft elay 0 8 22, 0, 0)))))) (e_T 32 (e_T 26 (e_T 22 (e_L 22 (0, ei_if2 3 49 25, 0, 0)) (e_T 25 (e_L 25 (0, ei_load 0 2 26, 0, 0)) (e_L 26 (0, ei_getf eft elay 0 0 29, 0, 0)))) (e_T 30 (e_T 29 (e_L 29 (0, ei_load 2 0 30, 0, 0)) (e_L 30 (0, ei_aald elay 31, 0, 0))) (e_T 31 (e_L 31 (0, ei_load 0 2 32, 0, 0)) (e_L 32 (0, ei_getf eft elay 0 0 35, 0, 0))))) (e_T 37 (e_T 35 (e_L 35 (0, ei_load 2 0 36, 0, 0)) (e_T 36 (e_L 36 (0, ei_aald elay 37, 0, 0)) (e_L 37 (0, ei_getf eft elay 5 7 40, 0, 0)))) (e_T 43 (e_T 40 (e_L 40 (0, ei_putf eft elay 5 10 0 43, 0, 0)) (e_L 43 (0, ei_inc 2 1 46, 0, 0))) (e_T 46 (e_L 46 (0, ei_goto 17, 0, 0)) (e_L 49 (1, e_nof, 0, 0)))))))
set_option maxRecDepth 20000 in
set_option maxHeartbeats 4000000 in
theorem te_13_0_ok : ∀ pc, e_EOq eft cls elay eI n_13 pc (te_13_0 pc) :=
  (e_Tok2
  (e_Tok2
  (e_Tok2
  (e_Tok2
  (e_Lok (ld_aload_n_0 (x_dk dn_13_0_0_ok 0 rfl)))
  (e_Tok2
  (e_Lok (ps_iconst_1 (x_dk dn_13_0_0_ok 1 rfl)))
  (e_Lok (lk_0_132p ho_13 (x_dk dn_13_0_0_ok 2 rfl)))))
  (e_Tok2
  (e_Tok2
  (e_Lok (ld_aload_n_0 (x_dk dn_13_0_0_ok 3 rfl)))
  (e_Lok (ps_iconst_0 (x_dk dn_13_0_0_ok 4 rfl))))
  (e_Tok2
  (e_Lok (lk_0_135p ho_13 (x_dk dn_13_0_0_ok 5 rfl)))
  (e_Lok (ld_aload_n_0 (x_dk dn_13_0_0_ok 6 rfl))))))
  (e_Tok2
  (e_Tok2
  (e_Lok (ld_iload_n_1 (x_dk dn_13_0_0_ok 7 rfl)))
  (e_Tok2
  (e_Lok (lk_0_138p ho_13 (x_dk dn_13_0_0_ok 8 rfl)))
  (e_Lok (ps_iconst_0 (x_dk dn_13_0_0_ok 9 rfl)))))
  (e_Tok2
  (e_Tok2
  (e_Lok (e_st (I := eI) (er_istore_n (i := 2) (x_dk dn_13_0_0_ok 10 rfl) (by decide +kernel)) nx_stor))
  (e_Lok (ld_iload_n_2 (x_dk dn_13_0_0_ok 11 rfl))))
  (e_Tok2
  (e_Lok (ld_aload_n_0 (x_dk dn_13_0_0_ok 12 rfl)))
  (e_Lok (lk_0_44g ho_13 (x_dk dn_13_0_0_ok 13 rfl)))))))
  (e_Tok2
  (e_Tok2
  (e_Tok2
  (e_Lok (e_st (I := eI) (er_icmpge (off := 27) (tg := 49) (x_dk dn_13_0_0_ok 14 rfl) (by decide)) nx_if2))
  (e_Tok2
  (e_Lok (ld_aload_n_0 (x_dk dn_13_0_0_ok 15 rfl)))
  (e_Lok (lk_0_11g ho_13 (x_dk dn_13_0_0_ok 16 rfl)))))
  (e_Tok2
  (e_Tok2
  (e_Lok (ld_iload_n_2 (x_dk dn_13_0_0_ok 17 rfl)))
  (e_Lok (e_st (I := eI) (er_aaload (x_dk dn_13_0_0_ok 18 rfl)) nx_aald)))
  (e_Tok2
  (e_Lok (ld_aload_n_0 (x_dk dn_13_0_0_ok 19 rfl)))
  (e_Lok (lk_0_11g ho_13 (x_dk dn_13_0_0_ok 20 rfl))))))
  (e_Tok2
  (e_Tok2
  (e_Lok (ld_iload_n_2 (x_dk dn_13_0_0_ok 21 rfl)))
  (e_Tok2
  (e_Lok (e_st (I := eI) (er_aaload (x_dk dn_13_0_0_ok 22 rfl)) nx_aald))
  (e_Lok (lk_0_90g ho_13 (x_dk dn_13_0_0_ok 23 rfl)))))
  (e_Tok2
  (e_Tok2
  (e_Lok (lk_0_141p ho_13 (x_dk dn_13_0_0_ok 24 rfl)))
  (e_Lok (e_st (I := eI) (er_iinc (i := 2) (n := 1) (x_dk dn_13_0_1_ok 0 rfl) (by decide +kernel) (by decide)) nx_inc)))
  (e_Tok2
  (e_Lok (e_st (I := eI) (er_goto (off := (-29)) (tg := 17) (x_dk dn_13_0_1_ok 1 rfl) (by decide)) nx_goto))
  (e_Lok (e_rt (I := eI) (k := 0) ⟨(x_dk dn_13_0_1_ok 2 rfl), rfl⟩)))))))
def te_13 : Nat → eE := te_13_0
theorem te_13_ok : ∀ pc, e_EOq eft cls elay eI n_13 pc (te_13 pc) := te_13_0_ok
theorem ho_14 : (xm_y n_14).cls = "RobotCellHouse$Arm" := rfl
def dn_14_0_0 : List (Nat × Instr × Nat) := [(0, .iconst 0, 1), (1, .istore_n 1, 1), (2, .aload_n 0, 1), (3, .dup, 1), (4, .getfield 135, 3), (7, .iconst 1, 1), (8, .iadd, 1), (9, .putfield 135, 3), (12, .iconst 0, 1), (13, .istore_n 2, 1), (14, .iload_n 2, 1), (15, .aload_n 0, 1), (16, .getfield 44, 3), (19, .if_icmp .ge 69, 3), (22, .aload_n 0, 1), (23, .getfield 11, 3), (26, .iload_n 2, 1), (27, .aaload, 1), (28, .astore_n 3, 1), (29, .aload_n 3, 1), (30, .aload_n 0, 1), (31, .getfield 132, 3), (34, .iconst 2, 1), (35, .if_icmp .ne 10, 3), (38, .aload_n 3, 1)]
set_option maxRecDepth 20000 in
theorem dn_14_0_0_ok : dn_14_0_0.all (fun q => decide (decode (xm_b n_14) q.1 = .ok (q.2.1, q.2.2))) = true := xa_g_ok (by decide +kernel)
def dn_14_0_1 : List (Nat × Instr × Nat) := [(39, .invokevirtual 144, 3), (42, .goto 7, 3), (45, .aload_n 3, 1), (46, .invokevirtual 148, 3), (49, .putfield 126, 3), (52, .aload_n 3, 1), (53, .dup, 1), (54, .getfield 90, 3), (57, .aload_n 3, 1), (58, .getfield 126, 3), (61, .iadd, 1), (62, .putfield 90, 3), (65, .iload_n 1, 1), (66, .ifCond .ne 10, 3), (69, .aload_n 3, 1), (70, .getfield 126, 3), (73, .ifCond .eq 7, 3), (76, .iconst 1, 1), (77, .goto 4, 3), (80, .iconst 0, 1), (81, .istore_n 1, 1), (82, .iinc 2 1, 3), (85, .goto (-71), 3), (88, .iload_n 1, 1), (89, .ifCond .eq 7, 3)]
set_option maxRecDepth 20000 in
theorem dn_14_0_1_ok : dn_14_0_1.all (fun q => decide (decode (xm_b n_14) q.1 = .ok (q.2.1, q.2.2))) = true := xa_g_ok (by decide +kernel)
def dn_14_0_2 : List (Nat × Instr × Nat) := [(92, .aload_n 0, 1), (93, .invokevirtual 87, 3), (96, .iload_n 1, 1), (97, .ireturn, 1)]
set_option maxRecDepth 20000 in
theorem dn_14_0_2_ok : dn_14_0_2.all (fun q => decide (decode (xm_b n_14) q.1 = .ok (q.2.1, q.2.2))) = true := xa_g_ok (by decide +kernel)
def te_14_0 : Nat → eE := (e_T 16 (e_T 7 (e_T 2 (e_T 0 (e_L 0 (0, ei_push (0, 0) 1, 0, 0)) (e_T 1 (e_L 1 (0, ei_stor 1 0 2, 0, 0)) (e_L 2 (0, ei_load 0 2 3, 0, 0)))) (e_T 3 (e_L 3 (0, ei_stk ef_dup 4, 0, 0)) (e_T 4 (e_L 4 (0, ei_getf eft elay 0 12 7, 0, 0)) (e_L 7 (0, ei_push (0, 1) 8, 0, 0))))) (e_T 12 (e_T 8 (e_L 8 (0, ei_bin eF_add 9, 0, 0)) (e_T 9 (e_L 9 (0, ei_putf eft elay 0 12 0 12, 0, 0)) (e_L 12 (0, ei_push (0, 0) 13, 0, 0)))) (e_T 14 (e_T 13 (e_L 13 (0, ei_stor 2 0 14, 0, 0)) (e_L 14 (0, ei_load 2 0 15, 0, 0))) (e_T 15 (e_L 15 (0, ei_load 0 2 16, 0, 0)) (e_L 16 (0, ei_getf eft elay 0 8 19, 0, 0)))))) (e_T 29 (e_T 23 (e_T 19 (e_L 19 (0, ei_if2 3 88 22, 0, 0)) (e_T 22 (e_L 22 (0, ei_load 0 2 23, 0, 0)) (e_L 23 (0, ei_getf eft elay 0 0 26, 0, 0)))) (e_T 27 (e_T 26 (e_L 26 (0, ei_load 2 0 27, 0, 0)) (e_L 27 (0, ei_aald elay 28, 0, 0))) (e_T 28 (e_L 28 (0, ei_stor 3 2 29, 0, 0)) (e_L 29 (0, ei_load 3 2 30, 0, 0))))) (e_T 34 (e_T 30 (e_L 30 (0, ei_load 0 2 31, 0, 0)) (e_T 31 (e_L 31 (0, ei_getf eft elay 0 11 34, 0, 0)) (e_L 34 (0, ei_push (0, 2) 35, 0, 0)))) (e_T 38 (e_T 35 (e_L 35 (0, ei_if2 1 45 38, 0, 0)) (e_L 38 (0, ei_load 3 2 39, 0, 0))) (e_T 39 (e_L 39 (2, e_nof, 91, 1)) (e_L 42 (0, ei_goto 49, 0, 0)))))))
set_option maxRecDepth 20000 in
set_option maxHeartbeats 4000000 in
theorem te_14_0_ok : ∀ pc, e_EOq eft cls elay eI n_14 pc (te_14_0 pc) :=
  (e_Tok2
  (e_Tok2
  (e_Tok2
  (e_Tok2
  (e_Lok (ps_iconst_0 (x_dk dn_14_0_0_ok 0 rfl)))
  (e_Tok2
  (e_Lok (e_st (I := eI) (er_istore_n (i := 1) (x_dk dn_14_0_0_ok 1 rfl) (by decide +kernel)) nx_stor))
  (e_Lok (ld_aload_n_0 (x_dk dn_14_0_0_ok 2 rfl)))))
  (e_Tok2
  (e_Lok (e_st (I := eI) (er_dup (x_dk dn_14_0_0_ok 3 rfl)) (nx_stk bf_dup)))
  (e_Tok2
  (e_Lok (lk_0_135g ho_14 (x_dk dn_14_0_0_ok 4 rfl)))
  (e_Lok (ps_iconst_1 (x_dk dn_14_0_0_ok 5 rfl))))))
  (e_Tok2
  (e_Tok2
  (e_Lok (sm_iadd (x_dk dn_14_0_0_ok 6 rfl)))
  (e_Tok2
  (e_Lok (lk_0_135p ho_14 (x_dk dn_14_0_0_ok 7 rfl)))
  (e_Lok (ps_iconst_0 (x_dk dn_14_0_0_ok 8 rfl)))))
  (e_Tok2
  (e_Tok2
  (e_Lok (e_st (I := eI) (er_istore_n (i := 2) (x_dk dn_14_0_0_ok 9 rfl) (by decide +kernel)) nx_stor))
  (e_Lok (ld_iload_n_2 (x_dk dn_14_0_0_ok 10 rfl))))
  (e_Tok2
  (e_Lok (ld_aload_n_0 (x_dk dn_14_0_0_ok 11 rfl)))
  (e_Lok (lk_0_44g ho_14 (x_dk dn_14_0_0_ok 12 rfl)))))))
  (e_Tok2
  (e_Tok2
  (e_Tok2
  (e_Lok (e_st (I := eI) (er_icmpge (off := 69) (tg := 88) (x_dk dn_14_0_0_ok 13 rfl) (by decide)) nx_if2))
  (e_Tok2
  (e_Lok (ld_aload_n_0 (x_dk dn_14_0_0_ok 14 rfl)))
  (e_Lok (lk_0_11g ho_14 (x_dk dn_14_0_0_ok 15 rfl)))))
  (e_Tok2
  (e_Tok2
  (e_Lok (ld_iload_n_2 (x_dk dn_14_0_0_ok 16 rfl)))
  (e_Lok (e_st (I := eI) (er_aaload (x_dk dn_14_0_0_ok 17 rfl)) nx_aald)))
  (e_Tok2
  (e_Lok (e_st (I := eI) (er_astore_n (i := 3) (x_dk dn_14_0_0_ok 18 rfl) (by decide +kernel)) nx_stor))
  (e_Lok (ld_aload_n_3 (x_dk dn_14_0_0_ok 19 rfl))))))
  (e_Tok2
  (e_Tok2
  (e_Lok (ld_aload_n_0 (x_dk dn_14_0_0_ok 20 rfl)))
  (e_Tok2
  (e_Lok (lk_0_132g ho_14 (x_dk dn_14_0_0_ok 21 rfl)))
  (e_Lok (ps_iconst_2 (x_dk dn_14_0_0_ok 22 rfl)))))
  (e_Tok2
  (e_Tok2
  (e_Lok (e_st (I := eI) (er_icmpne (off := 10) (tg := 45) (x_dk dn_14_0_0_ok 23 rfl) (by decide)) nx_if2))
  (e_Lok (ld_aload_n_3 (x_dk dn_14_0_0_ok 24 rfl))))
  (e_Tok2
  (e_Lok (lk_0_144 ho_14 (x_dk dn_14_0_1_ok 0 rfl)))
  (e_Lok (e_st (I := eI) (er_goto (off := 7) (tg := 49) (x_dk dn_14_0_1_ok 1 rfl) (by decide)) nx_goto)))))))
def te_14_27 : Nat → eE := (e_T 69 (e_T 54 (e_T 49 (e_T 45 (e_L 45 (0, ei_load 3 2 46, 0, 0)) (e_T 46 (e_L 46 (2, e_nof, 90, 1)) (e_L 49 (0, ei_putf eft elay 5 8 0 52, 0, 0)))) (e_T 52 (e_L 52 (0, ei_load 3 2 53, 0, 0)) (e_T 53 (e_L 53 (0, ei_stk ef_dup 54, 0, 0)) (e_L 54 (0, ei_getf eft elay 5 7 57, 0, 0))))) (e_T 61 (e_T 57 (e_L 57 (0, ei_load 3 2 58, 0, 0)) (e_T 58 (e_L 58 (0, ei_getf eft elay 5 8 61, 0, 0)) (e_L 61 (0, ei_bin eF_add 62, 0, 0)))) (e_T 65 (e_T 62 (e_L 62 (0, ei_putf eft elay 5 7 0 65, 0, 0)) (e_L 65 (0, ei_load 1 0 66, 0, 0))) (e_T 66 (e_L 66 (0, ei_if1 1 76 69, 0, 0)) (e_L 69 (0, ei_load 3 2 70, 0, 0)))))) (e_T 82 (e_T 76 (e_T 70 (e_L 70 (0, ei_getf eft elay 5 8 73, 0, 0)) (e_T 73 (e_L 73 (0, ei_if1 0 80 76, 0, 0)) (e_L 76 (0, ei_push (0, 1) 77, 0, 0)))) (e_T 80 (e_T 77 (e_L 77 (0, ei_goto 81, 0, 0)) (e_L 80 (0, ei_push (0, 0) 81, 0, 0))) (e_T 81 (e_L 81 (0, ei_stor 1 0 82, 0, 0)) (e_L 82 (0, ei_inc 2 1 85, 0, 0))))) (e_T 89 (e_T 85 (e_L 85 (0, ei_goto 14, 0, 0)) (e_T 88 (e_L 88 (0, ei_load 1 0 89, 0, 0)) (e_L 89 (0, ei_if1 0 96 92, 0, 0)))) (e_T 93 (e_T 92 (e_L 92 (0, ei_load 0 2 93, 0, 0)) (e_L 93 (2, e_nof, 10, 1))) (e_T 96 (e_L 96 (0, ei_load 1 0 97, 0, 0)) (e_L 97 (1, e_nof, 4, 0)))))))
set_option maxRecDepth 20000 in
set_option maxHeartbeats 4000000 in
theorem te_14_27_ok : ∀ pc, e_EOq eft cls elay eI n_14 pc (te_14_27 pc) :=
  (e_Tok2
  (e_Tok2
  (e_Tok2
  (e_Tok2
  (e_Lok (ld_aload_n_3 (x_dk dn_14_0_1_ok 2 rfl)))
  (e_Tok2
  (e_Lok (lk_0_148 ho_14 (x_dk dn_14_0_1_ok 3 rfl)))
  (e_Lok (lk_0_126p ho_14 (x_dk dn_14_0_1_ok 4 rfl)))))
  (e_Tok2
  (e_Lok (ld_aload_n_3 (x_dk dn_14_0_1_ok 5 rfl)))
  (e_Tok2
  (e_Lok (e_st (I := eI) (er_dup (x_dk dn_14_0_1_ok 6 rfl)) (nx_stk bf_dup)))
  (e_Lok (lk_0_90g ho_14 (x_dk dn_14_0_1_ok 7 rfl))))))
  (e_Tok2
  (e_Tok2
  (e_Lok (ld_aload_n_3 (x_dk dn_14_0_1_ok 8 rfl)))
  (e_Tok2
  (e_Lok (lk_0_126g ho_14 (x_dk dn_14_0_1_ok 9 rfl)))
  (e_Lok (sm_iadd (x_dk dn_14_0_1_ok 10 rfl)))))
  (e_Tok2
  (e_Tok2
  (e_Lok (lk_0_90p ho_14 (x_dk dn_14_0_1_ok 11 rfl)))
  (e_Lok (ld_iload_n_1 (x_dk dn_14_0_1_ok 12 rfl))))
  (e_Tok2
  (e_Lok (e_st (I := eI) (er_ifne (off := 10) (tg := 76) (x_dk dn_14_0_1_ok 13 rfl) (by decide)) nx_if1))
  (e_Lok (ld_aload_n_3 (x_dk dn_14_0_1_ok 14 rfl)))))))
  (e_Tok2
  (e_Tok2
  (e_Tok2
  (e_Lok (lk_0_126g ho_14 (x_dk dn_14_0_1_ok 15 rfl)))
  (e_Tok2
  (e_Lok (e_st (I := eI) (er_ifeq (off := 7) (tg := 80) (x_dk dn_14_0_1_ok 16 rfl) (by decide)) nx_if1))
  (e_Lok (ps_iconst_1 (x_dk dn_14_0_1_ok 17 rfl)))))
  (e_Tok2
  (e_Tok2
  (e_Lok (e_st (I := eI) (er_goto (off := 4) (tg := 81) (x_dk dn_14_0_1_ok 18 rfl) (by decide)) nx_goto))
  (e_Lok (ps_iconst_0 (x_dk dn_14_0_1_ok 19 rfl))))
  (e_Tok2
  (e_Lok (e_st (I := eI) (er_istore_n (i := 1) (x_dk dn_14_0_1_ok 20 rfl) (by decide +kernel)) nx_stor))
  (e_Lok (e_st (I := eI) (er_iinc (i := 2) (n := 1) (x_dk dn_14_0_1_ok 21 rfl) (by decide +kernel) (by decide)) nx_inc)))))
  (e_Tok2
  (e_Tok2
  (e_Lok (e_st (I := eI) (er_goto (off := (-71)) (tg := 14) (x_dk dn_14_0_1_ok 22 rfl) (by decide)) nx_goto))
  (e_Tok2
  (e_Lok (ld_iload_n_1 (x_dk dn_14_0_1_ok 23 rfl)))
  (e_Lok (e_st (I := eI) (er_ifeq (off := 7) (tg := 96) (x_dk dn_14_0_1_ok 24 rfl) (by decide)) nx_if1))))
  (e_Tok2
  (e_Tok2
  (e_Lok (ld_aload_n_0 (x_dk dn_14_0_2_ok 0 rfl)))
  (e_Lok (lk_0_87 ho_14 (x_dk dn_14_0_2_ok 1 rfl))))
  (e_Tok2
  (e_Lok (ld_iload_n_1 (x_dk dn_14_0_2_ok 2 rfl)))
  (e_Lok (e_rt (I := eI) (k := 4) ⟨(x_dk dn_14_0_2_ok 3 rfl), rfl⟩)))))))
def te_14 : Nat → eE := (e_T 42 te_14_0 te_14_27)
theorem te_14_ok : ∀ pc, e_EOq eft cls elay eI n_14 pc (te_14 pc) := (e_Tok2 (te_14_0_ok) (te_14_27_ok))
theorem ho_15 : (xm_y n_15).cls = "RobotCellHouse$Arm" := rfl
def dn_15_0_0 : List (Nat × Instr × Nat) := [(0, .iconst 0, 1), (1, .istore_n 1, 1), (2, .iload_n 1, 1), (3, .aload_n 0, 1), (4, .getfield 44, 3), (7, .if_icmp .ge 23, 3), (10, .aload_n 0, 1), (11, .getfield 11, 3), (14, .iload_n 1, 1), (15, .aaload, 1), (16, .getfield 126, 3), (19, .ifCond .eq 5, 3), (22, .iconst 0, 1), (23, .ireturn, 1), (24, .iinc 1 1, 3), (27, .goto (-25), 3), (30, .iconst 1, 1), (31, .ireturn, 1)]
set_option maxRecDepth 20000 in
theorem dn_15_0_0_ok : dn_15_0_0.all (fun q => decide (decode (xm_b n_15) q.1 = .ok (q.2.1, q.2.2))) = true := xa_g_ok (by decide +kernel)
def te_15_0 : Nat → eE := (e_T 14 (e_T 3 (e_T 1 (e_T 0 (e_L 0 (0, ei_push (0, 0) 1, 0, 0)) (e_L 1 (0, ei_stor 1 0 2, 0, 0))) (e_T 2 (e_L 2 (0, ei_load 1 0 3, 0, 0)) (e_L 3 (0, ei_load 0 2 4, 0, 0)))) (e_T 7 (e_T 4 (e_L 4 (0, ei_getf eft elay 0 8 7, 0, 0)) (e_L 7 (0, ei_if2 3 30 10, 0, 0))) (e_T 10 (e_L 10 (0, ei_load 0 2 11, 0, 0)) (e_T 11 (e_L 11 (0, ei_getf eft elay 0 0 14, 0, 0)) (e_L 14 (0, ei_load 1 0 15, 0, 0)))))) (e_T 22 (e_T 16 (e_T 15 (e_L 15 (0, ei_aald elay 16, 0, 0)) (e_L 16 (0, ei_getf eft elay 5 8 19, 0, 0))) (e_T 19 (e_L 19 (0, ei_if1 0 24 22, 0, 0)) (e_L 22 (0, ei_push (0, 0) 23, 0, 0)))) (e_T 24 (e_T 23 (e_L 23 (1, e_nof, 4, 0)) (e_L 24 (0, ei_inc 1 1 27, 0, 0))) (e_T 27 (e_L 27 (0, ei_goto 2, 0, 0)) (e_T 30 (e_L 30 (0, ei_push (0, 1) 31, 0, 0)) (e_L 31 (1, e_nof, 4, 0)))))))
set_option maxRecDepth 20000 in
set_option maxHeartbeats 4000000 in
theorem te_15_0_ok : ∀ pc, e_EOq eft cls elay eI n_15 pc (te_15_0 pc) :=
  (e_Tok2
  (e_Tok2
  (e_Tok2
  (e_Tok2
  (e_Lok (ps_iconst_0 (x_dk dn_15_0_0_ok 0 rfl)))
  (e_Lok (e_st (I := eI) (er_istore_n (i := 1) (x_dk dn_15_0_0_ok 1 rfl) (by decide +kernel)) nx_stor)))
  (e_Tok2
  (e_Lok (ld_iload_n_1 (x_dk dn_15_0_0_ok 2 rfl)))
  (e_Lok (ld_aload_n_0 (x_dk dn_15_0_0_ok 3 rfl)))))
  (e_Tok2
  (e_Tok2
  (e_Lok (lk_0_44g ho_15 (x_dk dn_15_0_0_ok 4 rfl)))
  (e_Lok (e_st (I := eI) (er_icmpge (off := 23) (tg := 30) (x_dk dn_15_0_0_ok 5 rfl) (by decide)) nx_if2)))
  (e_Tok2
  (e_Lok (ld_aload_n_0 (x_dk dn_15_0_0_ok 6 rfl)))
  (e_Tok2
  (e_Lok (lk_0_11g ho_15 (x_dk dn_15_0_0_ok 7 rfl)))
  (e_Lok (ld_iload_n_1 (x_dk dn_15_0_0_ok 8 rfl)))))))
  (e_Tok2
  (e_Tok2
  (e_Tok2
  (e_Lok (e_st (I := eI) (er_aaload (x_dk dn_15_0_0_ok 9 rfl)) nx_aald))
  (e_Lok (lk_0_126g ho_15 (x_dk dn_15_0_0_ok 10 rfl))))
  (e_Tok2
  (e_Lok (e_st (I := eI) (er_ifeq (off := 5) (tg := 24) (x_dk dn_15_0_0_ok 11 rfl) (by decide)) nx_if1))
  (e_Lok (ps_iconst_0 (x_dk dn_15_0_0_ok 12 rfl)))))
  (e_Tok2
  (e_Tok2
  (e_Lok (e_rt (I := eI) (k := 4) ⟨(x_dk dn_15_0_0_ok 13 rfl), rfl⟩))
  (e_Lok (e_st (I := eI) (er_iinc (i := 1) (n := 1) (x_dk dn_15_0_0_ok 14 rfl) (by decide +kernel) (by decide)) nx_inc)))
  (e_Tok2
  (e_Lok (e_st (I := eI) (er_goto (off := (-25)) (tg := 2) (x_dk dn_15_0_0_ok 15 rfl) (by decide)) nx_goto))
  (e_Tok2
  (e_Lok (ps_iconst_1 (x_dk dn_15_0_0_ok 16 rfl)))
  (e_Lok (e_rt (I := eI) (k := 4) ⟨(x_dk dn_15_0_0_ok 17 rfl), rfl⟩)))))))
def te_15 : Nat → eE := te_15_0
theorem te_15_ok : ∀ pc, e_EOq eft cls elay eI n_15 pc (te_15 pc) := te_15_0_ok
theorem ho_16 : (xm_y n_16).cls = "RobotCellHouse$Arm" := rfl
def dn_16_0_0 : List (Nat × Instr × Nat) := [(0, .iconst 0, 1), (1, .istore_n 1, 1), (2, .iload_n 1, 1), (3, .aload_n 0, 1), (4, .getfield 44, 3), (7, .if_icmp .ge 32, 3), (10, .aload_n 0, 1), (11, .getfield 11, 3), (14, .iload_n 1, 1), (15, .aaload, 1), (16, .getfield 90, 3), (19, .aload_n 0, 1), (20, .getfield 11, 3), (23, .iload_n 1, 1), (24, .aaload, 1), (25, .getfield 93, 3), (28, .if_icmp .eq 5, 3), (31, .iconst 0, 1), (32, .ireturn, 1), (33, .iinc 1 1, 3), (36, .goto (-34), 3), (39, .aload_n 0, 1), (40, .invokevirtual 151, 3), (43, .ireturn, 1)]
set_option maxRecDepth 20000 in
theorem dn_16_0_0_ok : dn_16_0_0.all (fun q => decide (decode (xm_b n_16) q.1 = .ok (q.2.1, q.2.2))) = true := xa_g_ok (by decide +kernel)
def te_16_0 : Nat → eE := (e_T 19 (e_T 7 (e_T 2 (e_T 0 (e_L 0 (0, ei_push (0, 0) 1, 0, 0)) (e_T 1 (e_L 1 (0, ei_stor 1 0 2, 0, 0)) (e_L 2 (0, ei_load 1 0 3, 0, 0)))) (e_T 3 (e_L 3 (0, ei_load 0 2 4, 0, 0)) (e_T 4 (e_L 4 (0, ei_getf eft elay 0 8 7, 0, 0)) (e_L 7 (0, ei_if2 3 39 10, 0, 0))))) (e_T 14 (e_T 10 (e_L 10 (0, ei_load 0 2 11, 0, 0)) (e_T 11 (e_L 11 (0, ei_getf eft elay 0 0 14, 0, 0)) (e_L 14 (0, ei_load 1 0 15, 0, 0)))) (e_T 15 (e_L 15 (0, ei_aald elay 16, 0, 0)) (e_T 16 (e_L 16 (0, ei_getf eft elay 5 7 19, 0, 0)) (e_L 19 (0, ei_load 0 2 20, 0, 0)))))) (e_T 31 (e_T 24 (e_T 20 (e_L 20 (0, ei_getf eft elay 0 0 23, 0, 0)) (e_T 23 (e_L 23 (0, ei_load 1 0 24, 0, 0)) (e_L 24 (0, ei_aald elay 25, 0, 0)))) (e_T 25 (e_L 25 (0, ei_getf eft elay 5 9 28, 0, 0)) (e_T 28 (e_L 28 (0, ei_if2 0 33 31, 0, 0)) (e_L 31 (0, ei_push (0, 0) 32, 0, 0))))) (e_T 36 (e_T 32 (e_L 32 (1, e_nof, 4, 0)) (e_T 33 (e_L 33 (0, ei_inc 1 1 36, 0, 0)) (e_L 36 (0, ei_goto 2, 0, 0)))) (e_T 39 (e_L 39 (0, ei_load 0 2 40, 0, 0)) (e_T 40 (e_L 40 (2, e_nof, 15, 1)) (e_L 43 (1, e_nof, 4, 0)))))))
set_option maxRecDepth 20000 in
set_option maxHeartbeats 4000000 in
theorem te_16_0_ok : ∀ pc, e_EOq eft cls elay eI n_16 pc (te_16_0 pc) :=
  (e_Tok2
  (e_Tok2
  (e_Tok2
  (e_Tok2
  (e_Lok (ps_iconst_0 (x_dk dn_16_0_0_ok 0 rfl)))
  (e_Tok2
  (e_Lok (e_st (I := eI) (er_istore_n (i := 1) (x_dk dn_16_0_0_ok 1 rfl) (by decide +kernel)) nx_stor))
  (e_Lok (ld_iload_n_1 (x_dk dn_16_0_0_ok 2 rfl)))))
  (e_Tok2
  (e_Lok (ld_aload_n_0 (x_dk dn_16_0_0_ok 3 rfl)))
  (e_Tok2
  (e_Lok (lk_0_44g ho_16 (x_dk dn_16_0_0_ok 4 rfl)))
  (e_Lok (e_st (I := eI) (er_icmpge (off := 32) (tg := 39) (x_dk dn_16_0_0_ok 5 rfl) (by decide)) nx_if2)))))
  (e_Tok2
  (e_Tok2
  (e_Lok (ld_aload_n_0 (x_dk dn_16_0_0_ok 6 rfl)))
  (e_Tok2
  (e_Lok (lk_0_11g ho_16 (x_dk dn_16_0_0_ok 7 rfl)))
  (e_Lok (ld_iload_n_1 (x_dk dn_16_0_0_ok 8 rfl)))))
  (e_Tok2
  (e_Lok (e_st (I := eI) (er_aaload (x_dk dn_16_0_0_ok 9 rfl)) nx_aald))
  (e_Tok2
  (e_Lok (lk_0_90g ho_16 (x_dk dn_16_0_0_ok 10 rfl)))
  (e_Lok (ld_aload_n_0 (x_dk dn_16_0_0_ok 11 rfl)))))))
  (e_Tok2
  (e_Tok2
  (e_Tok2
  (e_Lok (lk_0_11g ho_16 (x_dk dn_16_0_0_ok 12 rfl)))
  (e_Tok2
  (e_Lok (ld_iload_n_1 (x_dk dn_16_0_0_ok 13 rfl)))
  (e_Lok (e_st (I := eI) (er_aaload (x_dk dn_16_0_0_ok 14 rfl)) nx_aald))))
  (e_Tok2
  (e_Lok (lk_0_93g ho_16 (x_dk dn_16_0_0_ok 15 rfl)))
  (e_Tok2
  (e_Lok (e_st (I := eI) (er_icmpeq (off := 5) (tg := 33) (x_dk dn_16_0_0_ok 16 rfl) (by decide)) nx_if2))
  (e_Lok (ps_iconst_0 (x_dk dn_16_0_0_ok 17 rfl))))))
  (e_Tok2
  (e_Tok2
  (e_Lok (e_rt (I := eI) (k := 4) ⟨(x_dk dn_16_0_0_ok 18 rfl), rfl⟩))
  (e_Tok2
  (e_Lok (e_st (I := eI) (er_iinc (i := 1) (n := 1) (x_dk dn_16_0_0_ok 19 rfl) (by decide +kernel) (by decide)) nx_inc))
  (e_Lok (e_st (I := eI) (er_goto (off := (-34)) (tg := 2) (x_dk dn_16_0_0_ok 20 rfl) (by decide)) nx_goto))))
  (e_Tok2
  (e_Lok (ld_aload_n_0 (x_dk dn_16_0_0_ok 21 rfl)))
  (e_Tok2
  (e_Lok (lk_0_151 ho_16 (x_dk dn_16_0_0_ok 22 rfl)))
  (e_Lok (e_rt (I := eI) (k := 4) ⟨(x_dk dn_16_0_0_ok 23 rfl), rfl⟩)))))))
def te_16 : Nat → eE := te_16_0
theorem te_16_ok : ∀ pc, e_EOq eft cls elay eI n_16 pc (te_16 pc) := te_16_0_ok
theorem ho_17 : (xm_y n_17).cls = "RobotCellHouse$Arm" := rfl
def dn_17_0_0 : List (Nat × Instr × Nat) := [(0, .aload_n 0, 1), (1, .iconst 0, 1), (2, .putfield 132, 3), (5, .aload_n 0, 1), (6, .iconst (-1), 1), (7, .putfield 138, 3), (10, .aload_n 0, 1), (11, .iconst (-1), 1), (12, .putfield 155, 3), (15, .iconst 0, 1), (16, .istore_n 1, 1), (17, .iload_n 1, 1), (18, .bipush 6, 2), (20, .if_icmp .ge 19, 3), (23, .aload_n 0, 1), (24, .getfield 11, 3), (27, .iload_n 1, 1), (28, .aaload, 1), (29, .iconst 0, 1), (30, .putfield 126, 3), (33, .iinc 1 1, 3), (36, .goto (-19), 3), (39, .return_, 1)]
set_option maxRecDepth 20000 in
theorem dn_17_0_0_ok : dn_17_0_0.all (fun q => decide (decode (xm_b n_17) q.1 = .ok (q.2.1, q.2.2))) = true := xa_g_ok (by decide +kernel)
def te_17_0 : Nat → eE := (e_T 16 (e_T 6 (e_T 1 (e_T 0 (e_L 0 (0, ei_load 0 2 1, 0, 0)) (e_L 1 (0, ei_push (0, 0) 2, 0, 0))) (e_T 2 (e_L 2 (0, ei_putf eft elay 0 11 0 5, 0, 0)) (e_T 5 (e_L 5 (0, ei_load 0 2 6, 0, 0)) (e_L 6 (0, ei_push (0, (-1)) 7, 0, 0))))) (e_T 11 (e_T 7 (e_L 7 (0, ei_putf eft elay 0 13 0 10, 0, 0)) (e_T 10 (e_L 10 (0, ei_load 0 2 11, 0, 0)) (e_L 11 (0, ei_push (0, (-1)) 12, 0, 0)))) (e_T 12 (e_L 12 (0, ei_putf eft elay 0 18 0 15, 0, 0)) (e_T 15 (e_L 15 (0, ei_push (0, 0) 16, 0, 0)) (e_L 16 (0, ei_stor 1 0 17, 0, 0)))))) (e_T 27 (e_T 20 (e_T 17 (e_L 17 (0, ei_load 1 0 18, 0, 0)) (e_T 18 (e_L 18 (0, ei_push (0, 6) 20, 0, 0)) (e_L 20 (0, ei_if2 3 39 23, 0, 0)))) (e_T 23 (e_L 23 (0, ei_load 0 2 24, 0, 0)) (e_T 24 (e_L 24 (0, ei_getf eft elay 0 0 27, 0, 0)) (e_L 27 (0, ei_load 1 0 28, 0, 0))))) (e_T 30 (e_T 28 (e_L 28 (0, ei_aald elay 29, 0, 0)) (e_T 29 (e_L 29 (0, ei_push (0, 0) 30, 0, 0)) (e_L 30 (0, ei_putf eft elay 5 8 0 33, 0, 0)))) (e_T 33 (e_L 33 (0, ei_inc 1 1 36, 0, 0)) (e_T 36 (e_L 36 (0, ei_goto 17, 0, 0)) (e_L 39 (1, e_nof, 0, 0)))))))
set_option maxRecDepth 20000 in
set_option maxHeartbeats 4000000 in
theorem te_17_0_ok : ∀ pc, e_EOq eft cls elay eI n_17 pc (te_17_0 pc) :=
  (e_Tok2
  (e_Tok2
  (e_Tok2
  (e_Tok2
  (e_Lok (ld_aload_n_0 (x_dk dn_17_0_0_ok 0 rfl)))
  (e_Lok (ps_iconst_0 (x_dk dn_17_0_0_ok 1 rfl))))
  (e_Tok2
  (e_Lok (lk_0_132p ho_17 (x_dk dn_17_0_0_ok 2 rfl)))
  (e_Tok2
  (e_Lok (ld_aload_n_0 (x_dk dn_17_0_0_ok 3 rfl)))
  (e_Lok (ps_iconst_m1 (x_dk dn_17_0_0_ok 4 rfl))))))
  (e_Tok2
  (e_Tok2
  (e_Lok (lk_0_138p ho_17 (x_dk dn_17_0_0_ok 5 rfl)))
  (e_Tok2
  (e_Lok (ld_aload_n_0 (x_dk dn_17_0_0_ok 6 rfl)))
  (e_Lok (ps_iconst_m1 (x_dk dn_17_0_0_ok 7 rfl)))))
  (e_Tok2
  (e_Lok (lk_0_155p ho_17 (x_dk dn_17_0_0_ok 8 rfl)))
  (e_Tok2
  (e_Lok (ps_iconst_0 (x_dk dn_17_0_0_ok 9 rfl)))
  (e_Lok (e_st (I := eI) (er_istore_n (i := 1) (x_dk dn_17_0_0_ok 10 rfl) (by decide +kernel)) nx_stor))))))
  (e_Tok2
  (e_Tok2
  (e_Tok2
  (e_Lok (ld_iload_n_1 (x_dk dn_17_0_0_ok 11 rfl)))
  (e_Tok2
  (e_Lok (ps_bipush_6 (x_dk dn_17_0_0_ok 12 rfl)))
  (e_Lok (e_st (I := eI) (er_icmpge (off := 19) (tg := 39) (x_dk dn_17_0_0_ok 13 rfl) (by decide)) nx_if2))))
  (e_Tok2
  (e_Lok (ld_aload_n_0 (x_dk dn_17_0_0_ok 14 rfl)))
  (e_Tok2
  (e_Lok (lk_0_11g ho_17 (x_dk dn_17_0_0_ok 15 rfl)))
  (e_Lok (ld_iload_n_1 (x_dk dn_17_0_0_ok 16 rfl))))))
  (e_Tok2
  (e_Tok2
  (e_Lok (e_st (I := eI) (er_aaload (x_dk dn_17_0_0_ok 17 rfl)) nx_aald))
  (e_Tok2
  (e_Lok (ps_iconst_0 (x_dk dn_17_0_0_ok 18 rfl)))
  (e_Lok (lk_0_126p ho_17 (x_dk dn_17_0_0_ok 19 rfl)))))
  (e_Tok2
  (e_Lok (e_st (I := eI) (er_iinc (i := 1) (n := 1) (x_dk dn_17_0_0_ok 20 rfl) (by decide +kernel) (by decide)) nx_inc))
  (e_Tok2
  (e_Lok (e_st (I := eI) (er_goto (off := (-19)) (tg := 17) (x_dk dn_17_0_0_ok 21 rfl) (by decide)) nx_goto))
  (e_Lok (e_rt (I := eI) (k := 0) ⟨(x_dk dn_17_0_0_ok 22 rfl), rfl⟩)))))))
def te_17 : Nat → eE := te_17_0
theorem te_17_ok : ∀ pc, e_EOq eft cls elay eI n_17 pc (te_17 pc) := te_17_0_ok
end
