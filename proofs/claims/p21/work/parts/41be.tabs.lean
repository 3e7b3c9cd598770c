noncomputable section
theorem ho_383 : (xm_y n_383).cls = "RobotCellHouseModel" := rfl
def dn_383_0_0 : List (Nat × Instr × Nat) := [(0, .iload_n 1, 1), (1, .invokestatic 294, 3), (4, .istore_n 2, 1), (5, .aload_n 0, 1), (6, .getfield 8, 3), (9, .iload_n 2, 1), (10, .iconst 0, 1), (11, .iadd, 1), (12, .iaload, 1), (13, .iconst 1, 1), (14, .if_icmp .ne 64, 3), (17, .aload_n 0, 1), (18, .bipush 9, 2), (20, .iload_n 1, 1), (21, .iconst 0, 1), (22, .invokevirtual 693, 3), (25, .aload_n 0, 1), (26, .getfield 8, 3), (29, .iload_n 2, 1), (30, .bipush 9, 2), (32, .iadd, 1), (33, .iaload, 1), (34, .ifCond .lt 24, 3), (37, .aload_n 0, 1), (38, .getfield 8, 3)]
set_option maxRecDepth 20000 in
theorem dn_383_0_0_ok : dn_383_0_0.all (fun q => decide (decode (xm_b n_383) q.1 = .ok (q.2.1, q.2.2))) = true := xa_g_ok (by decide +kernel)
def dn_383_0_1 : List (Nat × Instr × Nat) := [(41, .aload_n 0, 1), (42, .getfield 8, 3), (45, .iload_n 2, 1), (46, .bipush 9, 2), (48, .iadd, 1), (49, .iaload, 1), (50, .invokestatic 298, 3), (53, .bipush 7, 2), (55, .iadd, 1), (56, .iconst 1, 1), (57, .iastore, 1), (58, .aload_n 0, 1), (59, .getfield 8, 3), (62, .iload_n 2, 1), (63, .bipush 9, 2), (65, .iadd, 1), (66, .iconst (-1), 1), (67, .iastore, 1), (68, .aload_n 0, 1), (69, .getfield 8, 3), (72, .iload_n 2, 1), (73, .bipush 6, 2), (75, .iadd, 1), (76, .iconst 0, 1), (77, .iastore, 1)]
set_option maxRecDepth 20000 in
theorem dn_383_0_1_ok : dn_383_0_1.all (fun q => decide (decode (xm_b n_383) q.1 = .ok (q.2.1, q.2.2))) = true := xa_g_ok (by decide +kernel)
def dn_383_0_2 : List (Nat × Instr × Nat) := [(78, .return_, 1)]
set_option maxRecDepth 20000 in
theorem dn_383_0_2_ok : dn_383_0_2.all (fun q => decide (decode (xm_b n_383) q.1 = .ok (q.2.1, q.2.2))) = true := xa_g_ok (by decide +kernel)
def te_383_0 : Nat → eE := (e_T 17 (e_T 9 (e_T 4 (e_T 0 (e_L 0 (0, ei_load 1 0 1, 0, 0)) (e_T 1 (e_L 1 (2, e_nof, 268, 1)) (e_L 4 (0, ei_stor 2 0 5, 0, 0)))) (e_T 5 (e_L 5 (0, ei_load 0 2 6, 0, 0)) (e_T 6 (e_L 6 (0, ei_getf eft elay 12 0 9, 0, 0)) (e_L 9 (0, ei_load 2 0 10, 0, 0))))) (e_T 12 (e_T 10 (e_L 10 (0, ei_push (0, 0) 11, 0, 0)) (e_T 11 (e_L 11 (0, ei_bin eF_add 12, 0, 0)) (e_L 12 (0, ei_ald elay false 13, 0, 0)))) (e_T 13 (e_L 13 (0, ei_push (0, 1) 14, 0, 0)) (e_T 14 (e_L 14 (0, ei_if2 1 78 17, 0, 0)) (e_L 17 (0, ei_load 0 2 18, 0, 0)))))) (e_T 26 (e_T 21 (e_T 18 (e_L 18 (0, ei_push (0, 9) 20, 0, 0)) (e_T 20 (e_L 20 (0, ei_load 1 0 21, 0, 0)) (e_L 21 (0, ei_push (0, 0) 22, 0, 0)))) (e_T 22 (e_L 22 (2, e_nof, 319, 4)) (e_T 25 (e_L 25 (0, ei_load 0 2 26, 0, 0)) (e_L 26 (0, ei_getf eft elay 12 0 29, 0, 0))))) (e_T 32 (e_T 29 (e_L 29 (0, ei_load 2 0 30, 0, 0)) (e_T 30 (e_L 30 (0, ei_push (0, 9) 32, 0, 0)) (e_L 32 (0, ei_bin eF_add 33, 0, 0)))) (e_T 34 (e_T 33 (e_L 33 (0, ei_ald elay false 34, 0, 0)) (e_L 34 (0, ei_if1 2 58 37, 0, 0))) (e_T 37 (e_L 37 (0, ei_load 0 2 38, 0, 0)) (e_L 38 (0, ei_getf eft elay 12 0 41, 0, 0)))))))
set_option maxRecDepth 20000 in
set_option maxHeartbeats 4000000 in
theorem te_383_0_ok : ∀ pc, e_EOq eft cls elay eI n_383 pc (te_383_0 pc) :=
  (e_Tok2
  (e_Tok2
  (e_Tok2
  (e_Tok2
  (e_Lok (ld_iload_n_1 (x_dk dn_383_0_0_ok 0 rfl)))
  (e_Tok2
  (e_Lok (lk_12_294 ho_383 (x_dk dn_383_0_0_ok 1 rfl)))
  (e_Lok (e_st (I := eI) (er_istore_n (i := 2) (x_dk dn_383_0_0_ok 2 rfl) (by decide +kernel)) nx_stor))))
  (e_Tok2
  (e_Lok (ld_aload_n_0 (x_dk dn_383_0_0_ok 3 rfl)))
  (e_Tok2
  (e_Lok (lk_12_8g ho_383 (x_dk dn_383_0_0_ok 4 rfl)))
  (e_Lok (ld_iload_n_2 (x_dk dn_383_0_0_ok 5 rfl))))))
  (e_Tok2
  (e_Tok2
  (e_Lok (ps_iconst_0 (x_dk dn_383_0_0_ok 6 rfl)))
  (e_Tok2
  (e_Lok (sm_iadd (x_dk dn_383_0_0_ok 7 rfl)))
  (e_Lok (sm_iaload (x_dk dn_383_0_0_ok 8 rfl)))))
  (e_Tok2
  (e_Lok (ps_iconst_1 (x_dk dn_383_0_0_ok 9 rfl)))
  (e_Tok2
  (e_Lok (e_st (I := eI) (er_icmpne (off := 64) (tg := 78) (x_dk dn_383_0_0_ok 10 rfl) (by decide)) nx_if2))
  (e_Lok (ld_aload_n_0 (x_dk dn_383_0_0_ok 11 rfl)))))))
  (e_Tok2
  (e_Tok2
  (e_Tok2
  (e_Lok (ps_bipush_9 (x_dk dn_383_0_0_ok 12 rfl)))
  (e_Tok2
  (e_Lok (ld_iload_n_1 (x_dk dn_383_0_0_ok 13 rfl)))
  (e_Lok (ps_iconst_0 (x_dk dn_383_0_0_ok 14 rfl)))))
  (e_Tok2
  (e_Lok (lk_12_693 ho_383 (x_dk dn_383_0_0_ok 15 rfl)))
  (e_Tok2
  (e_Lok (ld_aload_n_0 (x_dk dn_383_0_0_ok 16 rfl)))
  (e_Lok (lk_12_8g ho_383 (x_dk dn_383_0_0_ok 17 rfl))))))
  (e_Tok2
  (e_Tok2
  (e_Lok (ld_iload_n_2 (x_dk dn_383_0_0_ok 18 rfl)))
  (e_Tok2
  (e_Lok (ps_bipush_9 (x_dk dn_383_0_0_ok 19 rfl)))
  (e_Lok (sm_iadd (x_dk dn_383_0_0_ok 20 rfl)))))
  (e_Tok2
  (e_Tok2
  (e_Lok (sm_iaload (x_dk dn_383_0_0_ok 21 rfl)))
  (e_Lok (e_st (I := eI) (er_iflt (off := 24) (tg := 58) (x_dk dn_383_0_0_ok 22 rfl) (by decide)) nx_if1)))
  (e_Tok2
  (e_Lok (ld_aload_n_0 (x_dk dn_383_0_0_ok 23 rfl)))
  (e_Lok (lk_12_8g ho_383 (x_dk dn_383_0_0_ok 24 rfl))))))))
def te_383_25 : Nat → eE := (e_T 59 (e_T 49 (e_T 45 (e_T 41 (e_L 41 (0, ei_load 0 2 42, 0, 0)) (e_T 42 (e_L 42 (0, ei_getf eft elay 12 0 45, 0, 0)) (e_L 45 (0, ei_load 2 0 46, 0, 0)))) (e_T 46 (e_L 46 (0, ei_push (0, 9) 48, 0, 0)) (e_T 48 (e_L 48 (0, ei_bin eF_add 49, 0, 0)) (e_L 49 (0, ei_ald elay false 50, 0, 0))))) (e_T 55 (e_T 50 (e_L 50 (2, e_nof, 269, 1)) (e_T 53 (e_L 53 (0, ei_push (0, 7) 55, 0, 0)) (e_L 55 (0, ei_bin eF_add 56, 0, 0)))) (e_T 57 (e_T 56 (e_L 56 (0, ei_push (0, 1) 57, 0, 0)) (e_L 57 (0, ei_ast elay false 58, 0, 0))) (e_T 58 (e_L 58 (0, ei_load 0 2 59, 0, 0)) (e_L 59 (0, ei_getf eft elay 12 0 62, 0, 0)))))) (e_T 68 (e_T 65 (e_T 62 (e_L 62 (0, ei_load 2 0 63, 0, 0)) (e_T 63 (e_L 63 (0, ei_push (0, 9) 65, 0, 0)) (e_L 65 (0, ei_bin eF_add 66, 0, 0)))) (e_T 66 (e_L 66 (0, ei_push (0, (-1)) 67, 0, 0)) (e_T 67 (e_L 67 (0, ei_ast elay false 68, 0, 0)) (e_L 68 (0, ei_load 0 2 69, 0, 0))))) (e_T 73 (e_T 69 (e_L 69 (0, ei_getf eft elay 12 0 72, 0, 0)) (e_T 72 (e_L 72 (0, ei_load 2 0 73, 0, 0)) (e_L 73 (0, ei_push (0, 6) 75, 0, 0)))) (e_T 76 (e_T 75 (e_L 75 (0, ei_bin eF_add 76, 0, 0)) (e_L 76 (0, ei_push (0, 0) 77, 0, 0))) (e_T 77 (e_L 77 (0, ei_ast elay false 78, 0, 0)) (e_L 78 (1, e_nof, 0, 0)))))))
set_option maxRecDepth 20000 in
set_option maxHeartbeats 4000000 in
theorem te_383_25_ok : ∀ pc, e_EOq eft cls elay eI n_383 pc (te_383_25 pc) :=
  (e_Tok2
  (e_Tok2
  (e_Tok2
  (e_Tok2
  (e_Lok (ld_aload_n_0 (x_dk dn_383_0_1_ok 0 rfl)))
  (e_Tok2
  (e_Lok (lk_12_8g ho_383 (x_dk dn_383_0_1_ok 1 rfl)))
  (e_Lok (ld_iload_n_2 (x_dk dn_383_0_1_ok 2 rfl)))))
  (e_Tok2
  (e_Lok (ps_bipush_9 (x_dk dn_383_0_1_ok 3 rfl)))
  (e_Tok2
  (e_Lok (sm_iadd (x_dk dn_383_0_1_ok 4 rfl)))
  (e_Lok (sm_iaload (x_dk dn_383_0_1_ok 5 rfl))))))
  (e_Tok2
  (e_Tok2
  (e_Lok (lk_12_298 ho_383 (x_dk dn_383_0_1_ok 6 rfl)))
  (e_Tok2
  (e_Lok (ps_bipush_7 (x_dk dn_383_0_1_ok 7 rfl)))
  (e_Lok (sm_iadd (x_dk dn_383_0_1_ok 8 rfl)))))
  (e_Tok2
  (e_Tok2
  (e_Lok (ps_iconst_1 (x_dk dn_383_0_1_ok 9 rfl)))
  (e_Lok (sm_iastore (x_dk dn_383_0_1_ok 10 rfl))))
  (e_Tok2
  (e_Lok (ld_aload_n_0 (x_dk dn_383_0_1_ok 11 rfl)))
  (e_Lok (lk_12_8g ho_383 (x_dk dn_383_0_1_ok 12 rfl)))))))
  (e_Tok2
  (e_Tok2
  (e_Tok2
  (e_Lok (ld_iload_n_2 (x_dk dn_383_0_1_ok 13 rfl)))
  (e_Tok2
  (e_Lok (ps_bipush_9 (x_dk dn_383_0_1_ok 14 rfl)))
  (e_Lok (sm_iadd (x_dk dn_383_0_1_ok 15 rfl)))))
  (e_Tok2
  (e_Lok (ps_iconst_m1 (x_dk dn_383_0_1_ok 16 rfl)))
  (e_Tok2
  (e_Lok (sm_iastore (x_dk dn_383_0_1_ok 17 rfl)))
  (e_Lok (ld_aload_n_0 (x_dk dn_383_0_1_ok 18 rfl))))))
  (e_Tok2
  (e_Tok2
  (e_Lok (lk_12_8g ho_383 (x_dk dn_383_0_1_ok 19 rfl)))
  (e_Tok2
  (e_Lok (ld_iload_n_2 (x_dk dn_383_0_1_ok 20 rfl)))
  (e_Lok (ps_bipush_6 (x_dk dn_383_0_1_ok 21 rfl)))))
  (e_Tok2
  (e_Tok2
  (e_Lok (sm_iadd (x_dk dn_383_0_1_ok 22 rfl)))
  (e_Lok (ps_iconst_0 (x_dk dn_383_0_1_ok 23 rfl))))
  (e_Tok2
  (e_Lok (sm_iastore (x_dk dn_383_0_1_ok 24 rfl)))
  (e_Lok (e_rt (I := eI) (k := 0) ⟨(x_dk dn_383_0_2_ok 0 rfl), rfl⟩)))))))
def te_383 : Nat → eE := (e_T 38 te_383_0 te_383_25)
theorem te_383_ok : ∀ pc, e_EOq eft cls elay eI n_383 pc (te_383 pc) := (e_Tok2 (te_383_0_ok) (te_383_25_ok))
theorem ho_384 : (xm_y n_384).cls = "RobotCellHouseModel" := rfl
def dn_384_0_0 : List (Nat × Instr × Nat) := [(0, .aload_n 0, 1), (1, .getfield 8, 3), (4, .iload_n 1, 1), (5, .invokestatic 294, 3), (8, .iconst 0, 1), (9, .iadd, 1), (10, .iaload, 1), (11, .iconst 1, 1), (12, .if_icmp .ne 20, 3), (15, .aload_n 0, 1), (16, .iload_n 1, 1), (17, .invokevirtual 752, 3), (20, .aload_n 0, 1), (21, .getfield 8, 3), (24, .iload_n 1, 1), (25, .invokestatic 294, 3), (28, .iconst 0, 1), (29, .iadd, 1), (30, .iconst 2, 1), (31, .iastore, 1), (32, .return_, 1)]
set_option maxRecDepth 20000 in
theorem dn_384_0_0_ok : dn_384_0_0.all (fun q => decide (decode (xm_b n_384) q.1 = .ok (q.2.1, q.2.2))) = true := xa_g_ok (by decide +kernel)
def te_384_0 : Nat → eE := (e_T 15 (e_T 8 (e_T 1 (e_T 0 (e_L 0 (0, ei_load 0 2 1, 0, 0)) (e_L 1 (0, ei_getf eft elay 12 0 4, 0, 0))) (e_T 4 (e_L 4 (0, ei_load 1 0 5, 0, 0)) (e_T 5 (e_L 5 (2, e_nof, 268, 1)) (e_L 8 (0, ei_push (0, 0) 9, 0, 0))))) (e_T 10 (e_T 9 (e_L 9 (0, ei_bin eF_add 10, 0, 0)) (e_L 10 (0, ei_ald elay false 11, 0, 0))) (e_T 11 (e_L 11 (0, ei_push (0, 1) 12, 0, 0)) (e_T 12 (e_L 12 (0, ei_if2 1 32 15, 0, 0)) (e_L 15 (0, ei_load 0 2 16, 0, 0)))))) (e_T 24 (e_T 17 (e_T 16 (e_L 16 (0, ei_load 1 0 17, 0, 0)) (e_L 17 (2, e_nof, 383, 2))) (e_T 20 (e_L 20 (0, ei_load 0 2 21, 0, 0)) (e_T 21 (e_L 21 (0, ei_getf eft elay 12 0 24, 0, 0)) (e_L 24 (0, ei_load 1 0 25, 0, 0))))) (e_T 29 (e_T 25 (e_L 25 (2, e_nof, 268, 1)) (e_T 28 (e_L 28 (0, ei_push (0, 0) 29, 0, 0)) (e_L 29 (0, ei_bin eF_add 30, 0, 0)))) (e_T 30 (e_L 30 (0, ei_push (0, 2) 31, 0, 0)) (e_T 31 (e_L 31 (0, ei_ast elay false 32, 0, 0)) (e_L 32 (1, e_nof, 0, 0)))))))
set_option maxRecDepth 20000 in
set_option maxHeartbeats 4000000 in
theorem te_384_0_ok : ∀ pc, e_EOq eft cls elay eI n_384 pc (te_384_0 pc) :=
  (e_Tok2
  (e_Tok2
  (e_Tok2
  (e_Tok2
  (e_Lok (ld_aload_n_0 (x_dk dn_384_0_0_ok 0 rfl)))
  (e_Lok (lk_12_8g ho_384 (x_dk dn_384_0_0_ok 1 rfl))))
  (e_Tok2
  (e_Lok (ld_iload_n_1 (x_dk dn_384_0_0_ok 2 rfl)))
  (e_Tok2
  (e_Lok (lk_12_294 ho_384 (x_dk dn_384_0_0_ok 3 rfl)))
  (e_Lok (ps_iconst_0 (x_dk dn_384_0_0_ok 4 rfl))))))
  (e_Tok2
  (e_Tok2
  (e_Lok (sm_iadd (x_dk dn_384_0_0_ok 5 rfl)))
  (e_Lok (sm_iaload (x_dk dn_384_0_0_ok 6 rfl))))
  (e_Tok2
  (e_Lok (ps_iconst_1 (x_dk dn_384_0_0_ok 7 rfl)))
  (e_Tok2
  (e_Lok (e_st (I := eI) (er_icmpne (off := 20) (tg := 32) (x_dk dn_384_0_0_ok 8 rfl) (by decide)) nx_if2))
  (e_Lok (ld_aload_n_0 (x_dk dn_384_0_0_ok 9 rfl)))))))
  (e_Tok2
  (e_Tok2
  (e_Tok2
  (e_Lok (ld_iload_n_1 (x_dk dn_384_0_0_ok 10 rfl)))
  (e_Lok (lk_12_752 ho_384 (x_dk dn_384_0_0_ok 11 rfl))))
  (e_Tok2
  (e_Lok (ld_aload_n_0 (x_dk dn_384_0_0_ok 12 rfl)))
  (e_Tok2
  (e_Lok (lk_12_8g ho_384 (x_dk dn_384_0_0_ok 13 rfl)))
  (e_Lok (ld_iload_n_1 (x_dk dn_384_0_0_ok 14 rfl))))))
  (e_Tok2
  (e_Tok2
  (e_Lok (lk_12_294 ho_384 (x_dk dn_384_0_0_ok 15 rfl)))
  (e_Tok2
  (e_Lok (ps_iconst_0 (x_dk dn_384_0_0_ok 16 rfl)))
  (e_Lok (sm_iadd (x_dk dn_384_0_0_ok 17 rfl)))))
  (e_Tok2
  (e_Lok (ps_iconst_2 (x_dk dn_384_0_0_ok 18 rfl)))
  (e_Tok2
  (e_Lok (sm_iastore (x_dk dn_384_0_0_ok 19 rfl)))
  (e_Lok (e_rt (I := eI) (k := 0) ⟨(x_dk dn_384_0_0_ok 20 rfl), rfl⟩)))))))
def te_384 : Nat → eE := te_384_0
theorem te_384_ok : ∀ pc, e_EOq eft cls elay eI n_384 pc (te_384 pc) := te_384_0_ok
theorem ho_385 : (xm_y n_385).cls = "RobotCellHouseModel" := rfl
def dn_385_0_0 : List (Nat × Instr × Nat) := [(0, .aload_n 0, 1), (1, .getfield 8, 3), (4, .iconst 1, 1), (5, .iconst 0, 1), (6, .iastore, 1), (7, .aload_n 0, 1), (8, .getfield 8, 3), (11, .iconst 2, 1), (12, .iload_n 1, 1), (13, .iastore, 1), (14, .aload_n 0, 1), (15, .getfield 8, 3), (18, .iconst 3, 1), (19, .iload_n 2, 1), (20, .iastore, 1), (21, .aload_n 0, 1), (22, .getfield 8, 3), (25, .iconst 4, 1), (26, .aload_n 0, 1), (27, .getfield 8, 3), (30, .iconst 0, 1), (31, .iaload, 1), (32, .iastore, 1), (33, .aload_n 0, 1), (34, .iconst 2, 1)]
set_option maxRecDepth 20000 in
theorem dn_385_0_0_ok : dn_385_0_0.all (fun q => decide (decode (xm_b n_385) q.1 = .ok (q.2.1, q.2.2))) = true := xa_g_ok (by decide +kernel)
def dn_385_0_1 : List (Nat × Instr × Nat) := [(35, .iload_n 1, 1), (36, .iload_n 2, 1), (37, .invokevirtual 693, 3), (40, .iconst 0, 1), (41, .istore_n 3, 1), (42, .iload_n 3, 1), (43, .aload_n 0, 1), (44, .getfield 269, 3), (47, .if_icmp .ge 60, 3), (50, .iload_n 3, 1), (51, .invokestatic 294, 3), (54, .istore 4, 2), (56, .aload_n 0, 1), (57, .iload_n 3, 1), (58, .invokevirtual 752, 3), (61, .aload_n 0, 1), (62, .getfield 8, 3), (65, .iload 4, 2), (67, .iconst 0, 1), (68, .iadd, 1), (69, .iconst 0, 1), (70, .iastore, 1), (71, .iconst 0, 1), (72, .istore 5, 2), (74, .iload 5, 2)]
set_option maxRecDepth 20000 in
theorem dn_385_0_1_ok : dn_385_0_1.all (fun q => decide (decode (xm_b n_385) q.1 = .ok (q.2.1, q.2.2))) = true := xa_g_ok (by decide +kernel)
def dn_385_0_2 : List (Nat × Instr × Nat) := [(76, .bipush 6, 2), (78, .if_icmp .ge 23, 3), (81, .aload_n 0, 1), (82, .getfield 8, 3), (85, .iload 4, 2), (87, .bipush 22, 2), (89, .iadd, 1), (90, .iload 5, 2), (92, .iadd, 1), (93, .iconst 0, 1), (94, .iastore, 1), (95, .iinc 5 1, 3), (98, .goto (-24), 3), (101, .iinc 3 1, 3), (104, .goto (-62), 3), (107, .return_, 1)]
set_option maxRecDepth 20000 in
theorem dn_385_0_2_ok : dn_385_0_2.all (fun q => decide (decode (xm_b n_385) q.1 = .ok (q.2.1, q.2.2))) = true := xa_g_ok (by decide +kernel)
def te_385_0 : Nat → eE := (e_T 21 (e_T 11 (e_T 5 (e_T 1 (e_T 0 (e_L 0 (0, ei_load 0 2 1, 0, 0)) (e_L 1 (0, ei_getf eft elay 12 0 4, 0, 0))) (e_T 4 (e_L 4 (0, ei_push (0, 1) 5, 0, 0)) (e_L 5 (0, ei_push (0, 0) 6, 0, 0)))) (e_T 7 (e_T 6 (e_L 6 (0, ei_ast elay false 7, 0, 0)) (e_L 7 (0, ei_load 0 2 8, 0, 0))) (e_T 8 (e_L 8 (0, ei_getf eft elay 12 0 11, 0, 0)) (e_L 11 (0, ei_push (0, 2) 12, 0, 0))))) (e_T 15 (e_T 13 (e_T 12 (e_L 12 (0, ei_load 1 0 13, 0, 0)) (e_L 13 (0, ei_ast elay false 14, 0, 0))) (e_T 14 (e_L 14 (0, ei_load 0 2 15, 0, 0)) (e_L 15 (0, ei_getf eft elay 12 0 18, 0, 0)))) (e_T 19 (e_T 18 (e_L 18 (0, ei_push (0, 3) 19, 0, 0)) (e_L 19 (0, ei_load 2 0 20, 0, 0))) (e_T 20 (e_L 20 (0, ei_ast elay false 21, 0, 0)) (e_L 21 (0, ei_load 0 2 22, 0, 0)))))) (e_T 33 (e_T 27 (e_T 25 (e_T 22 (e_L 22 (0, ei_getf eft elay 12 0 25, 0, 0)) (e_L 25 (0, ei_push (0, 4) 26, 0, 0))) (e_T 26 (e_L 26 (0, ei_load 0 2 27, 0, 0)) (e_L 27 (0, ei_getf eft elay 12 0 30, 0, 0)))) (e_T 31 (e_T 30 (e_L 30 (0, ei_push (0, 0) 31, 0, 0)) (e_L 31 (0, ei_ald elay false 32, 0, 0))) (e_T 32 (e_L 32 (0, ei_ast elay false 33, 0, 0)) (e_L 33 (0, ei_load 0 2 34, 0, 0))))) (e_T 37 (e_T 35 (e_T 34 (e_L 34 (0, ei_push (0, 2) 35, 0, 0)) (e_L 35 (0, ei_load 1 0 36, 0, 0))) (e_T 36 (e_L 36 (0, ei_load 2 0 37, 0, 0)) (e_L 37 (2, e_nof, 319, 4)))) (e_T 41 (e_T 40 (e_L 40 (0, ei_push (0, 0) 41, 0, 0)) (e_L 41 (0, ei_stor 3 0 42, 0, 0))) (e_T 42 (e_L 42 (0, ei_load 3 0 43, 0, 0)) (e_T 43 (e_L 43 (0, ei_load 0 2 44, 0, 0)) (e_L 44 (0, ei_getf eft elay 12 10 47, 0, 0))))))))
set_option maxRecDepth 20000 in
set_option maxHeartbeats 4000000 in
theorem te_385_0_ok : ∀ pc, e_EOq eft cls elay eI n_385 pc (te_385_0 pc) :=
  (e_Tok2
  (e_Tok2
  (e_Tok2
  (e_Tok2
  (e_Tok2
  (e_Lok (ld_aload_n_0 (x_dk dn_385_0_0_ok 0 rfl)))
  (e_Lok (lk_12_8g ho_385 (x_dk dn_385_0_0_ok 1 rfl))))
  (e_Tok2
  (e_Lok (ps_iconst_1 (x_dk dn_385_0_0_ok 2 rfl)))
  (e_Lok (ps_iconst_0 (x_dk dn_385_0_0_ok 3 rfl)))))
  (e_Tok2
  (e_Tok2
  (e_Lok (sm_iastore (x_dk dn_385_0_0_ok 4 rfl)))
  (e_Lok (ld_aload_n_0 (x_dk dn_385_0_0_ok 5 rfl))))
  (e_Tok2
  (e_Lok (lk_12_8g ho_385 (x_dk dn_385_0_0_ok 6 rfl)))
  (e_Lok (ps_iconst_2 (x_dk dn_385_0_0_ok 7 rfl))))))
  (e_Tok2
  (e_Tok2
  (e_Tok2
  (e_Lok (ld_iload_n_1 (x_dk dn_385_0_0_ok 8 rfl)))
  (e_Lok (sm_iastore (x_dk dn_385_0_0_ok 9 rfl))))
  (e_Tok2
  (e_Lok (ld_aload_n_0 (x_dk dn_385_0_0_ok 10 rfl)))
  (e_Lok (lk_12_8g ho_385 (x_dk dn_385_0_0_ok 11 rfl)))))
  (e_Tok2
  (e_Tok2
  (e_Lok (ps_iconst_3 (x_dk dn_385_0_0_ok 12 rfl)))
  (e_Lok (ld_iload_n_2 (x_dk dn_385_0_0_ok 13 rfl))))
  (e_Tok2
  (e_Lok (sm_iastore (x_dk dn_385_0_0_ok 14 rfl)))
  (e_Lok (ld_aload_n_0 (x_dk dn_385_0_0_ok 15 rfl)))))))
  (e_Tok2
  (e_Tok2
  (e_Tok2
  (e_Tok2
  (e_Lok (lk_12_8g ho_385 (x_dk dn_385_0_0_ok 16 rfl)))
  (e_Lok (ps_iconst_4 (x_dk dn_385_0_0_ok 17 rfl))))
  (e_Tok2
  (e_Lok (ld_aload_n_0 (x_dk dn_385_0_0_ok 18 rfl)))
  (e_Lok (lk_12_8g ho_385 (x_dk dn_385_0_0_ok 19 rfl)))))
  (e_Tok2
  (e_Tok2
  (e_Lok (ps_iconst_0 (x_dk dn_385_0_0_ok 20 rfl)))
  (e_Lok (sm_iaload (x_dk dn_385_0_0_ok 21 rfl))))
  (e_Tok2
  (e_Lok (sm_iastore (x_dk dn_385_0_0_ok 22 rfl)))
  (e_Lok (ld_aload_n_0 (x_dk dn_385_0_0_ok 23 rfl))))))
  (e_Tok2
  (e_Tok2
  (e_Tok2
  (e_Lok (ps_iconst_2 (x_dk dn_385_0_0_ok 24 rfl)))
  (e_Lok (ld_iload_n_1 (x_dk dn_385_0_1_ok 0 rfl))))
  (e_Tok2
  (e_Lok (ld_iload_n_2 (x_dk dn_385_0_1_ok 1 rfl)))
  (e_Lok (lk_12_693 ho_385 (x_dk dn_385_0_1_ok 2 rfl)))))
  (e_Tok2
  (e_Tok2
  (e_Lok (ps_iconst_0 (x_dk dn_385_0_1_ok 3 rfl)))
  (e_Lok (e_st (I := eI) (er_istore_n (i := 3) (x_dk dn_385_0_1_ok 4 rfl) (by decide +kernel)) nx_stor)))
  (e_Tok2
  (e_Lok (ld_iload_n_3 (x_dk dn_385_0_1_ok 5 rfl)))
  (e_Tok2
  (e_Lok (ld_aload_n_0 (x_dk dn_385_0_1_ok 6 rfl)))
  (e_Lok (lk_12_269g ho_385 (x_dk dn_385_0_1_ok 7 rfl)))))))))
def te_385_33 : Nat → eE := (e_T 72 (e_T 61 (e_T 54 (e_T 50 (e_T 47 (e_L 47 (0, ei_if2 3 107 50, 0, 0)) (e_L 50 (0, ei_load 3 0 51, 0, 0))) (e_T 51 (e_L 51 (2, e_nof, 268, 1)) (e_L 54 (0, ei_stor 4 0 56, 0, 0)))) (e_T 57 (e_T 56 (e_L 56 (0, ei_load 0 2 57, 0, 0)) (e_L 57 (0, ei_load 3 0 58, 0, 0))) (e_T 58 (e_L 58 (2, e_nof, 383, 2)) (e_L 61 (0, ei_load 0 2 62, 0, 0))))) (e_T 68 (e_T 65 (e_T 62 (e_L 62 (0, ei_getf eft elay 12 0 65, 0, 0)) (e_L 65 (0, ei_load 4 0 67, 0, 0))) (e_T 67 (e_L 67 (0, ei_push (0, 0) 68, 0, 0)) (e_L 68 (0, ei_bin eF_add 69, 0, 0)))) (e_T 70 (e_T 69 (e_L 69 (0, ei_push (0, 0) 70, 0, 0)) (e_L 70 (0, ei_ast elay false 71, 0, 0))) (e_T 71 (e_L 71 (0, ei_push (0, 0) 72, 0, 0)) (e_L 72 (0, ei_stor 5 0 74, 0, 0)))))) (e_T 89 (e_T 81 (e_T 76 (e_T 74 (e_L 74 (0, ei_load 5 0 76, 0, 0)) (e_L 76 (0, ei_push (0, 6) 78, 0, 0))) (e_T 78 (e_L 78 (0, ei_if2 3 101 81, 0, 0)) (e_L 81 (0, ei_load 0 2 82, 0, 0)))) (e_T 85 (e_T 82 (e_L 82 (0, ei_getf eft elay 12 0 85, 0, 0)) (e_L 85 (0, ei_load 4 0 87, 0, 0))) (e_T 87 (e_L 87 (0, ei_push (0, 22) 89, 0, 0)) (e_L 89 (0, ei_bin eF_add 90, 0, 0))))) (e_T 94 (e_T 92 (e_T 90 (e_L 90 (0, ei_load 5 0 92, 0, 0)) (e_L 92 (0, ei_bin eF_add 93, 0, 0))) (e_T 93 (e_L 93 (0, ei_push (0, 0) 94, 0, 0)) (e_L 94 (0, ei_ast elay false 95, 0, 0)))) (e_T 98 (e_T 95 (e_L 95 (0, ei_inc 5 1 98, 0, 0)) (e_L 98 (0, ei_goto 74, 0, 0))) (e_T 101 (e_L 101 (0, ei_inc 3 1 104, 0, 0)) (e_T 104 (e_L 104 (0, ei_goto 42, 0, 0)) (e_L 107 (1, e_nof, 0, 0))))))))
set_option maxRecDepth 20000 in
set_option maxHeartbeats 4000000 in
theorem te_385_33_ok : ∀ pc, e_EOq eft cls elay eI n_385 pc (te_385_33 pc) :=
  (e_Tok2
  (e_Tok2
  (e_Tok2
  (e_Tok2
  (e_Tok2
  (e_Lok (e_st (I := eI) (er_icmpge (off := 60) (tg := 107) (x_dk dn_385_0_1_ok 8 rfl) (by decide)) nx_if2))
  (e_Lok (ld_iload_n_3 (x_dk dn_385_0_1_ok 9 rfl))))
  (e_Tok2
  (e_Lok (lk_12_294 ho_385 (x_dk dn_385_0_1_ok 10 rfl)))
  (e_Lok (e_st (I := eI) (er_istore (i := 4) (x_dk dn_385_0_1_ok 11 rfl) (by decide +kernel)) nx_stor))))
  (e_Tok2
  (e_Tok2
  (e_Lok (ld_aload_n_0 (x_dk dn_385_0_1_ok 12 rfl)))
  (e_Lok (ld_iload_n_3 (x_dk dn_385_0_1_ok 13 rfl))))
  (e_Tok2
  (e_Lok (lk_12_752 ho_385 (x_dk dn_385_0_1_ok 14 rfl)))
  (e_Lok (ld_aload_n_0 (x_dk dn_385_0_1_ok 15 rfl))))))
  (e_Tok2
  (e_Tok2
  (e_Tok2
  (e_Lok (lk_12_8g ho_385 (x_dk dn_385_0_1_ok 16 rfl)))
  (e_Lok (ld_iload_4 (x_dk dn_385_0_1_ok 17 rfl))))
  (e_Tok2
  (e_Lok (ps_iconst_0 (x_dk dn_385_0_1_ok 18 rfl)))
  (e_Lok (sm_iadd (x_dk dn_385_0_1_ok 19 rfl)))))
  (e_Tok2
  (e_Tok2
  (e_Lok (ps_iconst_0 (x_dk dn_385_0_1_ok 20 rfl)))
  (e_Lok (sm_iastore (x_dk dn_385_0_1_ok 21 rfl))))
  (e_Tok2
  (e_Lok (ps_iconst_0 (x_dk dn_385_0_1_ok 22 rfl)))
  (e_Lok (e_st (I := eI) (er_istore (i := 5) (x_dk dn_385_0_1_ok 23 rfl) (by decide +kernel)) nx_stor))))))
  (e_Tok2
  (e_Tok2
  (e_Tok2
  (e_Tok2
  (e_Lok (ld_iload_5 (x_dk dn_385_0_1_ok 24 rfl)))
  (e_Lok (ps_bipush_6 (x_dk dn_385_0_2_ok 0 rfl))))
  (e_Tok2
  (e_Lok (e_st (I := eI) (er_icmpge (off := 23) (tg := 101) (x_dk dn_385_0_2_ok 1 rfl) (by decide)) nx_if2))
  (e_Lok (ld_aload_n_0 (x_dk dn_385_0_2_ok 2 rfl)))))
  (e_Tok2
  (e_Tok2
  (e_Lok (lk_12_8g ho_385 (x_dk dn_385_0_2_ok 3 rfl)))
  (e_Lok (ld_iload_4 (x_dk dn_385_0_2_ok 4 rfl))))
  (e_Tok2
  (e_Lok (ps_bipush_22 (x_dk dn_385_0_2_ok 5 rfl)))
  (e_Lok (sm_iadd (x_dk dn_385_0_2_ok 6 rfl))))))
  (e_Tok2
  (e_Tok2
  (e_Tok2
  (e_Lok (ld_iload_5 (x_dk dn_385_0_2_ok 7 rfl)))
  (e_Lok (sm_iadd (x_dk dn_385_0_2_ok 8 rfl))))
  (e_Tok2
  (e_Lok (ps_iconst_0 (x_dk dn_385_0_2_ok 9 rfl)))
  (e_Lok (sm_iastore (x_dk dn_385_0_2_ok 10 rfl)))))
  (e_Tok2
  (e_Tok2
  (e_Lok (e_st (I := eI) (er_iinc (i := 5) (n := 1) (x_dk dn_385_0_2_ok 11 rfl) (by decide +kernel) (by decide)) nx_inc))
  (e_Lok (e_st (I := eI) (er_goto (off := (-24)) (tg := 74) (x_dk dn_385_0_2_ok 12 rfl) (by decide)) nx_goto)))
  (e_Tok2
  (e_Lok (e_st (I := eI) (er_iinc (i := 3) (n := 1) (x_dk dn_385_0_2_ok 13 rfl) (by decide +kernel) (by decide)) nx_inc))
  (e_Tok2
  (e_Lok (e_st (I := eI) (er_goto (off := (-62)) (tg := 42) (x_dk dn_385_0_2_ok 14 rfl) (by decide)) nx_goto))
  (e_Lok (e_rt (I := eI) (k := 0) ⟨(x_dk dn_385_0_2_ok 15 rfl), rfl⟩))))))))
def te_385 : Nat → eE := (e_T 44 te_385_0 te_385_33)
theorem te_385_ok : ∀ pc, e_EOq eft cls elay eI n_385 pc (te_385 pc) := (e_Tok2 (te_385_0_ok) (te_385_33_ok))
theorem ho_386 : (xm_y n_386).cls = "RobotCellHouseModel" := rfl
def dn_386_0_0 : List (Nat × Instr × Nat) := [(0, .iload_n 1, 1), (1, .iload_n 3, 1), (2, .iadd, 1), (3, .iload_n 2, 1), (4, .if_icmp .ge 9, 3), (7, .iload_n 1, 1), (8, .iload_n 3, 1), (9, .iadd, 1), (10, .goto 4, 3), (13, .iload_n 2, 1), (14, .istore 4, 2), (16, .iload 4, 2), (18, .ifCond .gt 6, 3), (21, .iload 4, 2), (23, .ireturn, 1), (24, .iconst 0, 1), (25, .istore 5, 2), (27, .iload 5, 2), (29, .iload 4, 2), (31, .if_icmp .ge 68, 3), (34, .iload 5, 2), (36, .iload 4, 2), (38, .iadd, 1), (39, .iconst 1, 1), (40, .iadd, 1)]
set_option maxRecDepth 20000 in
theorem dn_386_0_0_ok : dn_386_0_0.all (fun q => decide (decode (xm_b n_386) q.1 = .ok (q.2.1, q.2.2))) = true := xa_g_ok (by decide +kernel)
def dn_386_0_1 : List (Nat × Instr × Nat) := [(41, .iconst 2, 1), (42, .idiv, 1), (43, .istore 6, 2), (45, .iload 6, 2), (47, .iload_n 3, 1), (48, .iadd, 1), (49, .iconst 1, 1), (50, .isub, 1), (51, .iload_n 3, 1), (52, .idiv, 1), (53, .i2l, 1), (54, .lstore 7, 2), (56, .lload 7, 2), (58, .iload 6, 2), (60, .i2l, 1), (61, .lmul, 1), (62, .iload_n 3, 1), (63, .i2l, 1), (64, .lload 7, 2), (66, .lload 7, 2), (68, .lconst 1, 1), (69, .lsub, 1), (70, .lmul, 1), (71, .ldc2_w 750, 3), (74, .ldiv, 1)]
set_option maxRecDepth 20000 in
theorem dn_386_0_1_ok : dn_386_0_1.all (fun q => decide (decode (xm_b n_386) q.1 = .ok (q.2.1, q.2.2))) = true := xa_g_ok (by decide +kernel)
def dn_386_0_2 : List (Nat × Instr × Nat) := [(75, .lmul, 1), (76, .lsub, 1), (77, .iload_n 0, 1), (78, .i2l, 1), (79, .lcmp, 1), (80, .ifCond .gt 10, 3), (83, .iload 6, 2), (85, .istore 5, 2), (87, .goto 9, 3), (90, .iload 6, 2), (92, .iconst 1, 1), (93, .isub, 1), (94, .istore 4, 2), (96, .goto (-69), 3), (99, .iload 5, 2), (101, .ireturn, 1)]
set_option maxRecDepth 20000 in
theorem dn_386_0_2_ok : dn_386_0_2.all (fun q => decide (decode (xm_b n_386) q.1 = .ok (q.2.1, q.2.2))) = true := xa_g_ok (by decide +kernel)
def te_386_0 : Nat → eE := (e_T 24 (e_T 9 (e_T 3 (e_T 1 (e_T 0 (e_L 0 (0, ei_load 1 0 1, 0, 0)) (e_L 1 (0, ei_load 3 0 2, 0, 0))) (e_T 2 (e_L 2 (0, ei_bin eF_add 3, 0, 0)) (e_L 3 (0, ei_load 2 0 4, 0, 0)))) (e_T 7 (e_T 4 (e_L 4 (0, ei_if2 3 13 7, 0, 0)) (e_L 7 (0, ei_load 1 0 8, 0, 0))) (e_T 8 (e_L 8 (0, ei_load 3 0 9, 0, 0)) (e_L 9 (0, ei_bin eF_add 10, 0, 0))))) (e_T 16 (e_T 13 (e_T 10 (e_L 10 (0, ei_goto 14, 0, 0)) (e_L 13 (0, ei_load 2 0 14, 0, 0))) (e_T 14 (e_L 14 (0, ei_stor 4 0 16, 0, 0)) (e_L 16 (0, ei_load 4 0 18, 0, 0)))) (e_T 21 (e_T 18 (e_L 18 (0, ei_if1 4 24 21, 0, 0)) (e_L 21 (0, ei_load 4 0 23, 0, 0))) (e_T 23 (e_L 23 (1, e_nof, 1, 0)) (e_L 24 (0, ei_push (0, 0) 25, 0, 0)))))) (e_T 39 (e_T 31 (e_T 27 (e_T 25 (e_L 25 (0, ei_stor 5 0 27, 0, 0)) (e_L 27 (0, ei_load 5 0 29, 0, 0))) (e_T 29 (e_L 29 (0, ei_load 4 0 31, 0, 0)) (e_L 31 (0, ei_if2 3 99 34, 0, 0)))) (e_T 36 (e_T 34 (e_L 34 (0, ei_load 5 0 36, 0, 0)) (e_L 36 (0, ei_load 4 0 38, 0, 0))) (e_T 38 (e_L 38 (0, ei_bin eF_add 39, 0, 0)) (e_L 39 (0, ei_push (0, 1) 40, 0, 0))))) (e_T 43 (e_T 41 (e_T 40 (e_L 40 (0, ei_bin eF_add 41, 0, 0)) (e_L 41 (0, ei_push (0, 2) 42, 0, 0))) (e_T 42 (e_L 42 (0, ei_bin eF_div 43, 0, 0)) (e_L 43 (0, ei_stor 6 0 45, 0, 0)))) (e_T 47 (e_T 45 (e_L 45 (0, ei_load 6 0 47, 0, 0)) (e_L 47 (0, ei_load 3 0 48, 0, 0))) (e_T 48 (e_L 48 (0, ei_bin eF_add 49, 0, 0)) (e_T 49 (e_L 49 (0, ei_push (0, 1) 50, 0, 0)) (e_L 50 (0, ei_bin eF_sub 51, 0, 0))))))))
set_option maxRecDepth 20000 in
set_option maxHeartbeats 4000000 in
theorem te_386_0_ok : ∀ pc, e_EOq eft cls elay eI n_386 pc (te_386_0 pc) :=
  (e_Tok2
  (e_Tok2
  (e_Tok2
  (e_Tok2
  (e_Tok2
  (e_Lok (ld_iload_n_1 (x_dk dn_386_0_0_ok 0 rfl)))
  (e_Lok (ld_iload_n_3 (x_dk dn_386_0_0_ok 1 rfl))))
  (e_Tok2
  (e_Lok (sm_iadd (x_dk dn_386_0_0_ok 2 rfl)))
  (e_Lok (ld_iload_n_2 (x_dk dn_386_0_0_ok 3 rfl)))))
  (e_Tok2
  (e_Tok2
  (e_Lok (e_st (I := eI) (er_icmpge (off := 9) (tg := 13) (x_dk dn_386_0_0_ok 4 rfl) (by decide)) nx_if2))
  (e_Lok (ld_iload_n_1 (x_dk dn_386_0_0_ok 5 rfl))))
  (e_Tok2
  (e_Lok (ld_iload_n_3 (x_dk dn_386_0_0_ok 6 rfl)))
  (e_Lok (sm_iadd (x_dk dn_386_0_0_ok 7 rfl))))))
  (e_Tok2
  (e_Tok2
  (e_Tok2
  (e_Lok (e_st (I := eI) (er_goto (off := 4) (tg := 14) (x_dk dn_386_0_0_ok 8 rfl) (by decide)) nx_goto))
  (e_Lok (ld_iload_n_2 (x_dk dn_386_0_0_ok 9 rfl))))
  (e_Tok2
  (e_Lok (e_st (I := eI) (er_istore (i := 4) (x_dk dn_386_0_0_ok 10 rfl) (by decide +kernel)) nx_stor))
  (e_Lok (ld_iload_4 (x_dk dn_386_0_0_ok 11 rfl)))))
  (e_Tok2
  (e_Tok2
  (e_Lok (e_st (I := eI) (er_ifgt (off := 6) (tg := 24) (x_dk dn_386_0_0_ok 12 rfl) (by decide)) nx_if1))
  (e_Lok (ld_iload_4 (x_dk dn_386_0_0_ok 13 rfl))))
  (e_Tok2
  (e_Lok (e_rt (I := eI) (k := 1) ⟨(x_dk dn_386_0_0_ok 14 rfl), rfl⟩))
  (e_Lok (ps_iconst_0 (x_dk dn_386_0_0_ok 15 rfl)))))))
  (e_Tok2
  (e_Tok2
  (e_Tok2
  (e_Tok2
  (e_Lok (e_st (I := eI) (er_istore (i := 5) (x_dk dn_386_0_0_ok 16 rfl) (by decide +kernel)) nx_stor))
  (e_Lok (ld_iload_5 (x_dk dn_386_0_0_ok 17 rfl))))
  (e_Tok2
  (e_Lok (ld_iload_4 (x_dk dn_386_0_0_ok 18 rfl)))
  (e_Lok (e_st (I := eI) (er_icmpge (off := 68) (tg := 99) (x_dk dn_386_0_0_ok 19 rfl) (by decide)) nx_if2))))
  (e_Tok2
  (e_Tok2
  (e_Lok (ld_iload_5 (x_dk dn_386_0_0_ok 20 rfl)))
  (e_Lok (ld_iload_4 (x_dk dn_386_0_0_ok 21 rfl))))
  (e_Tok2
  (e_Lok (sm_iadd (x_dk dn_386_0_0_ok 22 rfl)))
  (e_Lok (ps_iconst_1 (x_dk dn_386_0_0_ok 23 rfl))))))
  (e_Tok2
  (e_Tok2
  (e_Tok2
  (e_Lok (sm_iadd (x_dk dn_386_0_0_ok 24 rfl)))
  (e_Lok (ps_iconst_2 (x_dk dn_386_0_1_ok 0 rfl))))
  (e_Tok2
  (e_Lok (e_st (I := eI) (er_idiv (x_dk dn_386_0_1_ok 1 rfl)) nx_bin))
  (e_Lok (e_st (I := eI) (er_istore (i := 6) (x_dk dn_386_0_1_ok 2 rfl) (by decide +kernel)) nx_stor))))
  (e_Tok2
  (e_Tok2
  (e_Lok (ld_iload_6 (x_dk dn_386_0_1_ok 3 rfl)))
  (e_Lok (ld_iload_n_3 (x_dk dn_386_0_1_ok 4 rfl))))
  (e_Tok2
  (e_Lok (sm_iadd (x_dk dn_386_0_1_ok 5 rfl)))
  (e_Tok2
  (e_Lok (ps_iconst_1 (x_dk dn_386_0_1_ok 6 rfl)))
  (e_Lok (sm_isub (x_dk dn_386_0_1_ok 7 rfl)))))))))
def te_386_33 : Nat → eE := (e_T 71 (e_T 61 (e_T 54 (e_T 52 (e_T 51 (e_L 51 (0, ei_load 3 0 52, 0, 0)) (e_L 52 (0, ei_bin eF_div 53, 0, 0))) (e_T 53 (e_L 53 (0, ei_un (fun x => (4, x)) 54, 0, 0)) (e_L 54 (0, ei_stor 7 1 56, 0, 0)))) (e_T 58 (e_T 56 (e_L 56 (0, ei_load 7 1 58, 0, 0)) (e_L 58 (0, ei_load 6 0 60, 0, 0))) (e_T 60 (e_L 60 (0, ei_un (fun x => (4, x)) 61, 0, 0)) (e_L 61 (0, ei_binL eG_mul 62, 0, 0))))) (e_T 66 (e_T 63 (e_T 62 (e_L 62 (0, ei_load 3 0 63, 0, 0)) (e_L 63 (0, ei_un (fun x => (4, x)) 64, 0, 0))) (e_T 64 (e_L 64 (0, ei_load 7 1 66, 0, 0)) (e_L 66 (0, ei_load 7 1 68, 0, 0)))) (e_T 69 (e_T 68 (e_L 68 (0, ei_push (4, 1) 69, 0, 0)) (e_L 69 (0, ei_binL eG_sub 70, 0, 0))) (e_T 70 (e_L 70 (0, ei_binL eG_mul 71, 0, 0)) (e_L 71 (0, ei_push (4, 2) 74, 0, 0)))))) (e_T 83 (e_T 77 (e_T 75 (e_T 74 (e_L 74 (0, ei_binL eG_div 75, 0, 0)) (e_L 75 (0, ei_binL eG_mul 76, 0, 0))) (e_T 76 (e_L 76 (0, ei_binL eG_sub 77, 0, 0)) (e_L 77 (0, ei_load 0 0 78, 0, 0)))) (e_T 79 (e_T 78 (e_L 78 (0, ei_un (fun x => (4, x)) 79, 0, 0)) (e_L 79 (0, ei_binL eG_cmp 80, 0, 0))) (e_T 80 (e_L 80 (0, ei_if1 4 90 83, 0, 0)) (e_L 83 (0, ei_load 6 0 85, 0, 0))))) (e_T 92 (e_T 87 (e_T 85 (e_L 85 (0, ei_stor 5 0 87, 0, 0)) (e_L 87 (0, ei_goto 96, 0, 0))) (e_T 90 (e_L 90 (0, ei_load 6 0 92, 0, 0)) (e_L 92 (0, ei_push (0, 1) 93, 0, 0)))) (e_T 94 (e_T 93 (e_L 93 (0, ei_bin eF_sub 94, 0, 0)) (e_L 94 (0, ei_stor 4 0 96, 0, 0))) (e_T 96 (e_L 96 (0, ei_goto 27, 0, 0)) (e_T 99 (e_L 99 (0, ei_load 5 0 101, 0, 0)) (e_L 101 (1, e_nof, 1, 0))))))))
set_option maxRecDepth 20000 in
set_option maxHeartbeats 4000000 in
theorem te_386_33_ok : ∀ pc, e_EOq eft cls elay eI n_386 pc (te_386_33 pc) :=
  (e_Tok2
  (e_Tok2
  (e_Tok2
  (e_Tok2
  (e_Tok2
  (e_Lok (ld_iload_n_3 (x_dk dn_386_0_1_ok 8 rfl)))
  (e_Lok (e_st (I := eI) (er_idiv (x_dk dn_386_0_1_ok 9 rfl)) nx_bin)))
  (e_Tok2
  (e_Lok (e_st (I := eI) (er_i2l (x_dk dn_386_0_1_ok 10 rfl)) (nx_un (fun _ => rfl))))
  (e_Lok (e_st (I := eI) (er_lstore (i := 7) (x_dk dn_386_0_1_ok 11 rfl) (by decide +kernel)) nx_stor))))
  (e_Tok2
  (e_Tok2
  (e_Lok (ld_lload_7 (x_dk dn_386_0_1_ok 12 rfl)))
  (e_Lok (ld_iload_6 (x_dk dn_386_0_1_ok 13 rfl))))
  (e_Tok2
  (e_Lok (e_st (I := eI) (er_i2l (x_dk dn_386_0_1_ok 14 rfl)) (nx_un (fun _ => rfl))))
  (e_Lok (e_st (I := eI) (er_lmul (x_dk dn_386_0_1_ok 15 rfl)) (nx_binL bG_lmul))))))
  (e_Tok2
  (e_Tok2
  (e_Tok2
  (e_Lok (ld_iload_n_3 (x_dk dn_386_0_1_ok 16 rfl)))
  (e_Lok (e_st (I := eI) (er_i2l (x_dk dn_386_0_1_ok 17 rfl)) (nx_un (fun _ => rfl)))))
  (e_Tok2
  (e_Lok (ld_lload_7 (x_dk dn_386_0_1_ok 18 rfl)))
  (e_Lok (ld_lload_7 (x_dk dn_386_0_1_ok 19 rfl)))))
  (e_Tok2
  (e_Tok2
  (e_Lok (ps_lconst_1 (x_dk dn_386_0_1_ok 20 rfl)))
  (e_Lok (e_st (I := eI) (er_lsub (x_dk dn_386_0_1_ok 21 rfl)) (nx_binL bG_lsub))))
  (e_Tok2
  (e_Lok (e_st (I := eI) (er_lmul (x_dk dn_386_0_1_ok 22 rfl)) (nx_binL bG_lmul)))
  (e_Lok (e_st (I := eI) (er_ldc2 (ix := 750) (z := 2) (v := 2) (x_dk dn_386_0_1_ok 23 rfl) (in_t12 (List.mem_of_getElem? (i := 185) rfl) rfl) (by decide)) (nx_push (Or.inl rfl))))))))
  (e_Tok2
  (e_Tok2
  (e_Tok2
  (e_Tok2
  (e_Lok (e_st (I := eI) (er_ldiv (x_dk dn_386_0_1_ok 24 rfl)) (nx_binL bG_ldiv)))
  (e_Lok (e_st (I := eI) (er_lmul (x_dk dn_386_0_2_ok 0 rfl)) (nx_binL bG_lmul))))
  (e_Tok2
  (e_Lok (e_st (I := eI) (er_lsub (x_dk dn_386_0_2_ok 1 rfl)) (nx_binL bG_lsub)))
  (e_Lok (ld_iload_n_0 (x_dk dn_386_0_2_ok 2 rfl)))))
  (e_Tok2
  (e_Tok2
  (e_Lok (e_st (I := eI) (er_i2l (x_dk dn_386_0_2_ok 3 rfl)) (nx_un (fun _ => rfl))))
  (e_Lok (e_st (I := eI) (er_lcmp (x_dk dn_386_0_2_ok 4 rfl)) (nx_binL bG_lcmp))))
  (e_Tok2
  (e_Lok (e_st (I := eI) (er_ifgt (off := 10) (tg := 90) (x_dk dn_386_0_2_ok 5 rfl) (by decide)) nx_if1))
  (e_Lok (ld_iload_6 (x_dk dn_386_0_2_ok 6 rfl))))))
  (e_Tok2
  (e_Tok2
  (e_Tok2
  (e_Lok (e_st (I := eI) (er_istore (i := 5) (x_dk dn_386_0_2_ok 7 rfl) (by decide +kernel)) nx_stor))
  (e_Lok (e_st (I := eI) (er_goto (off := 9) (tg := 96) (x_dk dn_386_0_2_ok 8 rfl) (by decide)) nx_goto)))
  (e_Tok2
  (e_Lok (ld_iload_6 (x_dk dn_386_0_2_ok 9 rfl)))
  (e_Lok (ps_iconst_1 (x_dk dn_386_0_2_ok 10 rfl)))))
  (e_Tok2
  (e_Tok2
  (e_Lok (sm_isub (x_dk dn_386_0_2_ok 11 rfl)))
  (e_Lok (e_st (I := eI) (er_istore (i := 4) (x_dk dn_386_0_2_ok 12 rfl) (by decide +kernel)) nx_stor)))
  (e_Tok2
  (e_Lok (e_st (I := eI) (er_goto (off := (-69)) (tg := 27) (x_dk dn_386_0_2_ok 13 rfl) (by decide)) nx_goto))
  (e_Tok2
  (e_Lok (ld_iload_5 (x_dk dn_386_0_2_ok 14 rfl)))
  (e_Lok (e_rt (I := eI) (k := 1) ⟨(x_dk dn_386_0_2_ok 15 rfl), rfl⟩))))))))
def te_386 : Nat → eE := (e_T 50 te_386_0 te_386_33)
theorem te_386_ok : ∀ pc, e_EOq eft cls elay eI n_386 pc (te_386 pc) := (e_Tok2 (te_386_0_ok) (te_386_33_ok))
theorem ho_387 : (xm_y n_387).cls = "RobotCellHouseModel" := rfl
def dn_387_0_0 : List (Nat × Instr × Nat) := [(0, .iload_n 0, 1), (1, .iload_n 1, 1), (2, .if_icmp .le 9, 3), (5, .iload_n 0, 1), (6, .iload_n 1, 1), (7, .isub, 1), (8, .goto 16, 3), (11, .iload_n 0, 1), (12, .iload_n 1, 1), (13, .ineg, 1), (14, .if_icmp .ge 9, 3), (17, .iload_n 0, 1), (18, .iload_n 1, 1), (19, .iadd, 1), (20, .goto 4, 3), (23, .iconst 0, 1), (24, .ireturn, 1)]
set_option maxRecDepth 20000 in
theorem dn_387_0_0_ok : dn_387_0_0.all (fun q => decide (decode (xm_b n_387) q.1 = .ok (q.2.1, q.2.2))) = true := xa_g_ok (by decide +kernel)
def te_387_0 : Nat → eE := (e_T 11 (e_T 5 (e_T 1 (e_T 0 (e_L 0 (0, ei_load 0 0 1, 0, 0)) (e_L 1 (0, ei_load 1 0 2, 0, 0))) (e_T 2 (e_L 2 (0, ei_if2 5 11 5, 0, 0)) (e_L 5 (0, ei_load 0 0 6, 0, 0)))) (e_T 7 (e_T 6 (e_L 6 (0, ei_load 1 0 7, 0, 0)) (e_L 7 (0, ei_bin eF_sub 8, 0, 0))) (e_T 8 (e_L 8 (0, ei_goto 24, 0, 0)) (e_L 11 (0, ei_load 0 0 12, 0, 0))))) (e_T 17 (e_T 13 (e_T 12 (e_L 12 (0, ei_load 1 0 13, 0, 0)) (e_L 13 (0, ei_un (fun x => (0, e32 (-x))) 14, 0, 0))) (e_T 14 (e_L 14 (0, ei_if2 3 23 17, 0, 0)) (e_L 17 (0, ei_load 0 0 18, 0, 0)))) (e_T 19 (e_T 18 (e_L 18 (0, ei_load 1 0 19, 0, 0)) (e_L 19 (0, ei_bin eF_add 20, 0, 0))) (e_T 20 (e_L 20 (0, ei_goto 24, 0, 0)) (e_T 23 (e_L 23 (0, ei_push (0, 0) 24, 0, 0)) (e_L 24 (1, e_nof, 1, 0)))))))
set_option maxRecDepth 20000 in
set_option maxHeartbeats 4000000 in
theorem te_387_0_ok : ∀ pc, e_EOq eft cls elay eI n_387 pc (te_387_0 pc) :=
  (e_Tok2
  (e_Tok2
  (e_Tok2
  (e_Tok2
  (e_Lok (ld_iload_n_0 (x_dk dn_387_0_0_ok 0 rfl)))
  (e_Lok (ld_iload_n_1 (x_dk dn_387_0_0_ok 1 rfl))))
  (e_Tok2
  (e_Lok (e_st (I := eI) (er_icmple (off := 9) (tg := 11) (x_dk dn_387_0_0_ok 2 rfl) (by decide)) nx_if2))
  (e_Lok (ld_iload_n_0 (x_dk dn_387_0_0_ok 3 rfl)))))
  (e_Tok2
  (e_Tok2
  (e_Lok (ld_iload_n_1 (x_dk dn_387_0_0_ok 4 rfl)))
  (e_Lok (sm_isub (x_dk dn_387_0_0_ok 5 rfl))))
  (e_Tok2
  (e_Lok (e_st (I := eI) (er_goto (off := 16) (tg := 24) (x_dk dn_387_0_0_ok 6 rfl) (by decide)) nx_goto))
  (e_Lok (ld_iload_n_0 (x_dk dn_387_0_0_ok 7 rfl))))))
  (e_Tok2
  (e_Tok2
  (e_Tok2
  (e_Lok (ld_iload_n_1 (x_dk dn_387_0_0_ok 8 rfl)))
  (e_Lok (e_st (I := eI) (er_ineg (x_dk dn_387_0_0_ok 9 rfl)) (nx_un (fun _ => rfl)))))
  (e_Tok2
  (e_Lok (e_st (I := eI) (er_icmpge (off := 9) (tg := 23) (x_dk dn_387_0_0_ok 10 rfl) (by decide)) nx_if2))
  (e_Lok (ld_iload_n_0 (x_dk dn_387_0_0_ok 11 rfl)))))
  (e_Tok2
  (e_Tok2
  (e_Lok (ld_iload_n_1 (x_dk dn_387_0_0_ok 12 rfl)))
  (e_Lok (sm_iadd (x_dk dn_387_0_0_ok 13 rfl))))
  (e_Tok2
  (e_Lok (e_st (I := eI) (er_goto (off := 4) (tg := 24) (x_dk dn_387_0_0_ok 14 rfl) (by decide)) nx_goto))
  (e_Tok2
  (e_Lok (ps_iconst_0 (x_dk dn_387_0_0_ok 15 rfl)))
  (e_Lok (e_rt (I := eI) (k := 1) ⟨(x_dk dn_387_0_0_ok 16 rfl), rfl⟩)))))))
def te_387 : Nat → eE := te_387_0
theorem te_387_ok : ∀ pc, e_EOq eft cls elay eI n_387 pc (te_387 pc) := te_387_0_ok
theorem ho_388 : (xm_y n_388).cls = "RobotCellHouseModel" := rfl
def dn_388_0_0 : List (Nat × Instr × Nat) := [(0, .iload_n 1, 1), (1, .invokestatic 294, 3), (4, .istore_n 2, 1), (5, .aload_n 0, 1), (6, .getfield 8, 3), (9, .iload_n 2, 1), (10, .iconst 0, 1), (11, .iadd, 1), (12, .iaload, 1), (13, .ifCond .ne 4, 3), (16, .return_, 1), (17, .aload_n 0, 1), (18, .getfield 8, 3), (21, .iload_n 2, 1), (22, .iconst 0, 1), (23, .iadd, 1), (24, .iaload, 1), (25, .iconst 1, 1), (26, .if_icmp .ne 7, 3), (29, .iconst 1, 1), (30, .goto 4, 3), (33, .iconst 0, 1), (34, .istore_n 3, 1), (35, .iconst 1, 1), (36, .istore 4, 2)]
set_option maxRecDepth 20000 in
theorem dn_388_0_0_ok : dn_388_0_0.all (fun q => decide (decode (xm_b n_388) q.1 = .ok (q.2.1, q.2.2))) = true := xa_g_ok (by decide +kernel)
def dn_388_0_1 : List (Nat × Instr × Nat) := [(38, .iconst 0, 1), (39, .istore 5, 2), (41, .iconst 0, 1), (42, .istore 6, 2), (44, .iload 6, 2), (46, .aload_n 0, 1), (47, .getfield 43, 3), (50, .iload_n 1, 1), (51, .iaload, 1), (52, .if_icmp .ge 253, 3), (55, .aload_n 0, 1), (56, .getfield 8, 3), (59, .iload_n 2, 1), (60, .bipush 22, 2), (62, .iadd, 1), (63, .iload 6, 2), (65, .iadd, 1), (66, .iaload, 1), (67, .istore 7, 2), (69, .iload_n 3, 1), (70, .ifCond .eq 31, 3), (73, .aload_n 0, 1), (74, .getfield 8, 3), (77, .iload_n 2, 1), (78, .bipush 28, 2)]
set_option maxRecDepth 20000 in
theorem dn_388_0_1_ok : dn_388_0_1.all (fun q => decide (decode (xm_b n_388) q.1 = .ok (q.2.1, q.2.2))) = true := xa_g_ok (by decide +kernel)
def dn_388_0_2 : List (Nat × Instr × Nat) := [(80, .iadd, 1), (81, .iload 6, 2), (83, .iadd, 1), (84, .iaload, 1), (85, .aload_n 0, 1), (86, .getfield 8, 3), (89, .iload_n 2, 1), (90, .bipush 16, 2), (92, .iadd, 1), (93, .iload 6, 2), (95, .iadd, 1), (96, .iaload, 1), (97, .isub, 1), (98, .goto 4, 3), (101, .iconst 0, 1), (102, .istore 8, 2), (104, .iload 8, 2), (106, .ifCond .ge 40, 3), (109, .iload 8, 2), (111, .ineg, 1), (112, .iload 7, 2), (114, .ineg, 1), (115, .aload_n 0, 1), (116, .getfield 55, 3), (119, .bipush 6, 2)]
set_option maxRecDepth 20000 in
theorem dn_388_0_2_ok : dn_388_0_2.all (fun q => decide (decode (xm_b n_388) q.1 = .ok (q.2.1, q.2.2))) = true := xa_g_ok (by decide +kernel)
def dn_388_0_3 : List (Nat × Instr × Nat) := [(121, .iload_n 1, 1), (122, .imul, 1), (123, .iload 6, 2), (125, .iadd, 1), (126, .iaload, 1), (127, .aload_n 0, 1), (128, .getfield 58, 3), (131, .bipush 6, 2), (133, .iload_n 1, 1), (134, .imul, 1), (135, .iload 6, 2), (137, .iadd, 1), (138, .iaload, 1), (139, .invokestatic 755, 3), (142, .ineg, 1), (143, .goto 34, 3), (146, .iload 8, 2), (148, .iload 7, 2), (150, .aload_n 0, 1), (151, .getfield 55, 3), (154, .bipush 6, 2), (156, .iload_n 1, 1), (157, .imul, 1), (158, .iload 6, 2), (160, .iadd, 1)]
set_option maxRecDepth 20000 in
theorem dn_388_0_3_ok : dn_388_0_3.all (fun q => decide (decode (xm_b n_388) q.1 = .ok (q.2.1, q.2.2))) = true := xa_g_ok (by decide +kernel)
def dn_388_1_0 : List (Nat × Instr × Nat) := [(161, .iaload, 1), (162, .aload_n 0, 1), (163, .getfield 58, 3), (166, .bipush 6, 2), (168, .iload_n 1, 1), (169, .imul, 1), (170, .iload 6, 2), (172, .iadd, 1), (173, .iaload, 1), (174, .invokestatic 755, 3), (177, .istore 9, 2), (179, .iload_n 3, 1), (180, .ifCond .eq 8, 3), (183, .iload 9, 2), (185, .goto 20, 3), (188, .iload 7, 2), (190, .aload_n 0, 1), (191, .getfield 58, 3), (194, .bipush 6, 2), (196, .iload_n 1, 1), (197, .imul, 1), (198, .iload 6, 2), (200, .iadd, 1), (201, .iaload, 1), (202, .invokestatic 759, 3)]
set_option maxRecDepth 20000 in
theorem dn_388_1_0_ok : dn_388_1_0.all (fun q => decide (decode (xm_b n_388) q.1 = .ok (q.2.1, q.2.2))) = true := xa_g_ok (by decide +kernel)
def dn_388_1_1 : List (Nat × Instr × Nat) := [(205, .istore 9, 2), (207, .aload_n 0, 1), (208, .getfield 8, 3), (211, .iload_n 2, 1), (212, .bipush 22, 2), (214, .iadd, 1), (215, .iload 6, 2), (217, .iadd, 1), (218, .iload 9, 2), (220, .iastore, 1), (221, .aload_n 0, 1), (222, .getfield 8, 3), (225, .iload_n 2, 1), (226, .bipush 16, 2), (228, .iadd, 1), (229, .iload 6, 2), (231, .iadd, 1), (232, .dup2, 1), (233, .iaload, 1), (234, .iload 9, 2), (236, .iadd, 1), (237, .iastore, 1), (238, .iload 5, 2), (240, .iload 9, 2), (242, .ifCond .eq 7, 3)]
set_option maxRecDepth 20000 in
theorem dn_388_1_1_ok : dn_388_1_1.all (fun q => decide (decode (xm_b n_388) q.1 = .ok (q.2.1, q.2.2))) = true := xa_g_ok (by decide +kernel)
def dn_388_1_2 : List (Nat × Instr × Nat) := [(245, .iconst 1, 1), (246, .goto 4, 3), (249, .iconst 0, 1), (250, .ior, 1), (251, .istore 5, 2), (253, .iload 4, 2), (255, .iload 9, 2), (257, .ifCond .ne 38, 3), (260, .iload_n 3, 1), (261, .ifCond .eq 30, 3), (264, .aload_n 0, 1), (265, .getfield 8, 3), (268, .iload_n 2, 1), (269, .bipush 28, 2), (271, .iadd, 1), (272, .iload 6, 2), (274, .iadd, 1), (275, .iaload, 1), (276, .aload_n 0, 1), (277, .getfield 8, 3), (280, .iload_n 2, 1), (281, .bipush 16, 2), (283, .iadd, 1), (284, .iload 6, 2), (286, .iadd, 1)]
set_option maxRecDepth 20000 in
theorem dn_388_1_2_ok : dn_388_1_2.all (fun q => decide (decode (xm_b n_388) q.1 = .ok (q.2.1, q.2.2))) = true := xa_g_ok (by decide +kernel)
def dn_388_1_3 : List (Nat × Instr × Nat) := [(287, .iaload, 1), (288, .if_icmp .ne 7, 3), (291, .iconst 1, 1), (292, .goto 4, 3), (295, .iconst 0, 1), (296, .iand, 1), (297, .istore 4, 2), (299, .iinc 6 1, 3), (302, .goto (-258), 3), (305, .iload 5, 2), (307, .ifCond .eq 8, 3), (310, .aload_n 0, 1), (311, .iload_n 1, 1), (312, .invokevirtual 762, 3), (315, .iload_n 3, 1), (316, .ifCond .ne 22, 3), (319, .aload_n 0, 1), (320, .getfield 8, 3), (323, .iload_n 2, 1), (324, .iconst 0, 1), (325, .iadd, 1), (326, .iload 4, 2), (328, .ifCond .eq 7, 3), (331, .iconst 0, 1), (332, .goto 4, 3)]
set_option maxRecDepth 20000 in
theorem dn_388_1_3_ok : dn_388_1_3.all (fun q => decide (decode (xm_b n_388) q.1 = .ok (q.2.1, q.2.2))) = true := xa_g_ok (by decide +kernel)
def dn_388_2_0 : List (Nat × Instr × Nat) := [(335, .iconst 2, 1), (336, .iastore, 1), (337, .return_, 1), (338, .aload_n 0, 1), (339, .getfield 8, 3), (342, .iload_n 2, 1), (343, .bipush 8, 2), (345, .iadd, 1), (346, .dup2, 1), (347, .iaload, 1), (348, .iconst 1, 1), (349, .iadd, 1), (350, .iastore, 1), (351, .iload 4, 2), (353, .ifCond .eq 76, 3), (356, .aload_n 0, 1), (357, .bipush 8, 2), (359, .iload_n 1, 1), (360, .aload_n 0, 1), (361, .getfield 8, 3), (364, .iload_n 2, 1), (365, .bipush 8, 2), (367, .iadd, 1), (368, .iaload, 1), (369, .invokevirtual 693, 3)]
set_option maxRecDepth 20000 in
theorem dn_388_2_0_ok : dn_388_2_0.all (fun q => decide (decode (xm_b n_388) q.1 = .ok (q.2.1, q.2.2))) = true := xa_g_ok (by decide +kernel)
def dn_388_2_1 : List (Nat × Instr × Nat) := [(372, .aload_n 0, 1), (373, .iconst 1, 1), (374, .aload_n 0, 1), (375, .getfield 8, 3), (378, .iload_n 2, 1), (379, .bipush 8, 2), (381, .iadd, 1), (382, .iaload, 1), (383, .aload_n 0, 1), (384, .getfield 8, 3), (387, .iload_n 2, 1), (388, .bipush 11, 2), (390, .iadd, 1), (391, .iaload, 1), (392, .iconst 1, 1), (393, .iadd, 1), (394, .if_icmp .eq 7, 3), (397, .iconst 1, 1), (398, .goto 4, 3), (401, .iconst 0, 1), (402, .invokevirtual 765, 3), (405, .aload_n 0, 1), (406, .getfield 8, 3), (409, .iload_n 2, 1), (410, .iconst 0, 1)]
set_option maxRecDepth 20000 in
theorem dn_388_2_1_ok : dn_388_2_1.all (fun q => decide (decode (xm_b n_388) q.1 = .ok (q.2.1, q.2.2))) = true := xa_g_ok (by decide +kernel)
def dn_388_2_2 : List (Nat × Instr × Nat) := [(411, .iadd, 1), (412, .iconst 0, 1), (413, .iastore, 1), (414, .aload_n 0, 1), (415, .getfield 8, 3), (418, .iload_n 2, 1), (419, .bipush 9, 2), (421, .iadd, 1), (422, .iconst (-1), 1), (423, .iastore, 1), (424, .aload_n 0, 1), (425, .iload_n 1, 1), (426, .invokevirtual 768, 3), (429, .return_, 1)]
set_option maxRecDepth 20000 in
theorem dn_388_2_2_ok : dn_388_2_2.all (fun q => decide (decode (xm_b n_388) q.1 = .ok (q.2.1, q.2.2))) = true := xa_g_ok (by decide +kernel)
def te_388_0 : Nat → eE := (e_T 23 (e_T 11 (e_T 5 (e_T 1 (e_T 0 (e_L 0 (0, ei_load 1 0 1, 0, 0)) (e_L 1 (2, e_nof, 268, 1))) (e_T 4 (e_L 4 (0, ei_stor 2 0 5, 0, 0)) (e_L 5 (0, ei_load 0 2 6, 0, 0)))) (e_T 9 (e_T 6 (e_L 6 (0, ei_getf eft elay 12 0 9, 0, 0)) (e_L 9 (0, ei_load 2 0 10, 0, 0))) (e_T 10 (e_L 10 (0, ei_push (0, 0) 11, 0, 0)) (e_L 11 (0, ei_bin eF_add 12, 0, 0))))) (e_T 17 (e_T 13 (e_T 12 (e_L 12 (0, ei_ald elay false 13, 0, 0)) (e_L 13 (0, ei_if1 1 17 16, 0, 0))) (e_T 16 (e_L 16 (1, e_nof, 0, 0)) (e_L 17 (0, ei_load 0 2 18, 0, 0)))) (e_T 21 (e_T 18 (e_L 18 (0, ei_getf eft elay 12 0 21, 0, 0)) (e_L 21 (0, ei_load 2 0 22, 0, 0))) (e_T 22 (e_L 22 (0, ei_push (0, 0) 23, 0, 0)) (e_L 23 (0, ei_bin eF_add 24, 0, 0)))))) (e_T 35 (e_T 29 (e_T 25 (e_T 24 (e_L 24 (0, ei_ald elay false 25, 0, 0)) (e_L 25 (0, ei_push (0, 1) 26, 0, 0))) (e_T 26 (e_L 26 (0, ei_if2 1 33 29, 0, 0)) (e_L 29 (0, ei_push (0, 1) 30, 0, 0)))) (e_T 33 (e_T 30 (e_L 30 (0, ei_goto 34, 0, 0)) (e_L 33 (0, ei_push (0, 0) 34, 0, 0))) (e_T 34 (e_L 34 (0, ei_stor 3 0 35, 0, 0)) (e_L 35 (0, ei_push (0, 1) 36, 0, 0))))) (e_T 41 (e_T 38 (e_T 36 (e_L 36 (0, ei_stor 4 0 38, 0, 0)) (e_L 38 (0, ei_push (0, 0) 39, 0, 0))) (e_T 39 (e_L 39 (0, ei_stor 5 0 41, 0, 0)) (e_L 41 (0, ei_push (0, 0) 42, 0, 0)))) (e_T 44 (e_T 42 (e_L 42 (0, ei_stor 6 0 44, 0, 0)) (e_L 44 (0, ei_load 6 0 46, 0, 0))) (e_T 46 (e_L 46 (0, ei_load 0 2 47, 0, 0)) (e_T 47 (e_L 47 (0, ei_getf eft elay 12 15 50, 0, 0)) (e_L 50 (0, ei_load 1 0 51, 0, 0))))))))
set_option maxRecDepth 20000 in
set_option maxHeartbeats 4000000 in
theorem te_388_0_ok : ∀ pc, e_EOq eft cls elay eI n_388 pc (te_388_0 pc) :=
  (e_Tok2
  (e_Tok2
  (e_Tok2
  (e_Tok2
  (e_Tok2
  (e_Lok (ld_iload_n_1 (x_dk dn_388_0_0_ok 0 rfl)))
  (e_Lok (lk_12_294 ho_388 (x_dk dn_388_0_0_ok 1 rfl))))
  (e_Tok2
  (e_Lok (e_st (I := eI) (er_istore_n (i := 2) (x_dk dn_388_0_0_ok 2 rfl) (by decide +kernel)) nx_stor))
  (e_Lok (ld_aload_n_0 (x_dk dn_388_0_0_ok 3 rfl)))))
  (e_Tok2
  (e_Tok2
  (e_Lok (lk_12_8g ho_388 (x_dk dn_388_0_0_ok 4 rfl)))
  (e_Lok (ld_iload_n_2 (x_dk dn_388_0_0_ok 5 rfl))))
  (e_Tok2
  (e_Lok (ps_iconst_0 (x_dk dn_388_0_0_ok 6 rfl)))
  (e_Lok (sm_iadd (x_dk dn_388_0_0_ok 7 rfl))))))
  (e_Tok2
  (e_Tok2
  (e_Tok2
  (e_Lok (sm_iaload (x_dk dn_388_0_0_ok 8 rfl)))
  (e_Lok (e_st (I := eI) (er_ifne (off := 4) (tg := 17) (x_dk dn_388_0_0_ok 9 rfl) (by decide)) nx_if1)))
  (e_Tok2
  (e_Lok (e_rt (I := eI) (k := 0) ⟨(x_dk dn_388_0_0_ok 10 rfl), rfl⟩))
  (e_Lok (ld_aload_n_0 (x_dk dn_388_0_0_ok 11 rfl)))))
  (e_Tok2
  (e_Tok2
  (e_Lok (lk_12_8g ho_388 (x_dk dn_388_0_0_ok 12 rfl)))
  (e_Lok (ld_iload_n_2 (x_dk dn_388_0_0_ok 13 rfl))))
  (e_Tok2
  (e_Lok (ps_iconst_0 (x_dk dn_388_0_0_ok 14 rfl)))
  (e_Lok (sm_iadd (x_dk dn_388_0_0_ok 15 rfl)))))))
  (e_Tok2
  (e_Tok2
  (e_Tok2
  (e_Tok2
  (e_Lok (sm_iaload (x_dk dn_388_0_0_ok 16 rfl)))
  (e_Lok (ps_iconst_1 (x_dk dn_388_0_0_ok 17 rfl))))
  (e_Tok2
  (e_Lok (e_st (I := eI) (er_icmpne (off := 7) (tg := 33) (x_dk dn_388_0_0_ok 18 rfl) (by decide)) nx_if2))
  (e_Lok (ps_iconst_1 (x_dk dn_388_0_0_ok 19 rfl)))))
  (e_Tok2
  (e_Tok2
  (e_Lok (e_st (I := eI) (er_goto (off := 4) (tg := 34) (x_dk dn_388_0_0_ok 20 rfl) (by decide)) nx_goto))
  (e_Lok (ps_iconst_0 (x_dk dn_388_0_0_ok 21 rfl))))
  (e_Tok2
  (e_Lok (e_st (I := eI) (er_istore_n (i := 3) (x_dk dn_388_0_0_ok 22 rfl) (by decide +kernel)) nx_stor))
  (e_Lok (ps_iconst_1 (x_dk dn_388_0_0_ok 23 rfl))))))
  (e_Tok2
  (e_Tok2
  (e_Tok2
  (e_Lok (e_st (I := eI) (er_istore (i := 4) (x_dk dn_388_0_0_ok 24 rfl) (by decide +kernel)) nx_stor))
  (e_Lok (ps_iconst_0 (x_dk dn_388_0_1_ok 0 rfl))))
  (e_Tok2
  (e_Lok (e_st (I := eI) (er_istore (i := 5) (x_dk dn_388_0_1_ok 1 rfl) (by decide +kernel)) nx_stor))
  (e_Lok (ps_iconst_0 (x_dk dn_388_0_1_ok 2 rfl)))))
  (e_Tok2
  (e_Tok2
  (e_Lok (e_st (I := eI) (er_istore (i := 6) (x_dk dn_388_0_1_ok 3 rfl) (by decide +kernel)) nx_stor))
  (e_Lok (ld_iload_6 (x_dk dn_388_0_1_ok 4 rfl))))
  (e_Tok2
  (e_Lok (ld_aload_n_0 (x_dk dn_388_0_1_ok 5 rfl)))
  (e_Tok2
  (e_Lok (lk_12_43g ho_388 (x_dk dn_388_0_1_ok 6 rfl)))
  (e_Lok (ld_iload_n_1 (x_dk dn_388_0_1_ok 7 rfl)))))))))
def te_388_33 : Nat → eE := (e_T 77 (e_T 63 (e_T 56 (e_T 52 (e_T 51 (e_L 51 (0, ei_ald elay false 52, 0, 0)) (e_L 52 (0, ei_if2 3 305 55, 0, 0))) (e_T 55 (e_L 55 (0, ei_load 0 2 56, 0, 0)) (e_L 56 (0, ei_getf eft elay 12 0 59, 0, 0)))) (e_T 60 (e_T 59 (e_L 59 (0, ei_load 2 0 60, 0, 0)) (e_L 60 (0, ei_push (0, 22) 62, 0, 0))) (e_T 62 (e_L 62 (0, ei_bin eF_add 63, 0, 0)) (e_L 63 (0, ei_load 6 0 65, 0, 0))))) (e_T 69 (e_T 66 (e_T 65 (e_L 65 (0, ei_bin eF_add 66, 0, 0)) (e_L 66 (0, ei_ald elay false 67, 0, 0))) (e_T 67 (e_L 67 (0, ei_stor 7 0 69, 0, 0)) (e_L 69 (0, ei_load 3 0 70, 0, 0)))) (e_T 73 (e_T 70 (e_L 70 (0, ei_if1 0 101 73, 0, 0)) (e_L 73 (0, ei_load 0 2 74, 0, 0))) (e_T 74 (e_L 74 (0, ei_getf eft elay 12 0 77, 0, 0)) (e_L 77 (0, ei_load 2 0 78, 0, 0)))))) (e_T 89 (e_T 83 (e_T 80 (e_T 78 (e_L 78 (0, ei_push (0, 28) 80, 0, 0)) (e_L 80 (0, ei_bin eF_add 81, 0, 0))) (e_T 81 (e_L 81 (0, ei_load 6 0 83, 0, 0)) (e_L 83 (0, ei_bin eF_add 84, 0, 0)))) (e_T 85 (e_T 84 (e_L 84 (0, ei_ald elay false 85, 0, 0)) (e_L 85 (0, ei_load 0 2 86, 0, 0))) (e_T 86 (e_L 86 (0, ei_getf eft elay 12 0 89, 0, 0)) (e_L 89 (0, ei_load 2 0 90, 0, 0))))) (e_T 95 (e_T 92 (e_T 90 (e_L 90 (0, ei_push (0, 16) 92, 0, 0)) (e_L 92 (0, ei_bin eF_add 93, 0, 0))) (e_T 93 (e_L 93 (0, ei_load 6 0 95, 0, 0)) (e_L 95 (0, ei_bin eF_add 96, 0, 0)))) (e_T 97 (e_T 96 (e_L 96 (0, ei_ald elay false 97, 0, 0)) (e_L 97 (0, ei_bin eF_sub 98, 0, 0))) (e_T 98 (e_L 98 (0, ei_goto 102, 0, 0)) (e_T 101 (e_L 101 (0, ei_push (0, 0) 102, 0, 0)) (e_L 102 (0, ei_stor 8 0 104, 0, 0))))))))
set_option maxRecDepth 20000 in
set_option maxHeartbeats 4000000 in
theorem te_388_33_ok : ∀ pc, e_EOq eft cls elay eI n_388 pc (te_388_33 pc) :=
  (e_Tok2
  (e_Tok2
  (e_Tok2
  (e_Tok2
  (e_Tok2
  (e_Lok (sm_iaload (x_dk dn_388_0_1_ok 8 rfl)))
  (e_Lok (e_st (I := eI) (er_icmpge (off := 253) (tg := 305) (x_dk dn_388_0_1_ok 9 rfl) (by decide)) nx_if2)))
  (e_Tok2
  (e_Lok (ld_aload_n_0 (x_dk dn_388_0_1_ok 10 rfl)))
  (e_Lok (lk_12_8g ho_388 (x_dk dn_388_0_1_ok 11 rfl)))))
  (e_Tok2
  (e_Tok2
  (e_Lok (ld_iload_n_2 (x_dk dn_388_0_1_ok 12 rfl)))
  (e_Lok (ps_bipush_22 (x_dk dn_388_0_1_ok 13 rfl))))
  (e_Tok2
  (e_Lok (sm_iadd (x_dk dn_388_0_1_ok 14 rfl)))
  (e_Lok (ld_iload_6 (x_dk dn_388_0_1_ok 15 rfl))))))
  (e_Tok2
  (e_Tok2
  (e_Tok2
  (e_Lok (sm_iadd (x_dk dn_388_0_1_ok 16 rfl)))
  (e_Lok (sm_iaload (x_dk dn_388_0_1_ok 17 rfl))))
  (e_Tok2
  (e_Lok (e_st (I := eI) (er_istore (i := 7) (x_dk dn_388_0_1_ok 18 rfl) (by decide +kernel)) nx_stor))
  (e_Lok (ld_iload_n_3 (x_dk dn_388_0_1_ok 19 rfl)))))
  (e_Tok2
  (e_Tok2
  (e_Lok (e_st (I := eI) (er_ifeq (off := 31) (tg := 101) (x_dk dn_388_0_1_ok 20 rfl) (by decide)) nx_if1))
  (e_Lok (ld_aload_n_0 (x_dk dn_388_0_1_ok 21 rfl))))
  (e_Tok2
  (e_Lok (lk_12_8g ho_388 (x_dk dn_388_0_1_ok 22 rfl)))
  (e_Lok (ld_iload_n_2 (x_dk dn_388_0_1_ok 23 rfl)))))))
  (e_Tok2
  (e_Tok2
  (e_Tok2
  (e_Tok2
  (e_Lok (ps_bipush_28 (x_dk dn_388_0_1_ok 24 rfl)))
  (e_Lok (sm_iadd (x_dk dn_388_0_2_ok 0 rfl))))
  (e_Tok2
  (e_Lok (ld_iload_6 (x_dk dn_388_0_2_ok 1 rfl)))
  (e_Lok (sm_iadd (x_dk dn_388_0_2_ok 2 rfl)))))
  (e_Tok2
  (e_Tok2
  (e_Lok (sm_iaload (x_dk dn_388_0_2_ok 3 rfl)))
  (e_Lok (ld_aload_n_0 (x_dk dn_388_0_2_ok 4 rfl))))
  (e_Tok2
  (e_Lok (lk_12_8g ho_388 (x_dk dn_388_0_2_ok 5 rfl)))
  (e_Lok (ld_iload_n_2 (x_dk dn_388_0_2_ok 6 rfl))))))
  (e_Tok2
  (e_Tok2
  (e_Tok2
  (e_Lok (ps_bipush_16 (x_dk dn_388_0_2_ok 7 rfl)))
  (e_Lok (sm_iadd (x_dk dn_388_0_2_ok 8 rfl))))
  (e_Tok2
  (e_Lok (ld_iload_6 (x_dk dn_388_0_2_ok 9 rfl)))
  (e_Lok (sm_iadd (x_dk dn_388_0_2_ok 10 rfl)))))
  (e_Tok2
  (e_Tok2
  (e_Lok (sm_iaload (x_dk dn_388_0_2_ok 11 rfl)))
  (e_Lok (sm_isub (x_dk dn_388_0_2_ok 12 rfl))))
  (e_Tok2
  (e_Lok (e_st (I := eI) (er_goto (off := 4) (tg := 102) (x_dk dn_388_0_2_ok 13 rfl) (by decide)) nx_goto))
  (e_Tok2
  (e_Lok (ps_iconst_0 (x_dk dn_388_0_2_ok 14 rfl)))
  (e_Lok (e_st (I := eI) (er_istore (i := 8) (x_dk dn_388_0_2_ok 15 rfl) (by decide +kernel)) nx_stor))))))))
def te_388_66 : Nat → eE := (e_T 128 (e_T 116 (e_T 111 (e_T 106 (e_T 104 (e_L 104 (0, ei_load 8 0 106, 0, 0)) (e_L 106 (0, ei_if1 3 146 109, 0, 0))) (e_T 109 (e_L 109 (0, ei_load 8 0 111, 0, 0)) (e_L 111 (0, ei_un (fun x => (0, e32 (-x))) 112, 0, 0)))) (e_T 114 (e_T 112 (e_L 112 (0, ei_load 7 0 114, 0, 0)) (e_L 114 (0, ei_un (fun x => (0, e32 (-x))) 115, 0, 0))) (e_T 115 (e_L 115 (0, ei_load 0 2 116, 0, 0)) (e_L 116 (0, ei_getf eft elay 12 19 119, 0, 0))))) (e_T 123 (e_T 121 (e_T 119 (e_L 119 (0, ei_push (0, 6) 121, 0, 0)) (e_L 121 (0, ei_load 1 0 122, 0, 0))) (e_T 122 (e_L 122 (0, ei_bin eF_mul 123, 0, 0)) (e_L 123 (0, ei_load 6 0 125, 0, 0)))) (e_T 126 (e_T 125 (e_L 125 (0, ei_bin eF_add 126, 0, 0)) (e_L 126 (0, ei_ald elay false 127, 0, 0))) (e_T 127 (e_L 127 (0, ei_load 0 2 128, 0, 0)) (e_L 128 (0, ei_getf eft elay 12 20 131, 0, 0)))))) (e_T 142 (e_T 135 (e_T 133 (e_T 131 (e_L 131 (0, ei_push (0, 6) 133, 0, 0)) (e_L 133 (0, ei_load 1 0 134, 0, 0))) (e_T 134 (e_L 134 (0, ei_bin eF_mul 135, 0, 0)) (e_L 135 (0, ei_load 6 0 137, 0, 0)))) (e_T 138 (e_T 137 (e_L 137 (0, ei_bin eF_add 138, 0, 0)) (e_L 138 (0, ei_ald elay false 139, 0, 0))) (e_T 139 (e_L 139 (2, e_nof, 386, 4)) (e_L 142 (0, ei_un (fun x => (0, e32 (-x))) 143, 0, 0))))) (e_T 150 (e_T 146 (e_T 143 (e_L 143 (0, ei_goto 177, 0, 0)) (e_L 146 (0, ei_load 8 0 148, 0, 0))) (e_T 148 (e_L 148 (0, ei_load 7 0 150, 0, 0)) (e_L 150 (0, ei_load 0 2 151, 0, 0)))) (e_T 154 (e_T 151 (e_L 151 (0, ei_getf eft elay 12 19 154, 0, 0)) (e_L 154 (0, ei_push (0, 6) 156, 0, 0))) (e_T 156 (e_L 156 (0, ei_load 1 0 157, 0, 0)) (e_T 157 (e_L 157 (0, ei_bin eF_mul 158, 0, 0)) (e_L 158 (0, ei_load 6 0 160, 0, 0))))))))
set_option maxRecDepth 20000 in
set_option maxHeartbeats 4000000 in
theorem te_388_66_ok : ∀ pc, e_EOq eft cls elay eI n_388 pc (te_388_66 pc) :=
  (e_Tok2
  (e_Tok2
  (e_Tok2
  (e_Tok2
  (e_Tok2
  (e_Lok (ld_iload_8 (x_dk dn_388_0_2_ok 16 rfl)))
  (e_Lok (e_st (I := eI) (er_ifge (off := 40) (tg := 146) (x_dk dn_388_0_2_ok 17 rfl) (by decide)) nx_if1)))
  (e_Tok2
  (e_Lok (ld_iload_8 (x_dk dn_388_0_2_ok 18 rfl)))
  (e_Lok (e_st (I := eI) (er_ineg (x_dk dn_388_0_2_ok 19 rfl)) (nx_un (fun _ => rfl))))))
  (e_Tok2
  (e_Tok2
  (e_Lok (ld_iload_7 (x_dk dn_388_0_2_ok 20 rfl)))
  (e_Lok (e_st (I := eI) (er_ineg (x_dk dn_388_0_2_ok 21 rfl)) (nx_un (fun _ => rfl)))))
  (e_Tok2
  (e_Lok (ld_aload_n_0 (x_dk dn_388_0_2_ok 22 rfl)))
  (e_Lok (lk_12_55g ho_388 (x_dk dn_388_0_2_ok 23 rfl))))))
  (e_Tok2
  (e_Tok2
  (e_Tok2
  (e_Lok (ps_bipush_6 (x_dk dn_388_0_2_ok 24 rfl)))
  (e_Lok (ld_iload_n_1 (x_dk dn_388_0_3_ok 0 rfl))))
  (e_Tok2
  (e_Lok (sm_imul (x_dk dn_388_0_3_ok 1 rfl)))
  (e_Lok (ld_iload_6 (x_dk dn_388_0_3_ok 2 rfl)))))
  (e_Tok2
  (e_Tok2
  (e_Lok (sm_iadd (x_dk dn_388_0_3_ok 3 rfl)))
  (e_Lok (sm_iaload (x_dk dn_388_0_3_ok 4 rfl))))
  (e_Tok2
  (e_Lok (ld_aload_n_0 (x_dk dn_388_0_3_ok 5 rfl)))
  (e_Lok (lk_12_58g ho_388 (x_dk dn_388_0_3_ok 6 rfl)))))))
  (e_Tok2
  (e_Tok2
  (e_Tok2
  (e_Tok2
  (e_Lok (ps_bipush_6 (x_dk dn_388_0_3_ok 7 rfl)))
  (e_Lok (ld_iload_n_1 (x_dk dn_388_0_3_ok 8 rfl))))
  (e_Tok2
  (e_Lok (sm_imul (x_dk dn_388_0_3_ok 9 rfl)))
  (e_Lok (ld_iload_6 (x_dk dn_388_0_3_ok 10 rfl)))))
  (e_Tok2
  (e_Tok2
  (e_Lok (sm_iadd (x_dk dn_388_0_3_ok 11 rfl)))
  (e_Lok (sm_iaload (x_dk dn_388_0_3_ok 12 rfl))))
  (e_Tok2
  (e_Lok (lk_12_755 ho_388 (x_dk dn_388_0_3_ok 13 rfl)))
  (e_Lok (e_st (I := eI) (er_ineg (x_dk dn_388_0_3_ok 14 rfl)) (nx_un (fun _ => rfl)))))))
  (e_Tok2
  (e_Tok2
  (e_Tok2
  (e_Lok (e_st (I := eI) (er_goto (off := 34) (tg := 177) (x_dk dn_388_0_3_ok 15 rfl) (by decide)) nx_goto))
  (e_Lok (ld_iload_8 (x_dk dn_388_0_3_ok 16 rfl))))
  (e_Tok2
  (e_Lok (ld_iload_7 (x_dk dn_388_0_3_ok 17 rfl)))
  (e_Lok (ld_aload_n_0 (x_dk dn_388_0_3_ok 18 rfl)))))
  (e_Tok2
  (e_Tok2
  (e_Lok (lk_12_55g ho_388 (x_dk dn_388_0_3_ok 19 rfl)))
  (e_Lok (ps_bipush_6 (x_dk dn_388_0_3_ok 20 rfl))))
  (e_Tok2
  (e_Lok (ld_iload_n_1 (x_dk dn_388_0_3_ok 21 rfl)))
  (e_Tok2
  (e_Lok (sm_imul (x_dk dn_388_0_3_ok 22 rfl)))
  (e_Lok (ld_iload_6 (x_dk dn_388_0_3_ok 23 rfl)))))))))
def te_388_99 : Nat → eE := (e_T 185 (e_T 170 (e_T 163 (e_T 161 (e_T 160 (e_L 160 (0, ei_bin eF_add 161, 0, 0)) (e_L 161 (0, ei_ald elay false 162, 0, 0))) (e_T 162 (e_L 162 (0, ei_load 0 2 163, 0, 0)) (e_L 163 (0, ei_getf eft elay 12 20 166, 0, 0)))) (e_T 168 (e_T 166 (e_L 166 (0, ei_push (0, 6) 168, 0, 0)) (e_L 168 (0, ei_load 1 0 169, 0, 0))) (e_T 169 (e_L 169 (0, ei_bin eF_mul 170, 0, 0)) (e_L 170 (0, ei_load 6 0 172, 0, 0))))) (e_T 177 (e_T 173 (e_T 172 (e_L 172 (0, ei_bin eF_add 173, 0, 0)) (e_L 173 (0, ei_ald elay false 174, 0, 0))) (e_T 174 (e_L 174 (2, e_nof, 386, 4)) (e_L 177 (0, ei_stor 9 0 179, 0, 0)))) (e_T 180 (e_T 179 (e_L 179 (0, ei_load 3 0 180, 0, 0)) (e_L 180 (0, ei_if1 0 188 183, 0, 0))) (e_T 183 (e_L 183 (0, ei_load 9 0 185, 0, 0)) (e_L 185 (0, ei_goto 205, 0, 0)))))) (e_T 200 (e_T 194 (e_T 190 (e_T 188 (e_L 188 (0, ei_load 7 0 190, 0, 0)) (e_L 190 (0, ei_load 0 2 191, 0, 0))) (e_T 191 (e_L 191 (0, ei_getf eft elay 12 20 194, 0, 0)) (e_L 194 (0, ei_push (0, 6) 196, 0, 0)))) (e_T 197 (e_T 196 (e_L 196 (0, ei_load 1 0 197, 0, 0)) (e_L 197 (0, ei_bin eF_mul 198, 0, 0))) (e_T 198 (e_L 198 (0, ei_load 6 0 200, 0, 0)) (e_L 200 (0, ei_bin eF_add 201, 0, 0))))) (e_T 207 (e_T 202 (e_T 201 (e_L 201 (0, ei_ald elay false 202, 0, 0)) (e_L 202 (2, e_nof, 387, 2))) (e_T 205 (e_L 205 (0, ei_stor 9 0 207, 0, 0)) (e_L 207 (0, ei_load 0 2 208, 0, 0)))) (e_T 211 (e_T 208 (e_L 208 (0, ei_getf eft elay 12 0 211, 0, 0)) (e_L 211 (0, ei_load 2 0 212, 0, 0))) (e_T 212 (e_L 212 (0, ei_push (0, 22) 214, 0, 0)) (e_T 214 (e_L 214 (0, ei_bin eF_add 215, 0, 0)) (e_L 215 (0, ei_load 6 0 217, 0, 0))))))))
set_option maxRecDepth 20000 in
set_option maxHeartbeats 4000000 in
theorem te_388_99_ok : ∀ pc, e_EOq eft cls elay eI n_388 pc (te_388_99 pc) :=
  (e_Tok2
  (e_Tok2
  (e_Tok2
  (e_Tok2
  (e_Tok2
  (e_Lok (sm_iadd (x_dk dn_388_0_3_ok 24 rfl)))
  (e_Lok (sm_iaload (x_dk dn_388_1_0_ok 0 rfl))))
  (e_Tok2
  (e_Lok (ld_aload_n_0 (x_dk dn_388_1_0_ok 1 rfl)))
  (e_Lok (lk_12_58g ho_388 (x_dk dn_388_1_0_ok 2 rfl)))))
  (e_Tok2
  (e_Tok2
  (e_Lok (ps_bipush_6 (x_dk dn_388_1_0_ok 3 rfl)))
  (e_Lok (ld_iload_n_1 (x_dk dn_388_1_0_ok 4 rfl))))
  (e_Tok2
  (e_Lok (sm_imul (x_dk dn_388_1_0_ok 5 rfl)))
  (e_Lok (ld_iload_6 (x_dk dn_388_1_0_ok 6 rfl))))))
  (e_Tok2
  (e_Tok2
  (e_Tok2
  (e_Lok (sm_iadd (x_dk dn_388_1_0_ok 7 rfl)))
  (e_Lok (sm_iaload (x_dk dn_388_1_0_ok 8 rfl))))
  (e_Tok2
  (e_Lok (lk_12_755 ho_388 (x_dk dn_388_1_0_ok 9 rfl)))
  (e_Lok (e_st (I := eI) (er_istore (i := 9) (x_dk dn_388_1_0_ok 10 rfl) (by decide +kernel)) nx_stor))))
  (e_Tok2
  (e_Tok2
  (e_Lok (ld_iload_n_3 (x_dk dn_388_1_0_ok 11 rfl)))
  (e_Lok (e_st (I := eI) (er_ifeq (off := 8) (tg := 188) (x_dk dn_388_1_0_ok 12 rfl) (by decide)) nx_if1)))
  (e_Tok2
  (e_Lok (ld_iload_9 (x_dk dn_388_1_0_ok 13 rfl)))
  (e_Lok (e_st (I := eI) (er_goto (off := 20) (tg := 205) (x_dk dn_388_1_0_ok 14 rfl) (by decide)) nx_goto))))))
  (e_Tok2
  (e_Tok2
  (e_Tok2
  (e_Tok2
  (e_Lok (ld_iload_7 (x_dk dn_388_1_0_ok 15 rfl)))
  (e_Lok (ld_aload_n_0 (x_dk dn_388_1_0_ok 16 rfl))))
  (e_Tok2
  (e_Lok (lk_12_58g ho_388 (x_dk dn_388_1_0_ok 17 rfl)))
  (e_Lok (ps_bipush_6 (x_dk dn_388_1_0_ok 18 rfl)))))
  (e_Tok2
  (e_Tok2
  (e_Lok (ld_iload_n_1 (x_dk dn_388_1_0_ok 19 rfl)))
  (e_Lok (sm_imul (x_dk dn_388_1_0_ok 20 rfl))))
  (e_Tok2
  (e_Lok (ld_iload_6 (x_dk dn_388_1_0_ok 21 rfl)))
  (e_Lok (sm_iadd (x_dk dn_388_1_0_ok 22 rfl))))))
  (e_Tok2
  (e_Tok2
  (e_Tok2
  (e_Lok (sm_iaload (x_dk dn_388_1_0_ok 23 rfl)))
  (e_Lok (lk_12_759 ho_388 (x_dk dn_388_1_0_ok 24 rfl))))
  (e_Tok2
  (e_Lok (e_st (I := eI) (er_istore (i := 9) (x_dk dn_388_1_1_ok 0 rfl) (by decide +kernel)) nx_stor))
  (e_Lok (ld_aload_n_0 (x_dk dn_388_1_1_ok 1 rfl)))))
  (e_Tok2
  (e_Tok2
  (e_Lok (lk_12_8g ho_388 (x_dk dn_388_1_1_ok 2 rfl)))
  (e_Lok (ld_iload_n_2 (x_dk dn_388_1_1_ok 3 rfl))))
  (e_Tok2
  (e_Lok (ps_bipush_22 (x_dk dn_388_1_1_ok 4 rfl)))
  (e_Tok2
  (e_Lok (sm_iadd (x_dk dn_388_1_1_ok 5 rfl)))
  (e_Lok (ld_iload_6 (x_dk dn_388_1_1_ok 6 rfl)))))))))
def te_388_132 : Nat → eE := (e_T 238 (e_T 228 (e_T 221 (e_T 218 (e_T 217 (e_L 217 (0, ei_bin eF_add 218, 0, 0)) (e_L 218 (0, ei_load 9 0 220, 0, 0))) (e_T 220 (e_L 220 (0, ei_ast elay false 221, 0, 0)) (e_L 221 (0, ei_load 0 2 222, 0, 0)))) (e_T 225 (e_T 222 (e_L 222 (0, ei_getf eft elay 12 0 225, 0, 0)) (e_L 225 (0, ei_load 2 0 226, 0, 0))) (e_T 226 (e_L 226 (0, ei_push (0, 16) 228, 0, 0)) (e_L 228 (0, ei_bin eF_add 229, 0, 0))))) (e_T 233 (e_T 231 (e_T 229 (e_L 229 (0, ei_load 6 0 231, 0, 0)) (e_L 231 (0, ei_bin eF_add 232, 0, 0))) (e_T 232 (e_L 232 (0, ei_stk ef_dup2 233, 0, 0)) (e_L 233 (0, ei_ald elay false 234, 0, 0)))) (e_T 236 (e_T 234 (e_L 234 (0, ei_load 9 0 236, 0, 0)) (e_L 236 (0, ei_bin eF_add 237, 0, 0))) (e_T 237 (e_L 237 (0, ei_ast elay false 238, 0, 0)) (e_L 238 (0, ei_load 5 0 240, 0, 0)))))) (e_T 253 (e_T 246 (e_T 242 (e_T 240 (e_L 240 (0, ei_load 9 0 242, 0, 0)) (e_L 242 (0, ei_if1 0 249 245, 0, 0))) (e_T 245 (e_L 245 (0, ei_push (0, 1) 246, 0, 0)) (e_L 246 (0, ei_goto 250, 0, 0)))) (e_T 250 (e_T 249 (e_L 249 (0, ei_push (0, 0) 250, 0, 0)) (e_L 250 (0, ei_bin (eB (fun x y => x ||| y)) 251, 0, 0))) (e_T 251 (e_L 251 (0, ei_stor 5 0 253, 0, 0)) (e_L 253 (0, ei_load 4 0 255, 0, 0))))) (e_T 261 (e_T 257 (e_T 255 (e_L 255 (0, ei_load 9 0 257, 0, 0)) (e_L 257 (0, ei_if1 1 295 260, 0, 0))) (e_T 260 (e_L 260 (0, ei_load 3 0 261, 0, 0)) (e_L 261 (0, ei_if1 0 291 264, 0, 0)))) (e_T 265 (e_T 264 (e_L 264 (0, ei_load 0 2 265, 0, 0)) (e_L 265 (0, ei_getf eft elay 12 0 268, 0, 0))) (e_T 268 (e_L 268 (0, ei_load 2 0 269, 0, 0)) (e_T 269 (e_L 269 (0, ei_push (0, 28) 271, 0, 0)) (e_L 271 (0, ei_bin eF_add 272, 0, 0))))))))
set_option maxRecDepth 20000 in
set_option maxHeartbeats 4000000 in
theorem te_388_132_ok : ∀ pc, e_EOq eft cls elay eI n_388 pc (te_388_132 pc) :=
  (e_Tok2
  (e_Tok2
  (e_Tok2
  (e_Tok2
  (e_Tok2
  (e_Lok (sm_iadd (x_dk dn_388_1_1_ok 7 rfl)))
  (e_Lok (ld_iload_9 (x_dk dn_388_1_1_ok 8 rfl))))
  (e_Tok2
  (e_Lok (sm_iastore (x_dk dn_388_1_1_ok 9 rfl)))
  (e_Lok (ld_aload_n_0 (x_dk dn_388_1_1_ok 10 rfl)))))
  (e_Tok2
  (e_Tok2
  (e_Lok (lk_12_8g ho_388 (x_dk dn_388_1_1_ok 11 rfl)))
  (e_Lok (ld_iload_n_2 (x_dk dn_388_1_1_ok 12 rfl))))
  (e_Tok2
  (e_Lok (ps_bipush_16 (x_dk dn_388_1_1_ok 13 rfl)))
  (e_Lok (sm_iadd (x_dk dn_388_1_1_ok 14 rfl))))))
  (e_Tok2
  (e_Tok2
  (e_Tok2
  (e_Lok (ld_iload_6 (x_dk dn_388_1_1_ok 15 rfl)))
  (e_Lok (sm_iadd (x_dk dn_388_1_1_ok 16 rfl))))
  (e_Tok2
  (e_Lok (e_st (I := eI) (er_dup2 (x_dk dn_388_1_1_ok 17 rfl)) (nx_stk bf_dup2)))
  (e_Lok (sm_iaload (x_dk dn_388_1_1_ok 18 rfl)))))
  (e_Tok2
  (e_Tok2
  (e_Lok (ld_iload_9 (x_dk dn_388_1_1_ok 19 rfl)))
  (e_Lok (sm_iadd (x_dk dn_388_1_1_ok 20 rfl))))
  (e_Tok2
  (e_Lok (sm_iastore (x_dk dn_388_1_1_ok 21 rfl)))
  (e_Lok (ld_iload_5 (x_dk dn_388_1_1_ok 22 rfl)))))))
  (e_Tok2
  (e_Tok2
  (e_Tok2
  (e_Tok2
  (e_Lok (ld_iload_9 (x_dk dn_388_1_1_ok 23 rfl)))
  (e_Lok (e_st (I := eI) (er_ifeq (off := 7) (tg := 249) (x_dk dn_388_1_1_ok 24 rfl) (by decide)) nx_if1)))
  (e_Tok2
  (e_Lok (ps_iconst_1 (x_dk dn_388_1_2_ok 0 rfl)))
  (e_Lok (e_st (I := eI) (er_goto (off := 4) (tg := 250) (x_dk dn_388_1_2_ok 1 rfl) (by decide)) nx_goto))))
  (e_Tok2
  (e_Tok2
  (e_Lok (ps_iconst_0 (x_dk dn_388_1_2_ok 2 rfl)))
  (e_Lok (e_st (I := eI) (er_ior (x_dk dn_388_1_2_ok 3 rfl)) nx_bin)))
  (e_Tok2
  (e_Lok (e_st (I := eI) (er_istore (i := 5) (x_dk dn_388_1_2_ok 4 rfl) (by decide +kernel)) nx_stor))
  (e_Lok (ld_iload_4 (x_dk dn_388_1_2_ok 5 rfl))))))
  (e_Tok2
  (e_Tok2
  (e_Tok2
  (e_Lok (ld_iload_9 (x_dk dn_388_1_2_ok 6 rfl)))
  (e_Lok (e_st (I := eI) (er_ifne (off := 38) (tg := 295) (x_dk dn_388_1_2_ok 7 rfl) (by decide)) nx_if1)))
  (e_Tok2
  (e_Lok (ld_iload_n_3 (x_dk dn_388_1_2_ok 8 rfl)))
  (e_Lok (e_st (I := eI) (er_ifeq (off := 30) (tg := 291) (x_dk dn_388_1_2_ok 9 rfl) (by decide)) nx_if1))))
  (e_Tok2
  (e_Tok2
  (e_Lok (ld_aload_n_0 (x_dk dn_388_1_2_ok 10 rfl)))
  (e_Lok (lk_12_8g ho_388 (x_dk dn_388_1_2_ok 11 rfl))))
  (e_Tok2
  (e_Lok (ld_iload_n_2 (x_dk dn_388_1_2_ok 12 rfl)))
  (e_Tok2
  (e_Lok (ps_bipush_28 (x_dk dn_388_1_2_ok 13 rfl)))
  (e_Lok (sm_iadd (x_dk dn_388_1_2_ok 14 rfl)))))))))
def te_388_165 : Nat → eE := (e_T 296 (e_T 283 (e_T 276 (e_T 274 (e_T 272 (e_L 272 (0, ei_load 6 0 274, 0, 0)) (e_L 274 (0, ei_bin eF_add 275, 0, 0))) (e_T 275 (e_L 275 (0, ei_ald elay false 276, 0, 0)) (e_L 276 (0, ei_load 0 2 277, 0, 0)))) (e_T 280 (e_T 277 (e_L 277 (0, ei_getf eft elay 12 0 280, 0, 0)) (e_L 280 (0, ei_load 2 0 281, 0, 0))) (e_T 281 (e_L 281 (0, ei_push (0, 16) 283, 0, 0)) (e_L 283 (0, ei_bin eF_add 284, 0, 0))))) (e_T 288 (e_T 286 (e_T 284 (e_L 284 (0, ei_load 6 0 286, 0, 0)) (e_L 286 (0, ei_bin eF_add 287, 0, 0))) (e_T 287 (e_L 287 (0, ei_ald elay false 288, 0, 0)) (e_L 288 (0, ei_if2 1 295 291, 0, 0)))) (e_T 292 (e_T 291 (e_L 291 (0, ei_push (0, 1) 292, 0, 0)) (e_L 292 (0, ei_goto 296, 0, 0))) (e_T 295 (e_L 295 (0, ei_push (0, 0) 296, 0, 0)) (e_L 296 (0, ei_bin (eB (fun x y => x &&& y)) 297, 0, 0)))))) (e_T 312 (e_T 305 (e_T 299 (e_T 297 (e_L 297 (0, ei_stor 4 0 299, 0, 0)) (e_L 299 (0, ei_inc 6 1 302, 0, 0))) (e_T 302 (e_L 302 (0, ei_goto 44, 0, 0)) (e_L 305 (0, ei_load 5 0 307, 0, 0)))) (e_T 310 (e_T 307 (e_L 307 (0, ei_if1 0 315 310, 0, 0)) (e_L 310 (0, ei_load 0 2 311, 0, 0))) (e_T 311 (e_L 311 (0, ei_load 1 0 312, 0, 0)) (e_L 312 (2, e_nof, 390, 2))))) (e_T 320 (e_T 316 (e_T 315 (e_L 315 (0, ei_load 3 0 316, 0, 0)) (e_L 316 (0, ei_if1 1 338 319, 0, 0))) (e_T 319 (e_L 319 (0, ei_load 0 2 320, 0, 0)) (e_L 320 (0, ei_getf eft elay 12 0 323, 0, 0)))) (e_T 324 (e_T 323 (e_L 323 (0, ei_load 2 0 324, 0, 0)) (e_L 324 (0, ei_push (0, 0) 325, 0, 0))) (e_T 325 (e_L 325 (0, ei_bin eF_add 326, 0, 0)) (e_T 326 (e_L 326 (0, ei_load 4 0 328, 0, 0)) (e_L 328 (0, ei_if1 0 335 331, 0, 0))))))))
set_option maxRecDepth 20000 in
set_option maxHeartbeats 4000000 in
theorem te_388_165_ok : ∀ pc, e_EOq eft cls elay eI n_388 pc (te_388_165 pc) :=
  (e_Tok2
  (e_Tok2
  (e_Tok2
  (e_Tok2
  (e_Tok2
  (e_Lok (ld_iload_6 (x_dk dn_388_1_2_ok 15 rfl)))
  (e_Lok (sm_iadd (x_dk dn_388_1_2_ok 16 rfl))))
  (e_Tok2
  (e_Lok (sm_iaload (x_dk dn_388_1_2_ok 17 rfl)))
  (e_Lok (ld_aload_n_0 (x_dk dn_388_1_2_ok 18 rfl)))))
  (e_Tok2
  (e_Tok2
  (e_Lok (lk_12_8g ho_388 (x_dk dn_388_1_2_ok 19 rfl)))
  (e_Lok (ld_iload_n_2 (x_dk dn_388_1_2_ok 20 rfl))))
  (e_Tok2
  (e_Lok (ps_bipush_16 (x_dk dn_388_1_2_ok 21 rfl)))
  (e_Lok (sm_iadd (x_dk dn_388_1_2_ok 22 rfl))))))
  (e_Tok2
  (e_Tok2
  (e_Tok2
  (e_Lok (ld_iload_6 (x_dk dn_388_1_2_ok 23 rfl)))
  (e_Lok (sm_iadd (x_dk dn_388_1_2_ok 24 rfl))))
  (e_Tok2
  (e_Lok (sm_iaload (x_dk dn_388_1_3_ok 0 rfl)))
  (e_Lok (e_st (I := eI) (er_icmpne (off := 7) (tg := 295) (x_dk dn_388_1_3_ok 1 rfl) (by decide)) nx_if2))))
  (e_Tok2
  (e_Tok2
  (e_Lok (ps_iconst_1 (x_dk dn_388_1_3_ok 2 rfl)))
  (e_Lok (e_st (I := eI) (er_goto (off := 4) (tg := 296) (x_dk dn_388_1_3_ok 3 rfl) (by decide)) nx_goto)))
  (e_Tok2
  (e_Lok (ps_iconst_0 (x_dk dn_388_1_3_ok 4 rfl)))
  (e_Lok (e_st (I := eI) (er_iand (x_dk dn_388_1_3_ok 5 rfl)) nx_bin))))))
  (e_Tok2
  (e_Tok2
  (e_Tok2
  (e_Tok2
  (e_Lok (e_st (I := eI) (er_istore (i := 4) (x_dk dn_388_1_3_ok 6 rfl) (by decide +kernel)) nx_stor))
  (e_Lok (e_st (I := eI) (er_iinc (i := 6) (n := 1) (x_dk dn_388_1_3_ok 7 rfl) (by decide +kernel) (by decide)) nx_inc)))
  (e_Tok2
  (e_Lok (e_st (I := eI) (er_goto (off := (-258)) (tg := 44) (x_dk dn_388_1_3_ok 8 rfl) (by decide)) nx_goto))
  (e_Lok (ld_iload_5 (x_dk dn_388_1_3_ok 9 rfl)))))
  (e_Tok2
  (e_Tok2
  (e_Lok (e_st (I := eI) (er_ifeq (off := 8) (tg := 315) (x_dk dn_388_1_3_ok 10 rfl) (by decide)) nx_if1))
  (e_Lok (ld_aload_n_0 (x_dk dn_388_1_3_ok 11 rfl))))
  (e_Tok2
  (e_Lok (ld_iload_n_1 (x_dk dn_388_1_3_ok 12 rfl)))
  (e_Lok (lk_12_762 ho_388 (x_dk dn_388_1_3_ok 13 rfl))))))
  (e_Tok2
  (e_Tok2
  (e_Tok2
  (e_Lok (ld_iload_n_3 (x_dk dn_388_1_3_ok 14 rfl)))
  (e_Lok (e_st (I := eI) (er_ifne (off := 22) (tg := 338) (x_dk dn_388_1_3_ok 15 rfl) (by decide)) nx_if1)))
  (e_Tok2
  (e_Lok (ld_aload_n_0 (x_dk dn_388_1_3_ok 16 rfl)))
  (e_Lok (lk_12_8g ho_388 (x_dk dn_388_1_3_ok 17 rfl)))))
  (e_Tok2
  (e_Tok2
  (e_Lok (ld_iload_n_2 (x_dk dn_388_1_3_ok 18 rfl)))
  (e_Lok (ps_iconst_0 (x_dk dn_388_1_3_ok 19 rfl))))
  (e_Tok2
  (e_Lok (sm_iadd (x_dk dn_388_1_3_ok 20 rfl)))
  (e_Tok2
  (e_Lok (ld_iload_4 (x_dk dn_388_1_3_ok 21 rfl)))
  (e_Lok (e_st (I := eI) (er_ifeq (off := 7) (tg := 335) (x_dk dn_388_1_3_ok 22 rfl) (by decide)) nx_if1))))))))
def te_388_198 : Nat → eE := (e_T 351 (e_T 342 (e_T 336 (e_T 332 (e_T 331 (e_L 331 (0, ei_push (0, 0) 332, 0, 0)) (e_L 332 (0, ei_goto 336, 0, 0))) (e_T 335 (e_L 335 (0, ei_push (0, 2) 336, 0, 0)) (e_L 336 (0, ei_ast elay false 337, 0, 0)))) (e_T 338 (e_T 337 (e_L 337 (1, e_nof, 0, 0)) (e_L 338 (0, ei_load 0 2 339, 0, 0))) (e_T 339 (e_L 339 (0, ei_getf eft elay 12 0 342, 0, 0)) (e_L 342 (0, ei_load 2 0 343, 0, 0))))) (e_T 347 (e_T 345 (e_T 343 (e_L 343 (0, ei_push (0, 8) 345, 0, 0)) (e_L 345 (0, ei_bin eF_add 346, 0, 0))) (e_T 346 (e_L 346 (0, ei_stk ef_dup2 347, 0, 0)) (e_L 347 (0, ei_ald elay false 348, 0, 0)))) (e_T 349 (e_T 348 (e_L 348 (0, ei_push (0, 1) 349, 0, 0)) (e_L 349 (0, ei_bin eF_add 350, 0, 0))) (e_T 350 (e_L 350 (0, ei_ast elay false 351, 0, 0)) (e_L 351 (0, ei_load 4 0 353, 0, 0)))))) (e_T 365 (e_T 359 (e_T 356 (e_T 353 (e_L 353 (0, ei_if1 0 429 356, 0, 0)) (e_L 356 (0, ei_load 0 2 357, 0, 0))) (e_T 357 (e_L 357 (0, ei_push (0, 8) 359, 0, 0)) (e_L 359 (0, ei_load 1 0 360, 0, 0)))) (e_T 361 (e_T 360 (e_L 360 (0, ei_load 0 2 361, 0, 0)) (e_L 361 (0, ei_getf eft elay 12 0 364, 0, 0))) (e_T 364 (e_L 364 (0, ei_load 2 0 365, 0, 0)) (e_L 365 (0, ei_push (0, 8) 367, 0, 0))))) (e_T 372 (e_T 368 (e_T 367 (e_L 367 (0, ei_bin eF_add 368, 0, 0)) (e_L 368 (0, ei_ald elay false 369, 0, 0))) (e_T 369 (e_L 369 (2, e_nof, 319, 4)) (e_L 372 (0, ei_load 0 2 373, 0, 0)))) (e_T 374 (e_T 373 (e_L 373 (0, ei_push (0, 1) 374, 0, 0)) (e_L 374 (0, ei_load 0 2 375, 0, 0))) (e_T 375 (e_L 375 (0, ei_getf eft elay 12 0 378, 0, 0)) (e_T 378 (e_L 378 (0, ei_load 2 0 379, 0, 0)) (e_L 379 (0, ei_push (0, 8) 381, 0, 0))))))))
set_option maxRecDepth 20000 in
set_option maxHeartbeats 4000000 in
theorem te_388_198_ok : ∀ pc, e_EOq eft cls elay eI n_388 pc (te_388_198 pc) :=
  (e_Tok2
  (e_Tok2
  (e_Tok2
  (e_Tok2
  (e_Tok2
  (e_Lok (ps_iconst_0 (x_dk dn_388_1_3_ok 23 rfl)))
  (e_Lok (e_st (I := eI) (er_goto (off := 4) (tg := 336) (x_dk dn_388_1_3_ok 24 rfl) (by decide)) nx_goto)))
  (e_Tok2
  (e_Lok (ps_iconst_2 (x_dk dn_388_2_0_ok 0 rfl)))
  (e_Lok (sm_iastore (x_dk dn_388_2_0_ok 1 rfl)))))
  (e_Tok2
  (e_Tok2
  (e_Lok (e_rt (I := eI) (k := 0) ⟨(x_dk dn_388_2_0_ok 2 rfl), rfl⟩))
  (e_Lok (ld_aload_n_0 (x_dk dn_388_2_0_ok 3 rfl))))
  (e_Tok2
  (e_Lok (lk_12_8g ho_388 (x_dk dn_388_2_0_ok 4 rfl)))
  (e_Lok (ld_iload_n_2 (x_dk dn_388_2_0_ok 5 rfl))))))
  (e_Tok2
  (e_Tok2
  (e_Tok2
  (e_Lok (ps_bipush_8 (x_dk dn_388_2_0_ok 6 rfl)))
  (e_Lok (sm_iadd (x_dk dn_388_2_0_ok 7 rfl))))
  (e_Tok2
  (e_Lok (e_st (I := eI) (er_dup2 (x_dk dn_388_2_0_ok 8 rfl)) (nx_stk bf_dup2)))
  (e_Lok (sm_iaload (x_dk dn_388_2_0_ok 9 rfl)))))
  (e_Tok2
  (e_Tok2
  (e_Lok (ps_iconst_1 (x_dk dn_388_2_0_ok 10 rfl)))
  (e_Lok (sm_iadd (x_dk dn_388_2_0_ok 11 rfl))))
  (e_Tok2
  (e_Lok (sm_iastore (x_dk dn_388_2_0_ok 12 rfl)))
  (e_Lok (ld_iload_4 (x_dk dn_388_2_0_ok 13 rfl)))))))
  (e_Tok2
  (e_Tok2
  (e_Tok2
  (e_Tok2
  (e_Lok (e_st (I := eI) (er_ifeq (off := 76) (tg := 429) (x_dk dn_388_2_0_ok 14 rfl) (by decide)) nx_if1))
  (e_Lok (ld_aload_n_0 (x_dk dn_388_2_0_ok 15 rfl))))
  (e_Tok2
  (e_Lok (ps_bipush_8 (x_dk dn_388_2_0_ok 16 rfl)))
  (e_Lok (ld_iload_n_1 (x_dk dn_388_2_0_ok 17 rfl)))))
  (e_Tok2
  (e_Tok2
  (e_Lok (ld_aload_n_0 (x_dk dn_388_2_0_ok 18 rfl)))
  (e_Lok (lk_12_8g ho_388 (x_dk dn_388_2_0_ok 19 rfl))))
  (e_Tok2
  (e_Lok (ld_iload_n_2 (x_dk dn_388_2_0_ok 20 rfl)))
  (e_Lok (ps_bipush_8 (x_dk dn_388_2_0_ok 21 rfl))))))
  (e_Tok2
  (e_Tok2
  (e_Tok2
  (e_Lok (sm_iadd (x_dk dn_388_2_0_ok 22 rfl)))
  (e_Lok (sm_iaload (x_dk dn_388_2_0_ok 23 rfl))))
  (e_Tok2
  (e_Lok (lk_12_693 ho_388 (x_dk dn_388_2_0_ok 24 rfl)))
  (e_Lok (ld_aload_n_0 (x_dk dn_388_2_1_ok 0 rfl)))))
  (e_Tok2
  (e_Tok2
  (e_Lok (ps_iconst_1 (x_dk dn_388_2_1_ok 1 rfl)))
  (e_Lok (ld_aload_n_0 (x_dk dn_388_2_1_ok 2 rfl))))
  (e_Tok2
  (e_Lok (lk_12_8g ho_388 (x_dk dn_388_2_1_ok 3 rfl)))
  (e_Tok2
  (e_Lok (ld_iload_n_2 (x_dk dn_388_2_1_ok 4 rfl)))
  (e_Lok (ps_bipush_8 (x_dk dn_388_2_1_ok 5 rfl)))))))))
def te_388_231 : Nat → eE := (e_T 405 (e_T 391 (e_T 384 (e_T 382 (e_T 381 (e_L 381 (0, ei_bin eF_add 382, 0, 0)) (e_L 382 (0, ei_ald elay false 383, 0, 0))) (e_T 383 (e_L 383 (0, ei_load 0 2 384, 0, 0)) (e_L 384 (0, ei_getf eft elay 12 0 387, 0, 0)))) (e_T 388 (e_T 387 (e_L 387 (0, ei_load 2 0 388, 0, 0)) (e_L 388 (0, ei_push (0, 11) 390, 0, 0))) (e_T 390 (e_L 390 (0, ei_bin eF_add 391, 0, 0)) (e_L 391 (0, ei_ald elay false 392, 0, 0))))) (e_T 397 (e_T 393 (e_T 392 (e_L 392 (0, ei_push (0, 1) 393, 0, 0)) (e_L 393 (0, ei_bin eF_add 394, 0, 0))) (e_T 394 (e_L 394 (0, ei_if2 0 401 397, 0, 0)) (e_L 397 (0, ei_push (0, 1) 398, 0, 0)))) (e_T 401 (e_T 398 (e_L 398 (0, ei_goto 402, 0, 0)) (e_L 401 (0, ei_push (0, 0) 402, 0, 0))) (e_T 402 (e_L 402 (2, e_nof, 389, 3)) (e_L 405 (0, ei_load 0 2 406, 0, 0)))))) (e_T 415 (e_T 411 (e_T 409 (e_T 406 (e_L 406 (0, ei_getf eft elay 12 0 409, 0, 0)) (e_L 409 (0, ei_load 2 0 410, 0, 0))) (e_T 410 (e_L 410 (0, ei_push (0, 0) 411, 0, 0)) (e_L 411 (0, ei_bin eF_add 412, 0, 0)))) (e_T 413 (e_T 412 (e_L 412 (0, ei_push (0, 0) 413, 0, 0)) (e_L 413 (0, ei_ast elay false 414, 0, 0))) (e_T 414 (e_L 414 (0, ei_load 0 2 415, 0, 0)) (e_L 415 (0, ei_getf eft elay 12 0 418, 0, 0))))) (e_T 422 (e_T 419 (e_T 418 (e_L 418 (0, ei_load 2 0 419, 0, 0)) (e_L 419 (0, ei_push (0, 9) 421, 0, 0))) (e_T 421 (e_L 421 (0, ei_bin eF_add 422, 0, 0)) (e_L 422 (0, ei_push (0, (-1)) 423, 0, 0)))) (e_T 424 (e_T 423 (e_L 423 (0, ei_ast elay false 424, 0, 0)) (e_L 424 (0, ei_load 0 2 425, 0, 0))) (e_T 425 (e_L 425 (0, ei_load 1 0 426, 0, 0)) (e_T 426 (e_L 426 (2, e_nof, 391, 2)) (e_L 429 (1, e_nof, 0, 0))))))))
set_option maxRecDepth 20000 in
set_option maxHeartbeats 4000000 in
theorem te_388_231_ok : ∀ pc, e_EOq eft cls elay eI n_388 pc (te_388_231 pc) :=
  (e_Tok2
  (e_Tok2
  (e_Tok2
  (e_Tok2
  (e_Tok2
  (e_Lok (sm_iadd (x_dk dn_388_2_1_ok 6 rfl)))
  (e_Lok (sm_iaload (x_dk dn_388_2_1_ok 7 rfl))))
  (e_Tok2
  (e_Lok (ld_aload_n_0 (x_dk dn_388_2_1_ok 8 rfl)))
  (e_Lok (lk_12_8g ho_388 (x_dk dn_388_2_1_ok 9 rfl)))))
  (e_Tok2
  (e_Tok2
  (e_Lok (ld_iload_n_2 (x_dk dn_388_2_1_ok 10 rfl)))
  (e_Lok (ps_bipush_11 (x_dk dn_388_2_1_ok 11 rfl))))
  (e_Tok2
  (e_Lok (sm_iadd (x_dk dn_388_2_1_ok 12 rfl)))
  (e_Lok (sm_iaload (x_dk dn_388_2_1_ok 13 rfl))))))
  (e_Tok2
  (e_Tok2
  (e_Tok2
  (e_Lok (ps_iconst_1 (x_dk dn_388_2_1_ok 14 rfl)))
  (e_Lok (sm_iadd (x_dk dn_388_2_1_ok 15 rfl))))
  (e_Tok2
  (e_Lok (e_st (I := eI) (er_icmpeq (off := 7) (tg := 401) (x_dk dn_388_2_1_ok 16 rfl) (by decide)) nx_if2))
  (e_Lok (ps_iconst_1 (x_dk dn_388_2_1_ok 17 rfl)))))
  (e_Tok2
  (e_Tok2
  (e_Lok (e_st (I := eI) (er_goto (off := 4) (tg := 402) (x_dk dn_388_2_1_ok 18 rfl) (by decide)) nx_goto))
  (e_Lok (ps_iconst_0 (x_dk dn_388_2_1_ok 19 rfl))))
  (e_Tok2
  (e_Lok (lk_12_765 ho_388 (x_dk dn_388_2_1_ok 20 rfl)))
  (e_Lok (ld_aload_n_0 (x_dk dn_388_2_1_ok 21 rfl)))))))
  (e_Tok2
  (e_Tok2
  (e_Tok2
  (e_Tok2
  (e_Lok (lk_12_8g ho_388 (x_dk dn_388_2_1_ok 22 rfl)))
  (e_Lok (ld_iload_n_2 (x_dk dn_388_2_1_ok 23 rfl))))
  (e_Tok2
  (e_Lok (ps_iconst_0 (x_dk dn_388_2_1_ok 24 rfl)))
  (e_Lok (sm_iadd (x_dk dn_388_2_2_ok 0 rfl)))))
  (e_Tok2
  (e_Tok2
  (e_Lok (ps_iconst_0 (x_dk dn_388_2_2_ok 1 rfl)))
  (e_Lok (sm_iastore (x_dk dn_388_2_2_ok 2 rfl))))
  (e_Tok2
  (e_Lok (ld_aload_n_0 (x_dk dn_388_2_2_ok 3 rfl)))
  (e_Lok (lk_12_8g ho_388 (x_dk dn_388_2_2_ok 4 rfl))))))
  (e_Tok2
  (e_Tok2
  (e_Tok2
  (e_Lok (ld_iload_n_2 (x_dk dn_388_2_2_ok 5 rfl)))
  (e_Lok (ps_bipush_9 (x_dk dn_388_2_2_ok 6 rfl))))
  (e_Tok2
  (e_Lok (sm_iadd (x_dk dn_388_2_2_ok 7 rfl)))
  (e_Lok (ps_iconst_m1 (x_dk dn_388_2_2_ok 8 rfl)))))
  (e_Tok2
  (e_Tok2
  (e_Lok (sm_iastore (x_dk dn_388_2_2_ok 9 rfl)))
  (e_Lok (ld_aload_n_0 (x_dk dn_388_2_2_ok 10 rfl))))
  (e_Tok2
  (e_Lok (ld_iload_n_1 (x_dk dn_388_2_2_ok 11 rfl)))
  (e_Tok2
  (e_Lok (lk_12_768 ho_388 (x_dk dn_388_2_2_ok 12 rfl)))
  (e_Lok (e_rt (I := eI) (k := 0) ⟨(x_dk dn_388_2_2_ok 13 rfl), rfl⟩))))))))
def te_388 : Nat → eE := (e_T 215 (e_T 102 (e_T 50 te_388_0 te_388_33) (e_T 158 te_388_66 te_388_99)) (e_T 328 (e_T 271 te_388_132 te_388_165) (e_T 379 te_388_198 te_388_231)))
theorem te_388_ok : ∀ pc, e_EOq eft cls elay eI n_388 pc (te_388 pc) := (e_Tok2 ((e_Tok2 ((e_Tok2 (te_388_0_ok) (te_388_33_ok))) ((e_Tok2 (te_388_66_ok) (te_388_99_ok))))) ((e_Tok2 ((e_Tok2 (te_388_132_ok) (te_388_165_ok))) ((e_Tok2 (te_388_198_ok) (te_388_231_ok))))))
theorem ho_389 : (xm_y n_389).cls = "RobotCellHouseModel" := rfl
def dn_389_0_0 : List (Nat × Instr × Nat) := [(0, .aload_n 0, 1), (1, .getfield 24, 3), (4, .iload_n 1, 1), (5, .dup2, 1), (6, .iaload, 1), (7, .iload_n 2, 1), (8, .ifCond .eq 14, 3), (11, .aload_n 0, 1), (12, .getfield 771, 3), (15, .ifCond .ne 7, 3), (18, .iconst 1, 1), (19, .goto 4, 3), (22, .iconst 0, 1), (23, .iadd, 1), (24, .iastore, 1), (25, .return_, 1)]
set_option maxRecDepth 20000 in
theorem dn_389_0_0_ok : dn_389_0_0.all (fun q => decide (decode (xm_b n_389) q.1 = .ok (q.2.1, q.2.2))) = true := xa_g_ok (by decide +kernel)
def te_389_0 : Nat → eE := (e_T 11 (e_T 5 (e_T 1 (e_T 0 (e_L 0 (0, ei_load 0 2 1, 0, 0)) (e_L 1 (0, ei_getf eft elay 12 7 4, 0, 0))) (e_T 4 (e_L 4 (0, ei_load 1 0 5, 0, 0)) (e_L 5 (0, ei_stk ef_dup2 6, 0, 0)))) (e_T 7 (e_T 6 (e_L 6 (0, ei_ald elay false 7, 0, 0)) (e_L 7 (0, ei_load 2 0 8, 0, 0))) (e_T 8 (e_L 8 (0, ei_if1 0 22 11, 0, 0)) (e_L 11 (0, ei_load 0 2 12, 0, 0))))) (e_T 19 (e_T 15 (e_T 12 (e_L 12 (0, ei_getf eft elay 12 6 15, 0, 0)) (e_L 15 (0, ei_if1 1 22 18, 0, 0))) (e_T 18 (e_L 18 (0, ei_push (0, 1) 19, 0, 0)) (e_L 19 (0, ei_goto 23, 0, 0)))) (e_T 23 (e_T 22 (e_L 22 (0, ei_push (0, 0) 23, 0, 0)) (e_L 23 (0, ei_bin eF_add 24, 0, 0))) (e_T 24 (e_L 24 (0, ei_ast elay false 25, 0, 0)) (e_L 25 (1, e_nof, 0, 0))))))
set_option maxRecDepth 20000 in
set_option maxHeartbeats 4000000 in
theorem te_389_0_ok : ∀ pc, e_EOq eft cls elay eI n_389 pc (te_389_0 pc) :=
  (e_Tok2
  (e_Tok2
  (e_Tok2
  (e_Tok2
  (e_Lok (ld_aload_n_0 (x_dk dn_389_0_0_ok 0 rfl)))
  (e_Lok (lk_12_24g ho_389 (x_dk dn_389_0_0_ok 1 rfl))))
  (e_Tok2
  (e_Lok (ld_iload_n_1 (x_dk dn_389_0_0_ok 2 rfl)))
  (e_Lok (e_st (I := eI) (er_dup2 (x_dk dn_389_0_0_ok 3 rfl)) (nx_stk bf_dup2)))))
  (e_Tok2
  (e_Tok2
  (e_Lok (sm_iaload (x_dk dn_389_0_0_ok 4 rfl)))
  (e_Lok (ld_iload_n_2 (x_dk dn_389_0_0_ok 5 rfl))))
  (e_Tok2
  (e_Lok (e_st (I := eI) (er_ifeq (off := 14) (tg := 22) (x_dk dn_389_0_0_ok 6 rfl) (by decide)) nx_if1))
  (e_Lok (ld_aload_n_0 (x_dk dn_389_0_0_ok 7 rfl))))))
  (e_Tok2
  (e_Tok2
  (e_Tok2
  (e_Lok (lk_12_771g ho_389 (x_dk dn_389_0_0_ok 8 rfl)))
  (e_Lok (e_st (I := eI) (er_ifne (off := 7) (tg := 22) (x_dk dn_389_0_0_ok 9 rfl) (by decide)) nx_if1)))
  (e_Tok2
  (e_Lok (ps_iconst_1 (x_dk dn_389_0_0_ok 10 rfl)))
  (e_Lok (e_st (I := eI) (er_goto (off := 4) (tg := 23) (x_dk dn_389_0_0_ok 11 rfl) (by decide)) nx_goto))))
  (e_Tok2
  (e_Tok2
  (e_Lok (ps_iconst_0 (x_dk dn_389_0_0_ok 12 rfl)))
  (e_Lok (sm_iadd (x_dk dn_389_0_0_ok 13 rfl))))
  (e_Tok2
  (e_Lok (sm_iastore (x_dk dn_389_0_0_ok 14 rfl)))
  (e_Lok (e_rt (I := eI) (k := 0) ⟨(x_dk dn_389_0_0_ok 15 rfl), rfl⟩))))))
def te_389 : Nat → eE := te_389_0
theorem te_389_ok : ∀ pc, e_EOq eft cls elay eI n_389 pc (te_389 pc) := te_389_0_ok
end
