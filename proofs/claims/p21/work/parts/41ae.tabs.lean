noncomputable section
theorem ho_69 : (xm_y n_69).cls = "RobotCellHouse$Doer" := rfl
def dn_69_0_0 : List (Nat × Instr × Nat) := [(0, .aload_n 0, 1), (1, .getfield 11, 3), (4, .iload_n 1, 1), (5, .aaload, 1), (6, .astore_n 2, 1), (7, .aload_n 2, 1), (8, .getfield 258, 3), (11, .istore_n 3, 1), (12, .iload_n 3, 1), (13, .ifCond .ge 10, 3), (16, .aload_n 0, 1), (17, .bipush 7, 2), (19, .invokevirtual 199, 3), (22, .return_, 1), (23, .aload_n 0, 1), (24, .getfield 27, 3), (27, .iload_n 3, 1), (28, .aload_n 2, 1), (29, .getfield 328, 3), (32, .aload_n 2, 1), (33, .getfield 267, 3), (36, .iaload, 1), (37, .aload_n 2, 1), (38, .getfield 331, 3), (41, .aload_n 2, 1)]
set_option maxRecDepth 20000 in
theorem dn_69_0_0_ok : dn_69_0_0.all (fun q => decide (decode (xm_b n_69) q.1 = .ok (q.2.1, q.2.2))) = true := xa_g_ok (by decide +kernel)
def dn_69_0_1 : List (Nat × Instr × Nat) := [(42, .getfield 267, 3), (45, .iaload, 1), (46, .invokevirtual 353, 3), (49, .aload_n 2, 1), (50, .iconst (-1), 1), (51, .putfield 258, 3), (54, .aload_n 0, 1), (55, .getfield 34, 3), (58, .bipush 7, 2), (60, .iload_n 1, 1), (61, .iload_n 3, 1), (62, .invokevirtual 108, 3), (65, .aload_n 0, 1), (66, .iconst (-1), 1), (67, .invokevirtual 350, 3), (70, .return_, 1)]
set_option maxRecDepth 20000 in
theorem dn_69_0_1_ok : dn_69_0_1.all (fun q => decide (decode (xm_b n_69) q.1 = .ok (q.2.1, q.2.2))) = true := xa_g_ok (by decide +kernel)
def te_69_0 : Nat → eE := (e_T 13 (e_T 6 (e_T 1 (e_T 0 (e_L 0 (0, ei_load 0 2 1, 0, 0)) (e_L 1 (0, ei_getf eft elay 3 0 4, 0, 0))) (e_T 4 (e_L 4 (0, ei_load 1 0 5, 0, 0)) (e_T 5 (e_L 5 (0, ei_aald elay 6, 0, 0)) (e_L 6 (0, ei_stor 2 2 7, 0, 0))))) (e_T 8 (e_T 7 (e_L 7 (0, ei_load 2 2 8, 0, 0)) (e_L 8 (0, ei_getf eft elay 0 14 11, 0, 0))) (e_T 11 (e_L 11 (0, ei_stor 3 0 12, 0, 0)) (e_T 12 (e_L 12 (0, ei_load 3 0 13, 0, 0)) (e_L 13 (0, ei_if1 3 23 16, 0, 0)))))) (e_T 23 (e_T 17 (e_T 16 (e_L 16 (0, ei_load 0 2 17, 0, 0)) (e_L 17 (0, ei_push (0, 7) 19, 0, 0))) (e_T 19 (e_L 19 (2, e_nof, 46, 2)) (e_T 22 (e_L 22 (1, e_nof, 0, 0)) (e_L 23 (0, ei_load 0 2 24, 0, 0))))) (e_T 27 (e_T 24 (e_L 24 (0, ei_getf eft elay 3 2 27, 0, 0)) (e_L 27 (0, ei_load 3 0 28, 0, 0))) (e_T 28 (e_L 28 (0, ei_load 2 2 29, 0, 0)) (e_T 29 (e_L 29 (0, ei_getf eft elay 0 1 32, 0, 0)) (e_L 32 (0, ei_load 2 2 33, 0, 0)))))))
set_option maxRecDepth 20000 in
set_option maxHeartbeats 4000000 in
theorem te_69_0_ok : ∀ pc, e_EOq eft cls elay eI n_69 pc (te_69_0 pc) :=
  (e_Tok2
  (e_Tok2
  (e_Tok2
  (e_Tok2
  (e_Lok (ld_aload_n_0 (x_dk dn_69_0_0_ok 0 rfl)))
  (e_Lok (lk_3_11g ho_69 (x_dk dn_69_0_0_ok 1 rfl))))
  (e_Tok2
  (e_Lok (ld_iload_n_1 (x_dk dn_69_0_0_ok 2 rfl)))
  (e_Tok2
  (e_Lok (e_st (I := eI) (er_aaload (x_dk dn_69_0_0_ok 3 rfl)) nx_aald))
  (e_Lok (e_st (I := eI) (er_astore_n (i := 2) (x_dk dn_69_0_0_ok 4 rfl) (by decide +kernel)) nx_stor)))))
  (e_Tok2
  (e_Tok2
  (e_Lok (ld_aload_n_2 (x_dk dn_69_0_0_ok 5 rfl)))
  (e_Lok (lk_3_258g ho_69 (x_dk dn_69_0_0_ok 6 rfl))))
  (e_Tok2
  (e_Lok (e_st (I := eI) (er_istore_n (i := 3) (x_dk dn_69_0_0_ok 7 rfl) (by decide +kernel)) nx_stor))
  (e_Tok2
  (e_Lok (ld_iload_n_3 (x_dk dn_69_0_0_ok 8 rfl)))
  (e_Lok (e_st (I := eI) (er_ifge (off := 10) (tg := 23) (x_dk dn_69_0_0_ok 9 rfl) (by decide)) nx_if1))))))
  (e_Tok2
  (e_Tok2
  (e_Tok2
  (e_Lok (ld_aload_n_0 (x_dk dn_69_0_0_ok 10 rfl)))
  (e_Lok (ps_bipush_7 (x_dk dn_69_0_0_ok 11 rfl))))
  (e_Tok2
  (e_Lok (lk_3_199 ho_69 (x_dk dn_69_0_0_ok 12 rfl)))
  (e_Tok2
  (e_Lok (e_rt (I := eI) (k := 0) ⟨(x_dk dn_69_0_0_ok 13 rfl), rfl⟩))
  (e_Lok (ld_aload_n_0 (x_dk dn_69_0_0_ok 14 rfl))))))
  (e_Tok2
  (e_Tok2
  (e_Lok (lk_3_27g ho_69 (x_dk dn_69_0_0_ok 15 rfl)))
  (e_Lok (ld_iload_n_3 (x_dk dn_69_0_0_ok 16 rfl))))
  (e_Tok2
  (e_Lok (ld_aload_n_2 (x_dk dn_69_0_0_ok 17 rfl)))
  (e_Tok2
  (e_Lok (lk_3_328g ho_69 (x_dk dn_69_0_0_ok 18 rfl)))
  (e_Lok (ld_aload_n_2 (x_dk dn_69_0_0_ok 19 rfl))))))))
def te_69_20 : Nat → eE := (e_T 50 (e_T 41 (e_T 36 (e_T 33 (e_L 33 (0, ei_getf eft elay 0 8 36, 0, 0)) (e_L 36 (0, ei_ald elay false 37, 0, 0))) (e_T 37 (e_L 37 (0, ei_load 2 2 38, 0, 0)) (e_T 38 (e_L 38 (0, ei_getf eft elay 0 2 41, 0, 0)) (e_L 41 (0, ei_load 2 2 42, 0, 0))))) (e_T 45 (e_T 42 (e_L 42 (0, ei_getf eft elay 0 8 45, 0, 0)) (e_L 45 (0, ei_ald elay false 46, 0, 0))) (e_T 46 (e_L 46 (2, e_nof, 85, 4)) (e_T 49 (e_L 49 (0, ei_load 2 2 50, 0, 0)) (e_L 50 (0, ei_push (0, (-1)) 51, 0, 0)))))) (e_T 60 (e_T 54 (e_T 51 (e_L 51 (0, ei_putf eft elay 0 14 0 54, 0, 0)) (e_L 54 (0, ei_load 0 2 55, 0, 0))) (e_T 55 (e_L 55 (0, ei_getf eft elay 3 3 58, 0, 0)) (e_T 58 (e_L 58 (0, ei_push (0, 7) 60, 0, 0)) (e_L 60 (0, ei_load 1 0 61, 0, 0))))) (e_T 65 (e_T 61 (e_L 61 (0, ei_load 3 0 62, 0, 0)) (e_T 62 (e_L 62 (2, e_nof, 27, 4)) (e_L 65 (0, ei_load 0 2 66, 0, 0)))) (e_T 66 (e_L 66 (0, ei_push (0, (-1)) 67, 0, 0)) (e_T 67 (e_L 67 (2, e_nof, 39, 2)) (e_L 70 (1, e_nof, 0, 0)))))))
set_option maxRecDepth 20000 in
set_option maxHeartbeats 4000000 in
theorem te_69_20_ok : ∀ pc, e_EOq eft cls elay eI n_69 pc (te_69_20 pc) :=
  (e_Tok2
  (e_Tok2
  (e_Tok2
  (e_Tok2
  (e_Lok (lk_3_267g ho_69 (x_dk dn_69_0_0_ok 20 rfl)))
  (e_Lok (sm_iaload (x_dk dn_69_0_0_ok 21 rfl))))
  (e_Tok2
  (e_Lok (ld_aload_n_2 (x_dk dn_69_0_0_ok 22 rfl)))
  (e_Tok2
  (e_Lok (lk_3_331g ho_69 (x_dk dn_69_0_0_ok 23 rfl)))
  (e_Lok (ld_aload_n_2 (x_dk dn_69_0_0_ok 24 rfl))))))
  (e_Tok2
  (e_Tok2
  (e_Lok (lk_3_267g ho_69 (x_dk dn_69_0_1_ok 0 rfl)))
  (e_Lok (sm_iaload (x_dk dn_69_0_1_ok 1 rfl))))
  (e_Tok2
  (e_Lok (lk_3_353 ho_69 (x_dk dn_69_0_1_ok 2 rfl)))
  (e_Tok2
  (e_Lok (ld_aload_n_2 (x_dk dn_69_0_1_ok 3 rfl)))
  (e_Lok (ps_iconst_m1 (x_dk dn_69_0_1_ok 4 rfl)))))))
  (e_Tok2
  (e_Tok2
  (e_Tok2
  (e_Lok (lk_3_258p ho_69 (x_dk dn_69_0_1_ok 5 rfl)))
  (e_Lok (ld_aload_n_0 (x_dk dn_69_0_1_ok 6 rfl))))
  (e_Tok2
  (e_Lok (lk_3_34g ho_69 (x_dk dn_69_0_1_ok 7 rfl)))
  (e_Tok2
  (e_Lok (ps_bipush_7 (x_dk dn_69_0_1_ok 8 rfl)))
  (e_Lok (ld_iload_n_1 (x_dk dn_69_0_1_ok 9 rfl))))))
  (e_Tok2
  (e_Tok2
  (e_Lok (ld_iload_n_3 (x_dk dn_69_0_1_ok 10 rfl)))
  (e_Tok2
  (e_Lok (lk_3_108 ho_69 (x_dk dn_69_0_1_ok 11 rfl)))
  (e_Lok (ld_aload_n_0 (x_dk dn_69_0_1_ok 12 rfl)))))
  (e_Tok2
  (e_Lok (ps_iconst_m1 (x_dk dn_69_0_1_ok 13 rfl)))
  (e_Tok2
  (e_Lok (lk_3_350 ho_69 (x_dk dn_69_0_1_ok 14 rfl)))
  (e_Lok (e_rt (I := eI) (k := 0) ⟨(x_dk dn_69_0_1_ok 15 rfl), rfl⟩)))))))
def te_69 : Nat → eE := (e_T 32 te_69_0 te_69_20)
theorem te_69_ok : ∀ pc, e_EOq eft cls elay eI n_69 pc (te_69 pc) := (e_Tok2 (te_69_0_ok) (te_69_20_ok))
theorem ho_70 : (xm_y n_70).cls = "RobotCellHouse$Doer" := rfl
def dn_70_0_0 : List (Nat × Instr × Nat) := [(0, .iload_n 2, 1), (1, .iconst (-1), 1), (2, .bipush 63, 2), (4, .invokestatic 120, 3), (7, .ifCond .ne 9, 3), (10, .aload_n 0, 1), (11, .iconst 2, 1), (12, .invokevirtual 199, 3), (15, .return_, 1), (16, .aload_n 1, 1), (17, .iload_n 2, 1), (18, .putfield 208, 3), (21, .aload_n 1, 1), (22, .iload_n 3, 1), (23, .putfield 217, 3), (26, .iload_n 2, 1), (27, .ifCond .lt 16, 3), (30, .aload_n 1, 1), (31, .aload_n 0, 1), (32, .getfield 20, 3), (35, .getfield 211, 3), (38, .iload_n 2, 1), (39, .iaload, 1), (40, .putfield 214, 3), (43, .return_, 1)]
set_option maxRecDepth 20000 in
theorem dn_70_0_0_ok : dn_70_0_0.all (fun q => decide (decode (xm_b n_70) q.1 = .ok (q.2.1, q.2.2))) = true := xa_g_ok (by decide +kernel)
def te_70_0 : Nat → eE := (e_T 18 (e_T 10 (e_T 2 (e_T 0 (e_L 0 (0, ei_load 2 0 1, 0, 0)) (e_T 1 (e_L 1 (0, ei_push (0, (-1)) 2, 0, 0)) (e_L 2 (0, ei_push (0, 63) 4, 0, 0)))) (e_T 4 (e_L 4 (2, e_nof, 242, 3)) (e_T 7 (e_L 7 (0, ei_if1 1 16 10, 0, 0)) (e_L 10 (0, ei_load 0 2 11, 0, 0))))) (e_T 15 (e_T 11 (e_L 11 (0, ei_push (0, 2) 12, 0, 0)) (e_T 12 (e_L 12 (2, e_nof, 46, 2)) (e_L 15 (1, e_nof, 0, 0)))) (e_T 16 (e_L 16 (0, ei_load 1 2 17, 0, 0)) (e_T 17 (e_L 17 (0, ei_load 2 0 18, 0, 0)) (e_L 18 (0, ei_putf eft elay 10 11 0 21, 0, 0)))))) (e_T 30 (e_T 23 (e_T 21 (e_L 21 (0, ei_load 1 2 22, 0, 0)) (e_T 22 (e_L 22 (0, ei_load 3 0 23, 0, 0)) (e_L 23 (0, ei_putf eft elay 10 12 0 26, 0, 0)))) (e_T 26 (e_L 26 (0, ei_load 2 0 27, 0, 0)) (e_T 27 (e_L 27 (0, ei_if1 2 43 30, 0, 0)) (e_L 30 (0, ei_load 1 2 31, 0, 0))))) (e_T 35 (e_T 31 (e_L 31 (0, ei_load 0 2 32, 0, 0)) (e_T 32 (e_L 32 (0, ei_getf eft elay 3 1 35, 0, 0)) (e_L 35 (0, ei_getf eft elay 7 2 38, 0, 0)))) (e_T 39 (e_T 38 (e_L 38 (0, ei_load 2 0 39, 0, 0)) (e_L 39 (0, ei_ald elay false 40, 0, 0))) (e_T 40 (e_L 40 (0, ei_putf eft elay 10 13 0 43, 0, 0)) (e_L 43 (1, e_nof, 0, 0)))))))
set_option maxRecDepth 20000 in
set_option maxHeartbeats 4000000 in
theorem te_70_0_ok : ∀ pc, e_EOq eft cls elay eI n_70 pc (te_70_0 pc) :=
  (e_Tok2
  (e_Tok2
  (e_Tok2
  (e_Tok2
  (e_Lok (ld_iload_n_2 (x_dk dn_70_0_0_ok 0 rfl)))
  (e_Tok2
  (e_Lok (ps_iconst_m1 (x_dk dn_70_0_0_ok 1 rfl)))
  (e_Lok (ps_bipush_63 (x_dk dn_70_0_0_ok 2 rfl)))))
  (e_Tok2
  (e_Lok (lk_3_120 ho_70 (x_dk dn_70_0_0_ok 3 rfl)))
  (e_Tok2
  (e_Lok (e_st (I := eI) (er_ifne (off := 9) (tg := 16) (x_dk dn_70_0_0_ok 4 rfl) (by decide)) nx_if1))
  (e_Lok (ld_aload_n_0 (x_dk dn_70_0_0_ok 5 rfl))))))
  (e_Tok2
  (e_Tok2
  (e_Lok (ps_iconst_2 (x_dk dn_70_0_0_ok 6 rfl)))
  (e_Tok2
  (e_Lok (lk_3_199 ho_70 (x_dk dn_70_0_0_ok 7 rfl)))
  (e_Lok (e_rt (I := eI) (k := 0) ⟨(x_dk dn_70_0_0_ok 8 rfl), rfl⟩))))
  (e_Tok2
  (e_Lok (ld_aload_n_1 (x_dk dn_70_0_0_ok 9 rfl)))
  (e_Tok2
  (e_Lok (ld_iload_n_2 (x_dk dn_70_0_0_ok 10 rfl)))
  (e_Lok (lk_3_208p ho_70 (x_dk dn_70_0_0_ok 11 rfl)))))))
  (e_Tok2
  (e_Tok2
  (e_Tok2
  (e_Lok (ld_aload_n_1 (x_dk dn_70_0_0_ok 12 rfl)))
  (e_Tok2
  (e_Lok (ld_iload_n_3 (x_dk dn_70_0_0_ok 13 rfl)))
  (e_Lok (lk_3_217p ho_70 (x_dk dn_70_0_0_ok 14 rfl)))))
  (e_Tok2
  (e_Lok (ld_iload_n_2 (x_dk dn_70_0_0_ok 15 rfl)))
  (e_Tok2
  (e_Lok (e_st (I := eI) (er_iflt (off := 16) (tg := 43) (x_dk dn_70_0_0_ok 16 rfl) (by decide)) nx_if1))
  (e_Lok (ld_aload_n_1 (x_dk dn_70_0_0_ok 17 rfl))))))
  (e_Tok2
  (e_Tok2
  (e_Lok (ld_aload_n_0 (x_dk dn_70_0_0_ok 18 rfl)))
  (e_Tok2
  (e_Lok (lk_3_20g ho_70 (x_dk dn_70_0_0_ok 19 rfl)))
  (e_Lok (lk_3_211g ho_70 (x_dk dn_70_0_0_ok 20 rfl)))))
  (e_Tok2
  (e_Tok2
  (e_Lok (ld_iload_n_2 (x_dk dn_70_0_0_ok 21 rfl)))
  (e_Lok (sm_iaload (x_dk dn_70_0_0_ok 22 rfl))))
  (e_Tok2
  (e_Lok (lk_3_214p ho_70 (x_dk dn_70_0_0_ok 23 rfl)))
  (e_Lok (e_rt (I := eI) (k := 0) ⟨(x_dk dn_70_0_0_ok 24 rfl), rfl⟩)))))))
def te_70 : Nat → eE := te_70_0
theorem te_70_ok : ∀ pc, e_EOq eft cls elay eI n_70 pc (te_70 pc) := te_70_0_ok
theorem ho_71 : (xm_y n_71).cls = "RobotCellHouse$Doer" := rfl
def dn_71_0_0 : List (Nat × Instr × Nat) := [(0, .iload_n 3, 1), (1, .tableswitch 140 40 48 #[51, 60, 76, 87, 94, 140, 106, 119, 127], 51), (52, .aload_n 1, 1), (53, .iload 4, 2), (55, .putfield 141, 3), (58, .goto 83, 3), (61, .aload_n 0, 1), (62, .invokevirtual 166, 3), (65, .ifCond .ne 76, 3), (68, .aload_n 1, 1), (69, .iload 4, 2), (71, .putfield 141, 3), (74, .goto 67, 3), (77, .aload_n 1, 1), (78, .aload_n 2, 1), (79, .iconst 2, 1), (80, .iconst 0, 1), (81, .invokevirtual 182, 3), (84, .pop, 1), (85, .goto 56, 3), (88, .aload_n 1, 1), (89, .invokevirtual 356, 3), (92, .goto 49, 3), (95, .aload_n 1, 1), (96, .aload_n 2, 1)]
set_option maxRecDepth 20000 in
theorem dn_71_0_0_ok : dn_71_0_0.all (fun q => decide (decode (xm_b n_71) q.1 = .ok (q.2.1, q.2.2))) = true := xa_g_ok (by decide +kernel)
def dn_71_0_1 : List (Nat × Instr × Nat) := [(97, .iconst 3, 1), (98, .iload 4, 2), (100, .invokevirtual 182, 3), (103, .pop, 1), (104, .goto 37, 3), (107, .aload_n 1, 1), (108, .aload_n 1, 1), (109, .getfield 141, 3), (112, .iconst 1, 1), (113, .isub, 1), (114, .invokevirtual 359, 3), (117, .goto 24, 3), (120, .aload_n 1, 1), (121, .aload_n 2, 1), (122, .invokevirtual 362, 3), (125, .goto 16, 3), (128, .aload_n 0, 1), (129, .aload_n 1, 1), (130, .aload_n 2, 1), (131, .aload_n 1, 1), (132, .invokevirtual 366, 3), (135, .invokevirtual 369, 3), (138, .goto 3, 3), (141, .aload_n 0, 1), (142, .aload_n 1, 1)]
set_option maxRecDepth 20000 in
theorem dn_71_0_1_ok : dn_71_0_1.all (fun q => decide (decode (xm_b n_71) q.1 = .ok (q.2.1, q.2.2))) = true := xa_g_ok (by decide +kernel)
def dn_71_0_2 : List (Nat × Instr × Nat) := [(143, .invokevirtual 373, 3), (146, .return_, 1)]
set_option maxRecDepth 20000 in
theorem dn_71_0_2_ok : dn_71_0_2.all (fun q => decide (decode (xm_b n_71) q.1 = .ok (q.2.1, q.2.2))) = true := xa_g_ok (by decide +kernel)
def te_71_0 : Nat → eE := (e_T 74 (e_T 58 (e_T 52 (e_T 0 (e_L 0 (0, ei_load 3 0 1, 0, 0)) (e_T 1 (e_L 1 (0, ei_sw [((-2147483648), 39, 141), (40, 40, 52), (41, 41, 61), (42, 42, 77), (43, 43, 88), (44, 44, 95), (45, 45, 141), (46, 46, 107), (47, 47, 120), (48, 48, 128), (49, 2147483647, 141)], 0, 0)) (e_L 52 (0, ei_load 1 2 53, 0, 0)))) (e_T 53 (e_L 53 (0, ei_load 4 0 55, 0, 0)) (e_T 55 (e_L 55 (0, ei_putf eft elay 10 3 0 58, 0, 0)) (e_L 58 (0, ei_goto 141, 0, 0))))) (e_T 65 (e_T 61 (e_L 61 (0, ei_load 0 2 62, 0, 0)) (e_T 62 (e_L 62 (2, e_nof, 53, 1)) (e_L 65 (0, ei_if1 1 141 68, 0, 0)))) (e_T 69 (e_T 68 (e_L 68 (0, ei_load 1 2 69, 0, 0)) (e_L 69 (0, ei_load 4 0 71, 0, 0))) (e_T 71 (e_L 71 (0, ei_putf eft elay 10 3 0 74, 0, 0)) (e_L 74 (0, ei_goto 141, 0, 0)))))) (e_T 84 (e_T 79 (e_T 77 (e_L 77 (0, ei_load 1 2 78, 0, 0)) (e_T 78 (e_L 78 (0, ei_load 2 2 79, 0, 0)) (e_L 79 (0, ei_push (0, 2) 80, 0, 0)))) (e_T 80 (e_L 80 (0, ei_push (0, 0) 81, 0, 0)) (e_T 81 (e_L 81 (2, e_nof, 188, 4)) (e_L 84 (0, ei_stk ef_pop 85, 0, 0))))) (e_T 89 (e_T 85 (e_L 85 (0, ei_goto 141, 0, 0)) (e_T 88 (e_L 88 (0, ei_load 1 2 89, 0, 0)) (e_L 89 (2, e_nof, 183, 1)))) (e_T 95 (e_T 92 (e_L 92 (0, ei_goto 141, 0, 0)) (e_L 95 (0, ei_load 1 2 96, 0, 0))) (e_T 96 (e_L 96 (0, ei_load 2 2 97, 0, 0)) (e_L 97 (0, ei_push (0, 3) 98, 0, 0)))))))
set_option maxRecDepth 20000 in
set_option maxHeartbeats 4000000 in
theorem te_71_0_ok : ∀ pc, e_EOq eft cls elay eI n_71 pc (te_71_0 pc) :=
  (e_Tok2
  (e_Tok2
  (e_Tok2
  (e_Tok2
  (e_Lok (ld_iload_n_3 (x_dk dn_71_0_0_ok 0 rfl)))
  (e_Tok2
  (e_Lok (e_st (I := eI) (er_tsw (dflt := 140) (lo := 40) (hi := 48) (offs := #[51, 60, 76, 87, 94, 140, 106, 119, 127]) (len := 51) (n := 9) (x_dk dn_71_0_0_ok 1 rfl) (by decide) (by decide +kernel)) nx_sw))
  (e_Lok (ld_aload_n_1 (x_dk dn_71_0_0_ok 2 rfl)))))
  (e_Tok2
  (e_Lok (ld_iload_4 (x_dk dn_71_0_0_ok 3 rfl)))
  (e_Tok2
  (e_Lok (lk_3_141p ho_71 (x_dk dn_71_0_0_ok 4 rfl)))
  (e_Lok (e_st (I := eI) (er_goto (off := 83) (tg := 141) (x_dk dn_71_0_0_ok 5 rfl) (by decide)) nx_goto)))))
  (e_Tok2
  (e_Tok2
  (e_Lok (ld_aload_n_0 (x_dk dn_71_0_0_ok 6 rfl)))
  (e_Tok2
  (e_Lok (lk_3_166 ho_71 (x_dk dn_71_0_0_ok 7 rfl)))
  (e_Lok (e_st (I := eI) (er_ifne (off := 76) (tg := 141) (x_dk dn_71_0_0_ok 8 rfl) (by decide)) nx_if1))))
  (e_Tok2
  (e_Tok2
  (e_Lok (ld_aload_n_1 (x_dk dn_71_0_0_ok 9 rfl)))
  (e_Lok (ld_iload_4 (x_dk dn_71_0_0_ok 10 rfl))))
  (e_Tok2
  (e_Lok (lk_3_141p ho_71 (x_dk dn_71_0_0_ok 11 rfl)))
  (e_Lok (e_st (I := eI) (er_goto (off := 67) (tg := 141) (x_dk dn_71_0_0_ok 12 rfl) (by decide)) nx_goto))))))
  (e_Tok2
  (e_Tok2
  (e_Tok2
  (e_Lok (ld_aload_n_1 (x_dk dn_71_0_0_ok 13 rfl)))
  (e_Tok2
  (e_Lok (ld_aload_n_2 (x_dk dn_71_0_0_ok 14 rfl)))
  (e_Lok (ps_iconst_2 (x_dk dn_71_0_0_ok 15 rfl)))))
  (e_Tok2
  (e_Lok (ps_iconst_0 (x_dk dn_71_0_0_ok 16 rfl)))
  (e_Tok2
  (e_Lok (lk_3_182 ho_71 (x_dk dn_71_0_0_ok 17 rfl)))
  (e_Lok (e_st (I := eI) (er_pop (x_dk dn_71_0_0_ok 18 rfl)) (nx_stk bf_pop))))))
  (e_Tok2
  (e_Tok2
  (e_Lok (e_st (I := eI) (er_goto (off := 56) (tg := 141) (x_dk dn_71_0_0_ok 19 rfl) (by decide)) nx_goto))
  (e_Tok2
  (e_Lok (ld_aload_n_1 (x_dk dn_71_0_0_ok 20 rfl)))
  (e_Lok (lk_3_356 ho_71 (x_dk dn_71_0_0_ok 21 rfl)))))
  (e_Tok2
  (e_Tok2
  (e_Lok (e_st (I := eI) (er_goto (off := 49) (tg := 141) (x_dk dn_71_0_0_ok 22 rfl) (by decide)) nx_goto))
  (e_Lok (ld_aload_n_1 (x_dk dn_71_0_0_ok 23 rfl))))
  (e_Tok2
  (e_Lok (ld_aload_n_2 (x_dk dn_71_0_0_ok 24 rfl)))
  (e_Lok (ps_iconst_3 (x_dk dn_71_0_1_ok 0 rfl))))))))
def te_71_26 : Nat → eE := (e_T 121 (e_T 108 (e_T 103 (e_T 98 (e_L 98 (0, ei_load 4 0 100, 0, 0)) (e_T 100 (e_L 100 (2, e_nof, 188, 4)) (e_L 103 (0, ei_stk ef_pop 104, 0, 0)))) (e_T 104 (e_L 104 (0, ei_goto 141, 0, 0)) (e_T 107 (e_L 107 (0, ei_load 1 2 108, 0, 0)) (e_L 108 (0, ei_load 1 2 109, 0, 0))))) (e_T 113 (e_T 109 (e_L 109 (0, ei_getf eft elay 10 3 112, 0, 0)) (e_T 112 (e_L 112 (0, ei_push (0, 1) 113, 0, 0)) (e_L 113 (0, ei_bin eF_sub 114, 0, 0)))) (e_T 117 (e_T 114 (e_L 114 (2, e_nof, 184, 2)) (e_L 117 (0, ei_goto 141, 0, 0))) (e_T 120 (e_L 120 (0, ei_load 1 2 121, 0, 0)) (e_L 121 (0, ei_load 2 2 122, 0, 0)))))) (e_T 131 (e_T 128 (e_T 122 (e_L 122 (2, e_nof, 185, 2)) (e_T 125 (e_L 125 (0, ei_goto 141, 0, 0)) (e_L 128 (0, ei_load 0 2 129, 0, 0)))) (e_T 129 (e_L 129 (0, ei_load 1 2 130, 0, 0)) (e_T 130 (e_L 130 (0, ei_load 2 2 131, 0, 0)) (e_L 131 (0, ei_load 1 2 132, 0, 0))))) (e_T 138 (e_T 132 (e_L 132 (2, e_nof, 186, 1)) (e_T 135 (e_L 135 (2, e_nof, 72, 4)) (e_L 138 (0, ei_goto 141, 0, 0)))) (e_T 142 (e_T 141 (e_L 141 (0, ei_load 0 2 142, 0, 0)) (e_L 142 (0, ei_load 1 2 143, 0, 0))) (e_T 143 (e_L 143 (2, e_nof, 49, 2)) (e_L 146 (1, e_nof, 0, 0)))))))
set_option maxRecDepth 20000 in
set_option maxHeartbeats 4000000 in
theorem te_71_26_ok : ∀ pc, e_EOq eft cls elay eI n_71 pc (te_71_26 pc) :=
  (e_Tok2
  (e_Tok2
  (e_Tok2
  (e_Tok2
  (e_Lok (ld_iload_4 (x_dk dn_71_0_1_ok 1 rfl)))
  (e_Tok2
  (e_Lok (lk_3_182 ho_71 (x_dk dn_71_0_1_ok 2 rfl)))
  (e_Lok (e_st (I := eI) (er_pop (x_dk dn_71_0_1_ok 3 rfl)) (nx_stk bf_pop)))))
  (e_Tok2
  (e_Lok (e_st (I := eI) (er_goto (off := 37) (tg := 141) (x_dk dn_71_0_1_ok 4 rfl) (by decide)) nx_goto))
  (e_Tok2
  (e_Lok (ld_aload_n_1 (x_dk dn_71_0_1_ok 5 rfl)))
  (e_Lok (ld_aload_n_1 (x_dk dn_71_0_1_ok 6 rfl))))))
  (e_Tok2
  (e_Tok2
  (e_Lok (lk_3_141g ho_71 (x_dk dn_71_0_1_ok 7 rfl)))
  (e_Tok2
  (e_Lok (ps_iconst_1 (x_dk dn_71_0_1_ok 8 rfl)))
  (e_Lok (sm_isub (x_dk dn_71_0_1_ok 9 rfl)))))
  (e_Tok2
  (e_Tok2
  (e_Lok (lk_3_359 ho_71 (x_dk dn_71_0_1_ok 10 rfl)))
  (e_Lok (e_st (I := eI) (er_goto (off := 24) (tg := 141) (x_dk dn_71_0_1_ok 11 rfl) (by decide)) nx_goto)))
  (e_Tok2
  (e_Lok (ld_aload_n_1 (x_dk dn_71_0_1_ok 12 rfl)))
  (e_Lok (ld_aload_n_2 (x_dk dn_71_0_1_ok 13 rfl)))))))
  (e_Tok2
  (e_Tok2
  (e_Tok2
  (e_Lok (lk_3_362 ho_71 (x_dk dn_71_0_1_ok 14 rfl)))
  (e_Tok2
  (e_Lok (e_st (I := eI) (er_goto (off := 16) (tg := 141) (x_dk dn_71_0_1_ok 15 rfl) (by decide)) nx_goto))
  (e_Lok (ld_aload_n_0 (x_dk dn_71_0_1_ok 16 rfl)))))
  (e_Tok2
  (e_Lok (ld_aload_n_1 (x_dk dn_71_0_1_ok 17 rfl)))
  (e_Tok2
  (e_Lok (ld_aload_n_2 (x_dk dn_71_0_1_ok 18 rfl)))
  (e_Lok (ld_aload_n_1 (x_dk dn_71_0_1_ok 19 rfl))))))
  (e_Tok2
  (e_Tok2
  (e_Lok (lk_3_366 ho_71 (x_dk dn_71_0_1_ok 20 rfl)))
  (e_Tok2
  (e_Lok (lk_3_369 ho_71 (x_dk dn_71_0_1_ok 21 rfl)))
  (e_Lok (e_st (I := eI) (er_goto (off := 3) (tg := 141) (x_dk dn_71_0_1_ok 22 rfl) (by decide)) nx_goto))))
  (e_Tok2
  (e_Tok2
  (e_Lok (ld_aload_n_0 (x_dk dn_71_0_1_ok 23 rfl)))
  (e_Lok (ld_aload_n_1 (x_dk dn_71_0_1_ok 24 rfl))))
  (e_Tok2
  (e_Lok (lk_3_373 ho_71 (x_dk dn_71_0_2_ok 0 rfl)))
  (e_Lok (e_rt (I := eI) (k := 0) ⟨(x_dk dn_71_0_2_ok 1 rfl), rfl⟩)))))))
def te_71 : Nat → eE := (e_T 97 te_71_0 te_71_26)
theorem te_71_ok : ∀ pc, e_EOq eft cls elay eI n_71 pc (te_71 pc) := (e_Tok2 (te_71_0_ok) (te_71_26_ok))
theorem ho_72 : (xm_y n_72).cls = "RobotCellHouse$Doer" := rfl
def dn_72_0_0 : List (Nat × Instr × Nat) := [(0, .iload_n 3, 1), (1, .iconst 1, 1), (2, .if_icmp .ne 14, 3), (5, .aload_n 0, 1), (6, .aload_n 1, 1), (7, .invokevirtual 376, 3), (10, .invokevirtual 199, 3), (13, .goto 18, 3), (16, .iload_n 3, 1), (17, .ifCond .eq 14, 3), (20, .aload_n 1, 1), (21, .aload_n 2, 1), (22, .iload_n 3, 1), (23, .aload_n 1, 1), (24, .invokevirtual 376, 3), (27, .invokevirtual 182, 3), (30, .pop, 1), (31, .return_, 1)]
set_option maxRecDepth 20000 in
theorem dn_72_0_0_ok : dn_72_0_0.all (fun q => decide (decode (xm_b n_72) q.1 = .ok (q.2.1, q.2.2))) = true := xa_g_ok (by decide +kernel)
def te_72_0 : Nat → eE := (e_T 16 (e_T 5 (e_T 1 (e_T 0 (e_L 0 (0, ei_load 3 0 1, 0, 0)) (e_L 1 (0, ei_push (0, 1) 2, 0, 0))) (e_T 2 (e_L 2 (0, ei_if2 1 16 5, 0, 0)) (e_L 5 (0, ei_load 0 2 6, 0, 0)))) (e_T 7 (e_T 6 (e_L 6 (0, ei_load 1 2 7, 0, 0)) (e_L 7 (2, e_nof, 187, 1))) (e_T 10 (e_L 10 (2, e_nof, 46, 2)) (e_T 13 (e_L 13 (0, ei_goto 31, 0, 0)) (e_L 16 (0, ei_load 3 0 17, 0, 0)))))) (e_T 22 (e_T 20 (e_T 17 (e_L 17 (0, ei_if1 0 31 20, 0, 0)) (e_L 20 (0, ei_load 1 2 21, 0, 0))) (e_T 21 (e_L 21 (0, ei_load 2 2 22, 0, 0)) (e_L 22 (0, ei_load 3 0 23, 0, 0)))) (e_T 24 (e_T 23 (e_L 23 (0, ei_load 1 2 24, 0, 0)) (e_L 24 (2, e_nof, 187, 1))) (e_T 27 (e_L 27 (2, e_nof, 188, 4)) (e_T 30 (e_L 30 (0, ei_stk ef_pop 31, 0, 0)) (e_L 31 (1, e_nof, 0, 0)))))))
set_option maxRecDepth 20000 in
set_option maxHeartbeats 4000000 in
theorem te_72_0_ok : ∀ pc, e_EOq eft cls elay eI n_72 pc (te_72_0 pc) :=
  (e_Tok2
  (e_Tok2
  (e_Tok2
  (e_Tok2
  (e_Lok (ld_iload_n_3 (x_dk dn_72_0_0_ok 0 rfl)))
  (e_Lok (ps_iconst_1 (x_dk dn_72_0_0_ok 1 rfl))))
  (e_Tok2
  (e_Lok (e_st (I := eI) (er_icmpne (off := 14) (tg := 16) (x_dk dn_72_0_0_ok 2 rfl) (by decide)) nx_if2))
  (e_Lok (ld_aload_n_0 (x_dk dn_72_0_0_ok 3 rfl)))))
  (e_Tok2
  (e_Tok2
  (e_Lok (ld_aload_n_1 (x_dk dn_72_0_0_ok 4 rfl)))
  (e_Lok (lk_3_376 ho_72 (x_dk dn_72_0_0_ok 5 rfl))))
  (e_Tok2
  (e_Lok (lk_3_199 ho_72 (x_dk dn_72_0_0_ok 6 rfl)))
  (e_Tok2
  (e_Lok (e_st (I := eI) (er_goto (off := 18) (tg := 31) (x_dk dn_72_0_0_ok 7 rfl) (by decide)) nx_goto))
  (e_Lok (ld_iload_n_3 (x_dk dn_72_0_0_ok 8 rfl)))))))
  (e_Tok2
  (e_Tok2
  (e_Tok2
  (e_Lok (e_st (I := eI) (er_ifeq (off := 14) (tg := 31) (x_dk dn_72_0_0_ok 9 rfl) (by decide)) nx_if1))
  (e_Lok (ld_aload_n_1 (x_dk dn_72_0_0_ok 10 rfl))))
  (e_Tok2
  (e_Lok (ld_aload_n_2 (x_dk dn_72_0_0_ok 11 rfl)))
  (e_Lok (ld_iload_n_3 (x_dk dn_72_0_0_ok 12 rfl)))))
  (e_Tok2
  (e_Tok2
  (e_Lok (ld_aload_n_1 (x_dk dn_72_0_0_ok 13 rfl)))
  (e_Lok (lk_3_376 ho_72 (x_dk dn_72_0_0_ok 14 rfl))))
  (e_Tok2
  (e_Lok (lk_3_182 ho_72 (x_dk dn_72_0_0_ok 15 rfl)))
  (e_Tok2
  (e_Lok (e_st (I := eI) (er_pop (x_dk dn_72_0_0_ok 16 rfl)) (nx_stk bf_pop)))
  (e_Lok (e_rt (I := eI) (k := 0) ⟨(x_dk dn_72_0_0_ok 17 rfl), rfl⟩)))))))
def te_72 : Nat → eE := te_72_0
theorem te_72_ok : ∀ pc, e_EOq eft cls elay eI n_72 pc (te_72 pc) := te_72_0_ok
theorem ho_73 : (xm_y n_73).cls = "RobotCellHouse$Floor" := rfl
def dn_73_0_0 : List (Nat × Instr × Nat) := [(0, .iload_n 0, 1), (1, .ifCond .ne 7, 3), (4, .iconst 1, 1), (5, .goto 13, 3), (8, .iload_n 0, 1), (9, .iconst 2, 1), (10, .if_icmp .ne 7, 3), (13, .iconst (-1), 1), (14, .goto 4, 3), (17, .iconst 0, 1), (18, .ireturn, 1)]
set_option maxRecDepth 20000 in
theorem dn_73_0_0_ok : dn_73_0_0.all (fun q => decide (decode (xm_b n_73) q.1 = .ok (q.2.1, q.2.2))) = true := xa_g_ok (by decide +kernel)
def te_73_0 : Nat → eE := (e_T 8 (e_T 1 (e_T 0 (e_L 0 (0, ei_load 0 0 1, 0, 0)) (e_L 1 (0, ei_if1 1 8 4, 0, 0))) (e_T 4 (e_L 4 (0, ei_push (0, 1) 5, 0, 0)) (e_T 5 (e_L 5 (0, ei_goto 18, 0, 0)) (e_L 8 (0, ei_load 0 0 9, 0, 0))))) (e_T 13 (e_T 9 (e_L 9 (0, ei_push (0, 2) 10, 0, 0)) (e_T 10 (e_L 10 (0, ei_if2 1 17 13, 0, 0)) (e_L 13 (0, ei_push (0, (-1)) 14, 0, 0)))) (e_T 14 (e_L 14 (0, ei_goto 18, 0, 0)) (e_T 17 (e_L 17 (0, ei_push (0, 0) 18, 0, 0)) (e_L 18 (1, e_nof, 1, 0))))))
set_option maxRecDepth 20000 in
set_option maxHeartbeats 4000000 in
theorem te_73_0_ok : ∀ pc, e_EOq eft cls elay eI n_73 pc (te_73_0 pc) :=
  (e_Tok2
  (e_Tok2
  (e_Tok2
  (e_Lok (ld_iload_n_0 (x_dk dn_73_0_0_ok 0 rfl)))
  (e_Lok (e_st (I := eI) (er_ifne (off := 7) (tg := 8) (x_dk dn_73_0_0_ok 1 rfl) (by decide)) nx_if1)))
  (e_Tok2
  (e_Lok (ps_iconst_1 (x_dk dn_73_0_0_ok 2 rfl)))
  (e_Tok2
  (e_Lok (e_st (I := eI) (er_goto (off := 13) (tg := 18) (x_dk dn_73_0_0_ok 3 rfl) (by decide)) nx_goto))
  (e_Lok (ld_iload_n_0 (x_dk dn_73_0_0_ok 4 rfl))))))
  (e_Tok2
  (e_Tok2
  (e_Lok (ps_iconst_2 (x_dk dn_73_0_0_ok 5 rfl)))
  (e_Tok2
  (e_Lok (e_st (I := eI) (er_icmpne (off := 7) (tg := 17) (x_dk dn_73_0_0_ok 6 rfl) (by decide)) nx_if2))
  (e_Lok (ps_iconst_m1 (x_dk dn_73_0_0_ok 7 rfl)))))
  (e_Tok2
  (e_Lok (e_st (I := eI) (er_goto (off := 4) (tg := 18) (x_dk dn_73_0_0_ok 8 rfl) (by decide)) nx_goto))
  (e_Tok2
  (e_Lok (ps_iconst_0 (x_dk dn_73_0_0_ok 9 rfl)))
  (e_Lok (e_rt (I := eI) (k := 1) ⟨(x_dk dn_73_0_0_ok 10 rfl), rfl⟩))))))
def te_73 : Nat → eE := te_73_0
theorem te_73_ok : ∀ pc, e_EOq eft cls elay eI n_73 pc (te_73 pc) := te_73_0_ok
theorem ho_74 : (xm_y n_74).cls = "RobotCellHouse$Floor" := rfl
def dn_74_0_0 : List (Nat × Instr × Nat) := [(0, .iload_n 0, 1), (1, .iconst 1, 1), (2, .if_icmp .ne 7, 3), (5, .iconst 1, 1), (6, .goto 13, 3), (9, .iload_n 0, 1), (10, .iconst 3, 1), (11, .if_icmp .ne 7, 3), (14, .iconst (-1), 1), (15, .goto 4, 3), (18, .iconst 0, 1), (19, .ireturn, 1)]
set_option maxRecDepth 20000 in
theorem dn_74_0_0_ok : dn_74_0_0.all (fun q => decide (decode (xm_b n_74) q.1 = .ok (q.2.1, q.2.2))) = true := xa_g_ok (by decide +kernel)
def te_74_0 : Nat → eE := (e_T 9 (e_T 2 (e_T 0 (e_L 0 (0, ei_load 0 0 1, 0, 0)) (e_T 1 (e_L 1 (0, ei_push (0, 1) 2, 0, 0)) (e_L 2 (0, ei_if2 1 9 5, 0, 0)))) (e_T 5 (e_L 5 (0, ei_push (0, 1) 6, 0, 0)) (e_T 6 (e_L 6 (0, ei_goto 19, 0, 0)) (e_L 9 (0, ei_load 0 0 10, 0, 0))))) (e_T 14 (e_T 10 (e_L 10 (0, ei_push (0, 3) 11, 0, 0)) (e_T 11 (e_L 11 (0, ei_if2 1 18 14, 0, 0)) (e_L 14 (0, ei_push (0, (-1)) 15, 0, 0)))) (e_T 15 (e_L 15 (0, ei_goto 19, 0, 0)) (e_T 18 (e_L 18 (0, ei_push (0, 0) 19, 0, 0)) (e_L 19 (1, e_nof, 1, 0))))))
set_option maxRecDepth 20000 in
set_option maxHeartbeats 4000000 in
theorem te_74_0_ok : ∀ pc, e_EOq eft cls elay eI n_74 pc (te_74_0 pc) :=
  (e_Tok2
  (e_Tok2
  (e_Tok2
  (e_Lok (ld_iload_n_0 (x_dk dn_74_0_0_ok 0 rfl)))
  (e_Tok2
  (e_Lok (ps_iconst_1 (x_dk dn_74_0_0_ok 1 rfl)))
  (e_Lok (e_st (I := eI) (er_icmpne (off := 7) (tg := 9) (x_dk dn_74_0_0_ok 2 rfl) (by decide)) nx_if2))))
  (e_Tok2
  (e_Lok (ps_iconst_1 (x_dk dn_74_0_0_ok 3 rfl)))
  (e_Tok2
  (e_Lok (e_st (I := eI) (er_goto (off := 13) (tg := 19) (x_dk dn_74_0_0_ok 4 rfl) (by decide)) nx_goto))
  (e_Lok (ld_iload_n_0 (x_dk dn_74_0_0_ok 5 rfl))))))
  (e_Tok2
  (e_Tok2
  (e_Lok (ps_iconst_3 (x_dk dn_74_0_0_ok 6 rfl)))
  (e_Tok2
  (e_Lok (e_st (I := eI) (er_icmpne (off := 7) (tg := 18) (x_dk dn_74_0_0_ok 7 rfl) (by decide)) nx_if2))
  (e_Lok (ps_iconst_m1 (x_dk dn_74_0_0_ok 8 rfl)))))
  (e_Tok2
  (e_Lok (e_st (I := eI) (er_goto (off := 4) (tg := 19) (x_dk dn_74_0_0_ok 9 rfl) (by decide)) nx_goto))
  (e_Tok2
  (e_Lok (ps_iconst_0 (x_dk dn_74_0_0_ok 10 rfl)))
  (e_Lok (e_rt (I := eI) (k := 1) ⟨(x_dk dn_74_0_0_ok 11 rfl), rfl⟩))))))
def te_74 : Nat → eE := te_74_0
theorem te_74_ok : ∀ pc, e_EOq eft cls elay eI n_74 pc (te_74 pc) := te_74_0_ok
theorem ho_75 : (xm_y n_75).cls = "RobotCellHouse$Floor" := rfl
def dn_75_0_0 : List (Nat × Instr × Nat) := [(0, .aload_n 0, 1), (1, .getfield 68, 3), (4, .istore 6, 2), (6, .aload_n 0, 1), (7, .getfield 27, 3), (10, .iload 6, 2), (12, .iload_n 1, 1), (13, .iastore, 1), (14, .aload_n 0, 1), (15, .getfield 30, 3), (18, .iload 6, 2), (20, .iload_n 2, 1), (21, .iastore, 1), (22, .aload_n 0, 1), (23, .getfield 33, 3), (26, .iload 6, 2), (28, .iload_n 3, 1), (29, .invokestatic 72, 3), (32, .iastore, 1), (33, .aload_n 0, 1), (34, .getfield 36, 3), (37, .iload 6, 2), (39, .iload_n 3, 1), (40, .invokestatic 76, 3), (43, .iastore, 1)]
set_option maxRecDepth 20000 in
theorem dn_75_0_0_ok : dn_75_0_0.all (fun q => decide (decode (xm_b n_75) q.1 = .ok (q.2.1, q.2.2))) = true := xa_g_ok (by decide +kernel)
def dn_75_0_1 : List (Nat × Instr × Nat) := [(44, .aload_n 0, 1), (45, .getfield 9, 3), (48, .iload 6, 2), (50, .iload 4, 2), (52, .iastore, 1), (53, .aload_n 0, 1), (54, .getfield 39, 3), (57, .iload 6, 2), (59, .iload 5, 2), (61, .iastore, 1), (62, .aload_n 0, 1), (63, .getfield 15, 3), (66, .iload 6, 2), (68, .iconst 0, 1), (69, .iastore, 1), (70, .aload_n 0, 1), (71, .getfield 18, 3), (74, .iload 6, 2), (76, .iconst (-1), 1), (77, .iastore, 1), (78, .aload_n 0, 1), (79, .getfield 47, 3), (82, .iload 6, 2), (84, .iconst 0, 1), (85, .iastore, 1)]
set_option maxRecDepth 20000 in
theorem dn_75_0_1_ok : dn_75_0_1.all (fun q => decide (decode (xm_b n_75) q.1 = .ok (q.2.1, q.2.2))) = true := xa_g_ok (by decide +kernel)
def dn_75_0_2 : List (Nat × Instr × Nat) := [(86, .aload_n 0, 1), (87, .dup, 1), (88, .getfield 68, 3), (91, .iconst 1, 1), (92, .iadd, 1), (93, .putfield 68, 3), (96, .iload 6, 2), (98, .ireturn, 1)]
set_option maxRecDepth 20000 in
theorem dn_75_0_2_ok : dn_75_0_2.all (fun q => decide (decode (xm_b n_75) q.1 = .ok (q.2.1, q.2.2))) = true := xa_g_ok (by decide +kernel)
def te_75_0 : Nat → eE := (e_T 22 (e_T 12 (e_T 4 (e_T 0 (e_L 0 (0, ei_load 0 2 1, 0, 0)) (e_T 1 (e_L 1 (0, ei_getf eft elay 4 0 4, 0, 0)) (e_L 4 (0, ei_stor 6 0 6, 0, 0)))) (e_T 7 (e_T 6 (e_L 6 (0, ei_load 0 2 7, 0, 0)) (e_L 7 (0, ei_getf eft elay 4 7 10, 0, 0))) (e_T 10 (e_L 10 (0, ei_load 6 0 12, 0, 0)) (e_L 12 (0, ei_load 1 0 13, 0, 0))))) (e_T 15 (e_T 13 (e_L 13 (0, ei_ast elay false 14, 0, 0)) (e_T 14 (e_L 14 (0, ei_load 0 2 15, 0, 0)) (e_L 15 (0, ei_getf eft elay 4 8 18, 0, 0)))) (e_T 20 (e_T 18 (e_L 18 (0, ei_load 6 0 20, 0, 0)) (e_L 20 (0, ei_load 2 0 21, 0, 0))) (e_T 21 (e_L 21 (0, ei_ast elay false 22, 0, 0)) (e_L 22 (0, ei_load 0 2 23, 0, 0)))))) (e_T 34 (e_T 28 (e_T 23 (e_L 23 (0, ei_getf eft elay 4 9 26, 0, 0)) (e_T 26 (e_L 26 (0, ei_load 6 0 28, 0, 0)) (e_L 28 (0, ei_load 3 0 29, 0, 0)))) (e_T 32 (e_T 29 (e_L 29 (2, e_nof, 73, 1)) (e_L 32 (0, ei_ast elay false 33, 0, 0))) (e_T 33 (e_L 33 (0, ei_load 0 2 34, 0, 0)) (e_L 34 (0, ei_getf eft elay 4 10 37, 0, 0))))) (e_T 43 (e_T 39 (e_T 37 (e_L 37 (0, ei_load 6 0 39, 0, 0)) (e_L 39 (0, ei_load 3 0 40, 0, 0))) (e_T 40 (e_L 40 (2, e_nof, 74, 1)) (e_L 43 (0, ei_ast elay false 44, 0, 0)))) (e_T 45 (e_T 44 (e_L 44 (0, ei_load 0 2 45, 0, 0)) (e_L 45 (0, ei_getf eft elay 4 2 48, 0, 0))) (e_T 48 (e_L 48 (0, ei_load 6 0 50, 0, 0)) (e_L 50 (0, ei_load 4 0 52, 0, 0)))))))
set_option maxRecDepth 20000 in
set_option maxHeartbeats 4000000 in
theorem te_75_0_ok : ∀ pc, e_EOq eft cls elay eI n_75 pc (te_75_0 pc) :=
  (e_Tok2
  (e_Tok2
  (e_Tok2
  (e_Tok2
  (e_Lok (ld_aload_n_0 (x_dk dn_75_0_0_ok 0 rfl)))
  (e_Tok2
  (e_Lok (lk_4_68g ho_75 (x_dk dn_75_0_0_ok 1 rfl)))
  (e_Lok (e_st (I := eI) (er_istore (i := 6) (x_dk dn_75_0_0_ok 2 rfl) (by decide +kernel)) nx_stor))))
  (e_Tok2
  (e_Tok2
  (e_Lok (ld_aload_n_0 (x_dk dn_75_0_0_ok 3 rfl)))
  (e_Lok (lk_4_27g ho_75 (x_dk dn_75_0_0_ok 4 rfl))))
  (e_Tok2
  (e_Lok (ld_iload_6 (x_dk dn_75_0_0_ok 5 rfl)))
  (e_Lok (ld_iload_n_1 (x_dk dn_75_0_0_ok 6 rfl))))))
  (e_Tok2
  (e_Tok2
  (e_Lok (sm_iastore (x_dk dn_75_0_0_ok 7 rfl)))
  (e_Tok2
  (e_Lok (ld_aload_n_0 (x_dk dn_75_0_0_ok 8 rfl)))
  (e_Lok (lk_4_30g ho_75 (x_dk dn_75_0_0_ok 9 rfl)))))
  (e_Tok2
  (e_Tok2
  (e_Lok (ld_iload_6 (x_dk dn_75_0_0_ok 10 rfl)))
  (e_Lok (ld_iload_n_2 (x_dk dn_75_0_0_ok 11 rfl))))
  (e_Tok2
  (e_Lok (sm_iastore (x_dk dn_75_0_0_ok 12 rfl)))
  (e_Lok (ld_aload_n_0 (x_dk dn_75_0_0_ok 13 rfl)))))))
  (e_Tok2
  (e_Tok2
  (e_Tok2
  (e_Lok (lk_4_33g ho_75 (x_dk dn_75_0_0_ok 14 rfl)))
  (e_Tok2
  (e_Lok (ld_iload_6 (x_dk dn_75_0_0_ok 15 rfl)))
  (e_Lok (ld_iload_n_3 (x_dk dn_75_0_0_ok 16 rfl)))))
  (e_Tok2
  (e_Tok2
  (e_Lok (lk_4_72 ho_75 (x_dk dn_75_0_0_ok 17 rfl)))
  (e_Lok (sm_iastore (x_dk dn_75_0_0_ok 18 rfl))))
  (e_Tok2
  (e_Lok (ld_aload_n_0 (x_dk dn_75_0_0_ok 19 rfl)))
  (e_Lok (lk_4_36g ho_75 (x_dk dn_75_0_0_ok 20 rfl))))))
  (e_Tok2
  (e_Tok2
  (e_Tok2
  (e_Lok (ld_iload_6 (x_dk dn_75_0_0_ok 21 rfl)))
  (e_Lok (ld_iload_n_3 (x_dk dn_75_0_0_ok 22 rfl))))
  (e_Tok2
  (e_Lok (lk_4_76 ho_75 (x_dk dn_75_0_0_ok 23 rfl)))
  (e_Lok (sm_iastore (x_dk dn_75_0_0_ok 24 rfl)))))
  (e_Tok2
  (e_Tok2
  (e_Lok (ld_aload_n_0 (x_dk dn_75_0_1_ok 0 rfl)))
  (e_Lok (lk_4_9g ho_75 (x_dk dn_75_0_1_ok 1 rfl))))
  (e_Tok2
  (e_Lok (ld_iload_6 (x_dk dn_75_0_1_ok 2 rfl)))
  (e_Lok (ld_iload_4 (x_dk dn_75_0_1_ok 3 rfl))))))))
def te_75_29 : Nat → eE := (e_T 74 (e_T 62 (e_T 54 (e_T 52 (e_L 52 (0, ei_ast elay false 53, 0, 0)) (e_T 53 (e_L 53 (0, ei_load 0 2 54, 0, 0)) (e_L 54 (0, ei_getf eft elay 4 11 57, 0, 0)))) (e_T 59 (e_T 57 (e_L 57 (0, ei_load 6 0 59, 0, 0)) (e_L 59 (0, ei_load 5 0 61, 0, 0))) (e_T 61 (e_L 61 (0, ei_ast elay false 62, 0, 0)) (e_L 62 (0, ei_load 0 2 63, 0, 0))))) (e_T 68 (e_T 63 (e_L 63 (0, ei_getf eft elay 4 3 66, 0, 0)) (e_T 66 (e_L 66 (0, ei_load 6 0 68, 0, 0)) (e_L 68 (0, ei_push (0, 0) 69, 0, 0)))) (e_T 70 (e_T 69 (e_L 69 (0, ei_ast elay false 70, 0, 0)) (e_L 70 (0, ei_load 0 2 71, 0, 0))) (e_T 71 (e_L 71 (0, ei_getf eft elay 4 4 74, 0, 0)) (e_L 74 (0, ei_load 6 0 76, 0, 0)))))) (e_T 85 (e_T 78 (e_T 76 (e_L 76 (0, ei_push (0, (-1)) 77, 0, 0)) (e_T 77 (e_L 77 (0, ei_ast elay false 78, 0, 0)) (e_L 78 (0, ei_load 0 2 79, 0, 0)))) (e_T 82 (e_T 79 (e_L 79 (0, ei_getf eft elay 4 13 82, 0, 0)) (e_L 82 (0, ei_load 6 0 84, 0, 0))) (e_T 84 (e_L 84 (0, ei_push (0, 0) 85, 0, 0)) (e_L 85 (0, ei_ast elay false 86, 0, 0))))) (e_T 91 (e_T 87 (e_T 86 (e_L 86 (0, ei_load 0 2 87, 0, 0)) (e_L 87 (0, ei_stk ef_dup 88, 0, 0))) (e_T 88 (e_L 88 (0, ei_getf eft elay 4 0 91, 0, 0)) (e_L 91 (0, ei_push (0, 1) 92, 0, 0)))) (e_T 93 (e_T 92 (e_L 92 (0, ei_bin eF_add 93, 0, 0)) (e_L 93 (0, ei_putf eft elay 4 0 0 96, 0, 0))) (e_T 96 (e_L 96 (0, ei_load 6 0 98, 0, 0)) (e_L 98 (1, e_nof, 1, 0)))))))
set_option maxRecDepth 20000 in
set_option maxHeartbeats 4000000 in
theorem te_75_29_ok : ∀ pc, e_EOq eft cls elay eI n_75 pc (te_75_29 pc) :=
  (e_Tok2
  (e_Tok2
  (e_Tok2
  (e_Tok2
  (e_Lok (sm_iastore (x_dk dn_75_0_1_ok 4 rfl)))
  (e_Tok2
  (e_Lok (ld_aload_n_0 (x_dk dn_75_0_1_ok 5 rfl)))
  (e_Lok (lk_4_39g ho_75 (x_dk dn_75_0_1_ok 6 rfl)))))
  (e_Tok2
  (e_Tok2
  (e_Lok (ld_iload_6 (x_dk dn_75_0_1_ok 7 rfl)))
  (e_Lok (ld_iload_5 (x_dk dn_75_0_1_ok 8 rfl))))
  (e_Tok2
  (e_Lok (sm_iastore (x_dk dn_75_0_1_ok 9 rfl)))
  (e_Lok (ld_aload_n_0 (x_dk dn_75_0_1_ok 10 rfl))))))
  (e_Tok2
  (e_Tok2
  (e_Lok (lk_4_15g ho_75 (x_dk dn_75_0_1_ok 11 rfl)))
  (e_Tok2
  (e_Lok (ld_iload_6 (x_dk dn_75_0_1_ok 12 rfl)))
  (e_Lok (ps_iconst_0 (x_dk dn_75_0_1_ok 13 rfl)))))
  (e_Tok2
  (e_Tok2
  (e_Lok (sm_iastore (x_dk dn_75_0_1_ok 14 rfl)))
  (e_Lok (ld_aload_n_0 (x_dk dn_75_0_1_ok 15 rfl))))
  (e_Tok2
  (e_Lok (lk_4_18g ho_75 (x_dk dn_75_0_1_ok 16 rfl)))
  (e_Lok (ld_iload_6 (x_dk dn_75_0_1_ok 17 rfl)))))))
  (e_Tok2
  (e_Tok2
  (e_Tok2
  (e_Lok (ps_iconst_m1 (x_dk dn_75_0_1_ok 18 rfl)))
  (e_Tok2
  (e_Lok (sm_iastore (x_dk dn_75_0_1_ok 19 rfl)))
  (e_Lok (ld_aload_n_0 (x_dk dn_75_0_1_ok 20 rfl)))))
  (e_Tok2
  (e_Tok2
  (e_Lok (lk_4_47g ho_75 (x_dk dn_75_0_1_ok 21 rfl)))
  (e_Lok (ld_iload_6 (x_dk dn_75_0_1_ok 22 rfl))))
  (e_Tok2
  (e_Lok (ps_iconst_0 (x_dk dn_75_0_1_ok 23 rfl)))
  (e_Lok (sm_iastore (x_dk dn_75_0_1_ok 24 rfl))))))
  (e_Tok2
  (e_Tok2
  (e_Tok2
  (e_Lok (ld_aload_n_0 (x_dk dn_75_0_2_ok 0 rfl)))
  (e_Lok (e_st (I := eI) (er_dup (x_dk dn_75_0_2_ok 1 rfl)) (nx_stk bf_dup))))
  (e_Tok2
  (e_Lok (lk_4_68g ho_75 (x_dk dn_75_0_2_ok 2 rfl)))
  (e_Lok (ps_iconst_1 (x_dk dn_75_0_2_ok 3 rfl)))))
  (e_Tok2
  (e_Tok2
  (e_Lok (sm_iadd (x_dk dn_75_0_2_ok 4 rfl)))
  (e_Lok (lk_4_68p ho_75 (x_dk dn_75_0_2_ok 5 rfl))))
  (e_Tok2
  (e_Lok (ld_iload_6 (x_dk dn_75_0_2_ok 6 rfl)))
  (e_Lok (e_rt (I := eI) (k := 1) ⟨(x_dk dn_75_0_2_ok 7 rfl), rfl⟩)))))))
def te_75 : Nat → eE := (e_T 50 te_75_0 te_75_29)
theorem te_75_ok : ∀ pc, e_EOq eft cls elay eI n_75 pc (te_75 pc) := (e_Tok2 (te_75_0_ok) (te_75_29_ok))
theorem ho_76 : (xm_y n_76).cls = "RobotCellHouse$Floor" := rfl
def dn_76_0_0 : List (Nat × Instr × Nat) := [(0, .aload_n 0, 1), (1, .getfield 79, 3), (4, .bipush 32, 2), (6, .if_icmp .lt 6, 3), (9, .bipush (-3), 2), (11, .ireturn, 1), (12, .aload_n 0, 1), (13, .getfield 79, 3), (16, .istore 6, 2), (18, .aload_n 0, 1), (19, .getfield 65, 3), (22, .iload 6, 2), (24, .aaload, 1), (25, .iconst 0, 1), (26, .iload_n 1, 1), (27, .iastore, 1), (28, .aload_n 0, 1), (29, .getfield 65, 3), (32, .iload 6, 2), (34, .aaload, 1), (35, .iconst 1, 1), (36, .iload_n 2, 1), (37, .iastore, 1), (38, .aload_n 0, 1), (39, .getfield 65, 3)]
set_option maxRecDepth 20000 in
theorem dn_76_0_0_ok : dn_76_0_0.all (fun q => decide (decode (xm_b n_76) q.1 = .ok (q.2.1, q.2.2))) = true := xa_g_ok (by decide +kernel)
def dn_76_0_1 : List (Nat × Instr × Nat) := [(42, .iload 6, 2), (44, .aaload, 1), (45, .iconst 2, 1), (46, .iload_n 3, 1), (47, .iastore, 1), (48, .aload_n 0, 1), (49, .getfield 65, 3), (52, .iload 6, 2), (54, .aaload, 1), (55, .iconst 3, 1), (56, .iload 4, 2), (58, .iastore, 1), (59, .aload_n 0, 1), (60, .getfield 56, 3), (63, .iload 6, 2), (65, .iload 5, 2), (67, .iastore, 1), (68, .aload_n 0, 1), (69, .dup, 1), (70, .getfield 79, 3), (73, .iconst 1, 1), (74, .iadd, 1), (75, .putfield 79, 3), (78, .aload_n 0, 1), (79, .iload 6, 2)]
set_option maxRecDepth 20000 in
theorem dn_76_0_1_ok : dn_76_0_1.all (fun q => decide (decode (xm_b n_76) q.1 = .ok (q.2.1, q.2.2))) = true := xa_g_ok (by decide +kernel)
def dn_76_0_2 : List (Nat × Instr × Nat) := [(81, .invokevirtual 82, 3), (84, .iload 6, 2), (86, .ireturn, 1)]
set_option maxRecDepth 20000 in
theorem dn_76_0_2_ok : dn_76_0_2.all (fun q => decide (decode (xm_b n_76) q.1 = .ok (q.2.1, q.2.2))) = true := xa_g_ok (by decide +kernel)
def te_76_0 : Nat → eE := (e_T 24 (e_T 11 (e_T 4 (e_T 0 (e_L 0 (0, ei_load 0 2 1, 0, 0)) (e_T 1 (e_L 1 (0, ei_getf eft elay 4 1 4, 0, 0)) (e_L 4 (0, ei_push (0, 32) 6, 0, 0)))) (e_T 6 (e_L 6 (0, ei_if2 2 12 9, 0, 0)) (e_T 9 (e_L 9 (0, ei_push (0, (-3)) 11, 0, 0)) (e_L 11 (1, e_nof, 1, 0))))) (e_T 16 (e_T 12 (e_L 12 (0, ei_load 0 2 13, 0, 0)) (e_T 13 (e_L 13 (0, ei_getf eft elay 4 1 16, 0, 0)) (e_L 16 (0, ei_stor 6 0 18, 0, 0)))) (e_T 19 (e_T 18 (e_L 18 (0, ei_load 0 2 19, 0, 0)) (e_L 19 (0, ei_getf eft elay 4 19 22, 0, 0))) (e_T 22 (e_L 22 (0, ei_load 6 0 24, 0, 0)) (e_L 24 (0, ei_aald elay 25, 0, 0)))))) (e_T 32 (e_T 27 (e_T 25 (e_L 25 (0, ei_push (0, 0) 26, 0, 0)) (e_T 26 (e_L 26 (0, ei_load 1 0 27, 0, 0)) (e_L 27 (0, ei_ast elay false 28, 0, 0)))) (e_T 28 (e_L 28 (0, ei_load 0 2 29, 0, 0)) (e_T 29 (e_L 29 (0, ei_getf eft elay 4 19 32, 0, 0)) (e_L 32 (0, ei_load 6 0 34, 0, 0))))) (e_T 36 (e_T 34 (e_L 34 (0, ei_aald elay 35, 0, 0)) (e_T 35 (e_L 35 (0, ei_push (0, 1) 36, 0, 0)) (e_L 36 (0, ei_load 2 0 37, 0, 0)))) (e_T 38 (e_T 37 (e_L 37 (0, ei_ast elay false 38, 0, 0)) (e_L 38 (0, ei_load 0 2 39, 0, 0))) (e_T 39 (e_L 39 (0, ei_getf eft elay 4 19 42, 0, 0)) (e_L 42 (0, ei_load 6 0 44, 0, 0)))))))
set_option maxRecDepth 20000 in
set_option maxHeartbeats 4000000 in
theorem te_76_0_ok : ∀ pc, e_EOq eft cls elay eI n_76 pc (te_76_0 pc) :=
  (e_Tok2
  (e_Tok2
  (e_Tok2
  (e_Tok2
  (e_Lok (ld_aload_n_0 (x_dk dn_76_0_0_ok 0 rfl)))
  (e_Tok2
  (e_Lok (lk_4_79g ho_76 (x_dk dn_76_0_0_ok 1 rfl)))
  (e_Lok (ps_bipush_32 (x_dk dn_76_0_0_ok 2 rfl)))))
  (e_Tok2
  (e_Lok (e_st (I := eI) (er_icmplt (off := 6) (tg := 12) (x_dk dn_76_0_0_ok 3 rfl) (by decide)) nx_if2))
  (e_Tok2
  (e_Lok (ps_bipush_m3 (x_dk dn_76_0_0_ok 4 rfl)))
  (e_Lok (e_rt (I := eI) (k := 1) ⟨(x_dk dn_76_0_0_ok 5 rfl), rfl⟩)))))
  (e_Tok2
  (e_Tok2
  (e_Lok (ld_aload_n_0 (x_dk dn_76_0_0_ok 6 rfl)))
  (e_Tok2
  (e_Lok (lk_4_79g ho_76 (x_dk dn_76_0_0_ok 7 rfl)))
  (e_Lok (e_st (I := eI) (er_istore (i := 6) (x_dk dn_76_0_0_ok 8 rfl) (by decide +kernel)) nx_stor))))
  (e_Tok2
  (e_Tok2
  (e_Lok (ld_aload_n_0 (x_dk dn_76_0_0_ok 9 rfl)))
  (e_Lok (lk_4_65g ho_76 (x_dk dn_76_0_0_ok 10 rfl))))
  (e_Tok2
  (e_Lok (ld_iload_6 (x_dk dn_76_0_0_ok 11 rfl)))
  (e_Lok (e_st (I := eI) (er_aaload (x_dk dn_76_0_0_ok 12 rfl)) nx_aald))))))
  (e_Tok2
  (e_Tok2
  (e_Tok2
  (e_Lok (ps_iconst_0 (x_dk dn_76_0_0_ok 13 rfl)))
  (e_Tok2
  (e_Lok (ld_iload_n_1 (x_dk dn_76_0_0_ok 14 rfl)))
  (e_Lok (sm_iastore (x_dk dn_76_0_0_ok 15 rfl)))))
  (e_Tok2
  (e_Lok (ld_aload_n_0 (x_dk dn_76_0_0_ok 16 rfl)))
  (e_Tok2
  (e_Lok (lk_4_65g ho_76 (x_dk dn_76_0_0_ok 17 rfl)))
  (e_Lok (ld_iload_6 (x_dk dn_76_0_0_ok 18 rfl))))))
  (e_Tok2
  (e_Tok2
  (e_Lok (e_st (I := eI) (er_aaload (x_dk dn_76_0_0_ok 19 rfl)) nx_aald))
  (e_Tok2
  (e_Lok (ps_iconst_1 (x_dk dn_76_0_0_ok 20 rfl)))
  (e_Lok (ld_iload_n_2 (x_dk dn_76_0_0_ok 21 rfl)))))
  (e_Tok2
  (e_Tok2
  (e_Lok (sm_iastore (x_dk dn_76_0_0_ok 22 rfl)))
  (e_Lok (ld_aload_n_0 (x_dk dn_76_0_0_ok 23 rfl))))
  (e_Tok2
  (e_Lok (lk_4_65g ho_76 (x_dk dn_76_0_0_ok 24 rfl)))
  (e_Lok (ld_iload_6 (x_dk dn_76_0_1_ok 0 rfl))))))))
def te_76_26 : Nat → eE := (e_T 60 (e_T 49 (e_T 46 (e_T 44 (e_L 44 (0, ei_aald elay 45, 0, 0)) (e_T 45 (e_L 45 (0, ei_push (0, 2) 46, 0, 0)) (e_L 46 (0, ei_load 3 0 47, 0, 0)))) (e_T 47 (e_L 47 (0, ei_ast elay false 48, 0, 0)) (e_T 48 (e_L 48 (0, ei_load 0 2 49, 0, 0)) (e_L 49 (0, ei_getf eft elay 4 19 52, 0, 0))))) (e_T 55 (e_T 52 (e_L 52 (0, ei_load 6 0 54, 0, 0)) (e_T 54 (e_L 54 (0, ei_aald elay 55, 0, 0)) (e_L 55 (0, ei_push (0, 3) 56, 0, 0)))) (e_T 58 (e_T 56 (e_L 56 (0, ei_load 4 0 58, 0, 0)) (e_L 58 (0, ei_ast elay false 59, 0, 0))) (e_T 59 (e_L 59 (0, ei_load 0 2 60, 0, 0)) (e_L 60 (0, ei_getf eft elay 4 16 63, 0, 0)))))) (e_T 73 (e_T 67 (e_T 63 (e_L 63 (0, ei_load 6 0 65, 0, 0)) (e_T 65 (e_L 65 (0, ei_load 5 0 67, 0, 0)) (e_L 67 (0, ei_ast elay false 68, 0, 0)))) (e_T 69 (e_T 68 (e_L 68 (0, ei_load 0 2 69, 0, 0)) (e_L 69 (0, ei_stk ef_dup 70, 0, 0))) (e_T 70 (e_L 70 (0, ei_getf eft elay 4 1 73, 0, 0)) (e_L 73 (0, ei_push (0, 1) 74, 0, 0))))) (e_T 78 (e_T 74 (e_L 74 (0, ei_bin eF_add 75, 0, 0)) (e_T 75 (e_L 75 (0, ei_putf eft elay 4 1 0 78, 0, 0)) (e_L 78 (0, ei_load 0 2 79, 0, 0)))) (e_T 81 (e_T 79 (e_L 79 (0, ei_load 6 0 81, 0, 0)) (e_L 81 (2, e_nof, 78, 2))) (e_T 84 (e_L 84 (0, ei_load 6 0 86, 0, 0)) (e_L 86 (1, e_nof, 1, 0)))))))
set_option maxRecDepth 20000 in
set_option maxHeartbeats 4000000 in
theorem te_76_26_ok : ∀ pc, e_EOq eft cls elay eI n_76 pc (te_76_26 pc) :=
  (e_Tok2
  (e_Tok2
  (e_Tok2
  (e_Tok2
  (e_Lok (e_st (I := eI) (er_aaload (x_dk dn_76_0_1_ok 1 rfl)) nx_aald))
  (e_Tok2
  (e_Lok (ps_iconst_2 (x_dk dn_76_0_1_ok 2 rfl)))
  (e_Lok (ld_iload_n_3 (x_dk dn_76_0_1_ok 3 rfl)))))
  (e_Tok2
  (e_Lok (sm_iastore (x_dk dn_76_0_1_ok 4 rfl)))
  (e_Tok2
  (e_Lok (ld_aload_n_0 (x_dk dn_76_0_1_ok 5 rfl)))
  (e_Lok (lk_4_65g ho_76 (x_dk dn_76_0_1_ok 6 rfl))))))
  (e_Tok2
  (e_Tok2
  (e_Lok (ld_iload_6 (x_dk dn_76_0_1_ok 7 rfl)))
  (e_Tok2
  (e_Lok (e_st (I := eI) (er_aaload (x_dk dn_76_0_1_ok 8 rfl)) nx_aald))
  (e_Lok (ps_iconst_3 (x_dk dn_76_0_1_ok 9 rfl)))))
  (e_Tok2
  (e_Tok2
  (e_Lok (ld_iload_4 (x_dk dn_76_0_1_ok 10 rfl)))
  (e_Lok (sm_iastore (x_dk dn_76_0_1_ok 11 rfl))))
  (e_Tok2
  (e_Lok (ld_aload_n_0 (x_dk dn_76_0_1_ok 12 rfl)))
  (e_Lok (lk_4_56g ho_76 (x_dk dn_76_0_1_ok 13 rfl)))))))
  (e_Tok2
  (e_Tok2
  (e_Tok2
  (e_Lok (ld_iload_6 (x_dk dn_76_0_1_ok 14 rfl)))
  (e_Tok2
  (e_Lok (ld_iload_5 (x_dk dn_76_0_1_ok 15 rfl)))
  (e_Lok (sm_iastore (x_dk dn_76_0_1_ok 16 rfl)))))
  (e_Tok2
  (e_Tok2
  (e_Lok (ld_aload_n_0 (x_dk dn_76_0_1_ok 17 rfl)))
  (e_Lok (e_st (I := eI) (er_dup (x_dk dn_76_0_1_ok 18 rfl)) (nx_stk bf_dup))))
  (e_Tok2
  (e_Lok (lk_4_79g ho_76 (x_dk dn_76_0_1_ok 19 rfl)))
  (e_Lok (ps_iconst_1 (x_dk dn_76_0_1_ok 20 rfl))))))
  (e_Tok2
  (e_Tok2
  (e_Lok (sm_iadd (x_dk dn_76_0_1_ok 21 rfl)))
  (e_Tok2
  (e_Lok (lk_4_79p ho_76 (x_dk dn_76_0_1_ok 22 rfl)))
  (e_Lok (ld_aload_n_0 (x_dk dn_76_0_1_ok 23 rfl)))))
  (e_Tok2
  (e_Tok2
  (e_Lok (ld_iload_6 (x_dk dn_76_0_1_ok 24 rfl)))
  (e_Lok (lk_4_82 ho_76 (x_dk dn_76_0_2_ok 0 rfl))))
  (e_Tok2
  (e_Lok (ld_iload_6 (x_dk dn_76_0_2_ok 1 rfl)))
  (e_Lok (e_rt (I := eI) (k := 1) ⟨(x_dk dn_76_0_2_ok 2 rfl), rfl⟩)))))))
def te_76 : Nat → eE := (e_T 42 te_76_0 te_76_26)
theorem te_76_ok : ∀ pc, e_EOq eft cls elay eI n_76 pc (te_76 pc) := (e_Tok2 (te_76_0_ok) (te_76_26_ok))
theorem ho_77 : (xm_y n_77).cls = "RobotCellHouse$Floor" := rfl
def dn_77_0_0 : List (Nat × Instr × Nat) := [(0, .iconst 0, 1), (1, .istore_n 1, 1), (2, .iload_n 1, 1), (3, .aload_n 0, 1), (4, .getfield 68, 3), (7, .if_icmp .ge 16, 3), (10, .aload_n 0, 1), (11, .getfield 47, 3), (14, .iload_n 1, 1), (15, .iconst 0, 1), (16, .iastore, 1), (17, .iinc 1 1, 3), (20, .goto (-18), 3), (23, .iconst 0, 1), (24, .istore_n 1, 1), (25, .iload_n 1, 1), (26, .aload_n 0, 1), (27, .getfield 79, 3), (30, .if_icmp .ge 14, 3), (33, .aload_n 0, 1), (34, .iload_n 1, 1), (35, .invokevirtual 82, 3), (38, .iinc 1 1, 3), (41, .goto (-16), 3), (44, .return_, 1)]
set_option maxRecDepth 20000 in
theorem dn_77_0_0_ok : dn_77_0_0.all (fun q => decide (decode (xm_b n_77) q.1 = .ok (q.2.1, q.2.2))) = true := xa_g_ok (by decide +kernel)
def te_77_0 : Nat → eE := (e_T 17 (e_T 7 (e_T 2 (e_T 0 (e_L 0 (0, ei_push (0, 0) 1, 0, 0)) (e_T 1 (e_L 1 (0, ei_stor 1 0 2, 0, 0)) (e_L 2 (0, ei_load 1 0 3, 0, 0)))) (e_T 3 (e_L 3 (0, ei_load 0 2 4, 0, 0)) (e_T 4 (e_L 4 (0, ei_getf eft elay 4 0 7, 0, 0)) (e_L 7 (0, ei_if2 3 23 10, 0, 0))))) (e_T 14 (e_T 10 (e_L 10 (0, ei_load 0 2 11, 0, 0)) (e_T 11 (e_L 11 (0, ei_getf eft elay 4 13 14, 0, 0)) (e_L 14 (0, ei_load 1 0 15, 0, 0)))) (e_T 15 (e_L 15 (0, ei_push (0, 0) 16, 0, 0)) (e_T 16 (e_L 16 (0, ei_ast elay false 17, 0, 0)) (e_L 17 (0, ei_inc 1 1 20, 0, 0)))))) (e_T 27 (e_T 24 (e_T 20 (e_L 20 (0, ei_goto 2, 0, 0)) (e_T 23 (e_L 23 (0, ei_push (0, 0) 24, 0, 0)) (e_L 24 (0, ei_stor 1 0 25, 0, 0)))) (e_T 25 (e_L 25 (0, ei_load 1 0 26, 0, 0)) (e_T 26 (e_L 26 (0, ei_load 0 2 27, 0, 0)) (e_L 27 (0, ei_getf eft elay 4 1 30, 0, 0))))) (e_T 34 (e_T 30 (e_L 30 (0, ei_if2 3 44 33, 0, 0)) (e_T 33 (e_L 33 (0, ei_load 0 2 34, 0, 0)) (e_L 34 (0, ei_load 1 0 35, 0, 0)))) (e_T 38 (e_T 35 (e_L 35 (2, e_nof, 78, 2)) (e_L 38 (0, ei_inc 1 1 41, 0, 0))) (e_T 41 (e_L 41 (0, ei_goto 25, 0, 0)) (e_L 44 (1, e_nof, 0, 0)))))))
set_option maxRecDepth 20000 in
set_option maxHeartbeats 4000000 in
theorem te_77_0_ok : ∀ pc, e_EOq eft cls elay eI n_77 pc (te_77_0 pc) :=
  (e_Tok2
  (e_Tok2
  (e_Tok2
  (e_Tok2
  (e_Lok (ps_iconst_0 (x_dk dn_77_0_0_ok 0 rfl)))
  (e_Tok2
  (e_Lok (e_st (I := eI) (er_istore_n (i := 1) (x_dk dn_77_0_0_ok 1 rfl) (by decide +kernel)) nx_stor))
  (e_Lok (ld_iload_n_1 (x_dk dn_77_0_0_ok 2 rfl)))))
  (e_Tok2
  (e_Lok (ld_aload_n_0 (x_dk dn_77_0_0_ok 3 rfl)))
  (e_Tok2
  (e_Lok (lk_4_68g ho_77 (x_dk dn_77_0_0_ok 4 rfl)))
  (e_Lok (e_st (I := eI) (er_icmpge (off := 16) (tg := 23) (x_dk dn_77_0_0_ok 5 rfl) (by decide)) nx_if2)))))
  (e_Tok2
  (e_Tok2
  (e_Lok (ld_aload_n_0 (x_dk dn_77_0_0_ok 6 rfl)))
  (e_Tok2
  (e_Lok (lk_4_47g ho_77 (x_dk dn_77_0_0_ok 7 rfl)))
  (e_Lok (ld_iload_n_1 (x_dk dn_77_0_0_ok 8 rfl)))))
  (e_Tok2
  (e_Lok (ps_iconst_0 (x_dk dn_77_0_0_ok 9 rfl)))
  (e_Tok2
  (e_Lok (sm_iastore (x_dk dn_77_0_0_ok 10 rfl)))
  (e_Lok (e_st (I := eI) (er_iinc (i := 1) (n := 1) (x_dk dn_77_0_0_ok 11 rfl) (by decide +kernel) (by decide)) nx_inc))))))
  (e_Tok2
  (e_Tok2
  (e_Tok2
  (e_Lok (e_st (I := eI) (er_goto (off := (-18)) (tg := 2) (x_dk dn_77_0_0_ok 12 rfl) (by decide)) nx_goto))
  (e_Tok2
  (e_Lok (ps_iconst_0 (x_dk dn_77_0_0_ok 13 rfl)))
  (e_Lok (e_st (I := eI) (er_istore_n (i := 1) (x_dk dn_77_0_0_ok 14 rfl) (by decide +kernel)) nx_stor))))
  (e_Tok2
  (e_Lok (ld_iload_n_1 (x_dk dn_77_0_0_ok 15 rfl)))
  (e_Tok2
  (e_Lok (ld_aload_n_0 (x_dk dn_77_0_0_ok 16 rfl)))
  (e_Lok (lk_4_79g ho_77 (x_dk dn_77_0_0_ok 17 rfl))))))
  (e_Tok2
  (e_Tok2
  (e_Lok (e_st (I := eI) (er_icmpge (off := 14) (tg := 44) (x_dk dn_77_0_0_ok 18 rfl) (by decide)) nx_if2))
  (e_Tok2
  (e_Lok (ld_aload_n_0 (x_dk dn_77_0_0_ok 19 rfl)))
  (e_Lok (ld_iload_n_1 (x_dk dn_77_0_0_ok 20 rfl)))))
  (e_Tok2
  (e_Tok2
  (e_Lok (lk_4_82 ho_77 (x_dk dn_77_0_0_ok 21 rfl)))
  (e_Lok (e_st (I := eI) (er_iinc (i := 1) (n := 1) (x_dk dn_77_0_0_ok 22 rfl) (by decide +kernel) (by decide)) nx_inc)))
  (e_Tok2
  (e_Lok (e_st (I := eI) (er_goto (off := (-16)) (tg := 25) (x_dk dn_77_0_0_ok 23 rfl) (by decide)) nx_goto))
  (e_Lok (e_rt (I := eI) (k := 0) ⟨(x_dk dn_77_0_0_ok 24 rfl), rfl⟩)))))))
def te_77 : Nat → eE := te_77_0
theorem te_77_ok : ∀ pc, e_EOq eft cls elay eI n_77 pc (te_77 pc) := te_77_0_ok
theorem ho_78 : (xm_y n_78).cls = "RobotCellHouse$Floor" := rfl
def dn_78_0_0 : List (Nat × Instr × Nat) := [(0, .aload_n 0, 1), (1, .getfield 65, 3), (4, .iload_n 1, 1), (5, .aaload, 1), (6, .iconst 0, 1), (7, .iaload, 1), (8, .iconst 4, 1), (9, .if_icmp .ge 27, 3), (12, .aload_n 0, 1), (13, .aload_n 0, 1), (14, .getfield 65, 3), (17, .iload_n 1, 1), (18, .aaload, 1), (19, .iconst 0, 1), (20, .iaload, 1), (21, .iload_n 1, 1), (22, .aload_n 0, 1), (23, .getfield 65, 3), (26, .iload_n 1, 1), (27, .aaload, 1), (28, .iconst 1, 1), (29, .iaload, 1), (30, .invokevirtual 86, 3), (33, .goto 24, 3), (36, .aload_n 0, 1)]
set_option maxRecDepth 20000 in
theorem dn_78_0_0_ok : dn_78_0_0.all (fun q => decide (decode (xm_b n_78) q.1 = .ok (q.2.1, q.2.2))) = true := xa_g_ok (by decide +kernel)
def dn_78_0_1 : List (Nat × Instr × Nat) := [(37, .iload_n 1, 1), (38, .aload_n 0, 1), (39, .getfield 65, 3), (42, .iload_n 1, 1), (43, .aaload, 1), (44, .iconst 2, 1), (45, .iaload, 1), (46, .aload_n 0, 1), (47, .getfield 65, 3), (50, .iload_n 1, 1), (51, .aaload, 1), (52, .iconst 3, 1), (53, .iaload, 1), (54, .invokevirtual 90, 3), (57, .return_, 1)]
set_option maxRecDepth 20000 in
theorem dn_78_0_1_ok : dn_78_0_1.all (fun q => decide (decode (xm_b n_78) q.1 = .ok (q.2.1, q.2.2))) = true := xa_g_ok (by decide +kernel)
def te_78_0 : Nat → eE := (e_T 27 (e_T 13 (e_T 6 (e_T 1 (e_T 0 (e_L 0 (0, ei_load 0 2 1, 0, 0)) (e_L 1 (0, ei_getf eft elay 4 19 4, 0, 0))) (e_T 4 (e_L 4 (0, ei_load 1 0 5, 0, 0)) (e_T 5 (e_L 5 (0, ei_aald elay 6, 0, 0)) (e_L 6 (0, ei_push (0, 0) 7, 0, 0))))) (e_T 8 (e_T 7 (e_L 7 (0, ei_ald elay false 8, 0, 0)) (e_L 8 (0, ei_push (0, 4) 9, 0, 0))) (e_T 9 (e_L 9 (0, ei_if2 3 36 12, 0, 0)) (e_T 12 (e_L 12 (0, ei_load 0 2 13, 0, 0)) (e_L 13 (0, ei_load 0 2 14, 0, 0)))))) (e_T 20 (e_T 17 (e_T 14 (e_L 14 (0, ei_getf eft elay 4 19 17, 0, 0)) (e_L 17 (0, ei_load 1 0 18, 0, 0))) (e_T 18 (e_L 18 (0, ei_aald elay 19, 0, 0)) (e_T 19 (e_L 19 (0, ei_push (0, 0) 20, 0, 0)) (e_L 20 (0, ei_ald elay false 21, 0, 0))))) (e_T 22 (e_T 21 (e_L 21 (0, ei_load 1 0 22, 0, 0)) (e_L 22 (0, ei_load 0 2 23, 0, 0))) (e_T 23 (e_L 23 (0, ei_getf eft elay 4 19 26, 0, 0)) (e_T 26 (e_L 26 (0, ei_load 1 0 27, 0, 0)) (e_L 27 (0, ei_aald elay 28, 0, 0))))))) (e_T 43 (e_T 36 (e_T 29 (e_T 28 (e_L 28 (0, ei_push (0, 1) 29, 0, 0)) (e_L 29 (0, ei_ald elay false 30, 0, 0))) (e_T 30 (e_L 30 (2, e_nof, 80, 4)) (e_T 33 (e_L 33 (0, ei_goto 57, 0, 0)) (e_L 36 (0, ei_load 0 2 37, 0, 0))))) (e_T 38 (e_T 37 (e_L 37 (0, ei_load 1 0 38, 0, 0)) (e_L 38 (0, ei_load 0 2 39, 0, 0))) (e_T 39 (e_L 39 (0, ei_getf eft elay 4 19 42, 0, 0)) (e_T 42 (e_L 42 (0, ei_load 1 0 43, 0, 0)) (e_L 43 (0, ei_aald elay 44, 0, 0)))))) (e_T 50 (e_T 45 (e_T 44 (e_L 44 (0, ei_push (0, 2) 45, 0, 0)) (e_L 45 (0, ei_ald elay false 46, 0, 0))) (e_T 46 (e_L 46 (0, ei_load 0 2 47, 0, 0)) (e_T 47 (e_L 47 (0, ei_getf eft elay 4 19 50, 0, 0)) (e_L 50 (0, ei_load 1 0 51, 0, 0))))) (e_T 52 (e_T 51 (e_L 51 (0, ei_aald elay 52, 0, 0)) (e_L 52 (0, ei_push (0, 3) 53, 0, 0))) (e_T 53 (e_L 53 (0, ei_ald elay false 54, 0, 0)) (e_T 54 (e_L 54 (2, e_nof, 79, 4)) (e_L 57 (1, e_nof, 0, 0))))))))
set_option maxRecDepth 20000 in
set_option maxHeartbeats 4000000 in
theorem te_78_0_ok : ∀ pc, e_EOq eft cls elay eI n_78 pc (te_78_0 pc) :=
  (e_Tok2
  (e_Tok2
  (e_Tok2
  (e_Tok2
  (e_Tok2
  (e_Lok (ld_aload_n_0 (x_dk dn_78_0_0_ok 0 rfl)))
  (e_Lok (lk_4_65g ho_78 (x_dk dn_78_0_0_ok 1 rfl))))
  (e_Tok2
  (e_Lok (ld_iload_n_1 (x_dk dn_78_0_0_ok 2 rfl)))
  (e_Tok2
  (e_Lok (e_st (I := eI) (er_aaload (x_dk dn_78_0_0_ok 3 rfl)) nx_aald))
  (e_Lok (ps_iconst_0 (x_dk dn_78_0_0_ok 4 rfl))))))
  (e_Tok2
  (e_Tok2
  (e_Lok (sm_iaload (x_dk dn_78_0_0_ok 5 rfl)))
  (e_Lok (ps_iconst_4 (x_dk dn_78_0_0_ok 6 rfl))))
  (e_Tok2
  (e_Lok (e_st (I := eI) (er_icmpge (off := 27) (tg := 36) (x_dk dn_78_0_0_ok 7 rfl) (by decide)) nx_if2))
  (e_Tok2
  (e_Lok (ld_aload_n_0 (x_dk dn_78_0_0_ok 8 rfl)))
  (e_Lok (ld_aload_n_0 (x_dk dn_78_0_0_ok 9 rfl)))))))
  (e_Tok2
  (e_Tok2
  (e_Tok2
  (e_Lok (lk_4_65g ho_78 (x_dk dn_78_0_0_ok 10 rfl)))
  (e_Lok (ld_iload_n_1 (x_dk dn_78_0_0_ok 11 rfl))))
  (e_Tok2
  (e_Lok (e_st (I := eI) (er_aaload (x_dk dn_78_0_0_ok 12 rfl)) nx_aald))
  (e_Tok2
  (e_Lok (ps_iconst_0 (x_dk dn_78_0_0_ok 13 rfl)))
  (e_Lok (sm_iaload (x_dk dn_78_0_0_ok 14 rfl))))))
  (e_Tok2
  (e_Tok2
  (e_Lok (ld_iload_n_1 (x_dk dn_78_0_0_ok 15 rfl)))
  (e_Lok (ld_aload_n_0 (x_dk dn_78_0_0_ok 16 rfl))))
  (e_Tok2
  (e_Lok (lk_4_65g ho_78 (x_dk dn_78_0_0_ok 17 rfl)))
  (e_Tok2
  (e_Lok (ld_iload_n_1 (x_dk dn_78_0_0_ok 18 rfl)))
  (e_Lok (e_st (I := eI) (er_aaload (x_dk dn_78_0_0_ok 19 rfl)) nx_aald)))))))
  (e_Tok2
  (e_Tok2
  (e_Tok2
  (e_Tok2
  (e_Lok (ps_iconst_1 (x_dk dn_78_0_0_ok 20 rfl)))
  (e_Lok (sm_iaload (x_dk dn_78_0_0_ok 21 rfl))))
  (e_Tok2
  (e_Lok (lk_4_86 ho_78 (x_dk dn_78_0_0_ok 22 rfl)))
  (e_Tok2
  (e_Lok (e_st (I := eI) (er_goto (off := 24) (tg := 57) (x_dk dn_78_0_0_ok 23 rfl) (by decide)) nx_goto))
  (e_Lok (ld_aload_n_0 (x_dk dn_78_0_0_ok 24 rfl))))))
  (e_Tok2
  (e_Tok2
  (e_Lok (ld_iload_n_1 (x_dk dn_78_0_1_ok 0 rfl)))
  (e_Lok (ld_aload_n_0 (x_dk dn_78_0_1_ok 1 rfl))))
  (e_Tok2
  (e_Lok (lk_4_65g ho_78 (x_dk dn_78_0_1_ok 2 rfl)))
  (e_Tok2
  (e_Lok (ld_iload_n_1 (x_dk dn_78_0_1_ok 3 rfl)))
  (e_Lok (e_st (I := eI) (er_aaload (x_dk dn_78_0_1_ok 4 rfl)) nx_aald))))))
  (e_Tok2
  (e_Tok2
  (e_Tok2
  (e_Lok (ps_iconst_2 (x_dk dn_78_0_1_ok 5 rfl)))
  (e_Lok (sm_iaload (x_dk dn_78_0_1_ok 6 rfl))))
  (e_Tok2
  (e_Lok (ld_aload_n_0 (x_dk dn_78_0_1_ok 7 rfl)))
  (e_Tok2
  (e_Lok (lk_4_65g ho_78 (x_dk dn_78_0_1_ok 8 rfl)))
  (e_Lok (ld_iload_n_1 (x_dk dn_78_0_1_ok 9 rfl))))))
  (e_Tok2
  (e_Tok2
  (e_Lok (e_st (I := eI) (er_aaload (x_dk dn_78_0_1_ok 10 rfl)) nx_aald))
  (e_Lok (ps_iconst_3 (x_dk dn_78_0_1_ok 11 rfl))))
  (e_Tok2
  (e_Lok (sm_iaload (x_dk dn_78_0_1_ok 12 rfl)))
  (e_Tok2
  (e_Lok (lk_4_90 ho_78 (x_dk dn_78_0_1_ok 13 rfl)))
  (e_Lok (e_rt (I := eI) (k := 0) ⟨(x_dk dn_78_0_1_ok 14 rfl), rfl⟩))))))))
def te_78 : Nat → eE := te_78_0
theorem te_78_ok : ∀ pc, e_EOq eft cls elay eI n_78 pc (te_78 pc) := te_78_0_ok
theorem ho_79 : (xm_y n_79).cls = "RobotCellHouse$Floor" := rfl
def dn_79_0_0 : List (Nat × Instr × Nat) := [(0, .aload_n 0, 1), (1, .getfield 50, 3), (4, .iload_n 1, 1), (5, .bipush 8, 2), (7, .iastore, 1), (8, .aload_n 0, 1), (9, .getfield 59, 3), (12, .iload_n 1, 1), (13, .iload_n 2, 1), (14, .iastore, 1), (15, .aload_n 0, 1), (16, .getfield 62, 3), (19, .iload_n 1, 1), (20, .iload_n 3, 1), (21, .iastore, 1), (22, .return_, 1)]
set_option maxRecDepth 20000 in
theorem dn_79_0_0_ok : dn_79_0_0.all (fun q => decide (decode (xm_b n_79) q.1 = .ok (q.2.1, q.2.2))) = true := xa_g_ok (by decide +kernel)
def te_79_0 : Nat → eE := (e_T 12 (e_T 5 (e_T 1 (e_T 0 (e_L 0 (0, ei_load 0 2 1, 0, 0)) (e_L 1 (0, ei_getf eft elay 4 14 4, 0, 0))) (e_T 4 (e_L 4 (0, ei_load 1 0 5, 0, 0)) (e_L 5 (0, ei_push (0, 8) 7, 0, 0)))) (e_T 8 (e_T 7 (e_L 7 (0, ei_ast elay false 8, 0, 0)) (e_L 8 (0, ei_load 0 2 9, 0, 0))) (e_T 9 (e_L 9 (0, ei_getf eft elay 4 17 12, 0, 0)) (e_L 12 (0, ei_load 1 0 13, 0, 0))))) (e_T 16 (e_T 14 (e_T 13 (e_L 13 (0, ei_load 2 0 14, 0, 0)) (e_L 14 (0, ei_ast elay false 15, 0, 0))) (e_T 15 (e_L 15 (0, ei_load 0 2 16, 0, 0)) (e_L 16 (0, ei_getf eft elay 4 18 19, 0, 0)))) (e_T 20 (e_T 19 (e_L 19 (0, ei_load 1 0 20, 0, 0)) (e_L 20 (0, ei_load 3 0 21, 0, 0))) (e_T 21 (e_L 21 (0, ei_ast elay false 22, 0, 0)) (e_L 22 (1, e_nof, 0, 0))))))
set_option maxRecDepth 20000 in
set_option maxHeartbeats 4000000 in
theorem te_79_0_ok : ∀ pc, e_EOq eft cls elay eI n_79 pc (te_79_0 pc) :=
  (e_Tok2
  (e_Tok2
  (e_Tok2
  (e_Tok2
  (e_Lok (ld_aload_n_0 (x_dk dn_79_0_0_ok 0 rfl)))
  (e_Lok (lk_4_50g ho_79 (x_dk dn_79_0_0_ok 1 rfl))))
  (e_Tok2
  (e_Lok (ld_iload_n_1 (x_dk dn_79_0_0_ok 2 rfl)))
  (e_Lok (ps_bipush_8 (x_dk dn_79_0_0_ok 3 rfl)))))
  (e_Tok2
  (e_Tok2
  (e_Lok (sm_iastore (x_dk dn_79_0_0_ok 4 rfl)))
  (e_Lok (ld_aload_n_0 (x_dk dn_79_0_0_ok 5 rfl))))
  (e_Tok2
  (e_Lok (lk_4_59g ho_79 (x_dk dn_79_0_0_ok 6 rfl)))
  (e_Lok (ld_iload_n_1 (x_dk dn_79_0_0_ok 7 rfl))))))
  (e_Tok2
  (e_Tok2
  (e_Tok2
  (e_Lok (ld_iload_n_2 (x_dk dn_79_0_0_ok 8 rfl)))
  (e_Lok (sm_iastore (x_dk dn_79_0_0_ok 9 rfl))))
  (e_Tok2
  (e_Lok (ld_aload_n_0 (x_dk dn_79_0_0_ok 10 rfl)))
  (e_Lok (lk_4_62g ho_79 (x_dk dn_79_0_0_ok 11 rfl)))))
  (e_Tok2
  (e_Tok2
  (e_Lok (ld_iload_n_1 (x_dk dn_79_0_0_ok 12 rfl)))
  (e_Lok (ld_iload_n_3 (x_dk dn_79_0_0_ok 13 rfl))))
  (e_Tok2
  (e_Lok (sm_iastore (x_dk dn_79_0_0_ok 14 rfl)))
  (e_Lok (e_rt (I := eI) (k := 0) ⟨(x_dk dn_79_0_0_ok 15 rfl), rfl⟩))))))
def te_79 : Nat → eE := te_79_0
theorem te_79_ok : ∀ pc, e_EOq eft cls elay eI n_79 pc (te_79 pc) := te_79_0_ok
theorem ho_80 : (xm_y n_80).cls = "RobotCellHouse$Floor" := rfl
def dn_80_0_0 : List (Nat × Instr × Nat) := [(0, .aload_n 0, 1), (1, .getfield 47, 3), (4, .iload_n 1, 1), (5, .iaload, 1), (6, .bipush 32, 2), (8, .if_icmp .lt 4, 3), (11, .return_, 1), (12, .aload_n 0, 1), (13, .getfield 47, 3), (16, .iload_n 1, 1), (17, .iaload, 1), (18, .istore 4, 2), (20, .iload 4, 2), (22, .ifCond .le 49, 3), (25, .aload_n 0, 1), (26, .getfield 53, 3), (29, .aload_n 0, 1), (30, .getfield 44, 3), (33, .iload_n 1, 1), (34, .aaload, 1), (35, .iload 4, 2), (37, .iconst 1, 1), (38, .isub, 1), (39, .iaload, 1), (40, .iaload, 1)]
set_option maxRecDepth 20000 in
theorem dn_80_0_0_ok : dn_80_0_0.all (fun q => decide (decode (xm_b n_80) q.1 = .ok (q.2.1, q.2.2))) = true := xa_g_ok (by decide +kernel)
def dn_80_0_1 : List (Nat × Instr × Nat) := [(41, .iload_n 3, 1), (42, .if_icmp .ge 29, 3), (45, .aload_n 0, 1), (46, .getfield 44, 3), (49, .iload_n 1, 1), (50, .aaload, 1), (51, .iload 4, 2), (53, .aload_n 0, 1), (54, .getfield 44, 3), (57, .iload_n 1, 1), (58, .aaload, 1), (59, .iload 4, 2), (61, .iconst 1, 1), (62, .isub, 1), (63, .iaload, 1), (64, .iastore, 1), (65, .iinc 4 (-1), 3), (68, .goto (-48), 3), (71, .aload_n 0, 1), (72, .getfield 44, 3), (75, .iload_n 1, 1), (76, .aaload, 1), (77, .iload 4, 2), (79, .iload_n 2, 1), (80, .iastore, 1)]
set_option maxRecDepth 20000 in
theorem dn_80_0_1_ok : dn_80_0_1.all (fun q => decide (decode (xm_b n_80) q.1 = .ok (q.2.1, q.2.2))) = true := xa_g_ok (by decide +kernel)
def dn_80_0_2 : List (Nat × Instr × Nat) := [(81, .aload_n 0, 1), (82, .getfield 47, 3), (85, .iload_n 1, 1), (86, .dup2, 1), (87, .iaload, 1), (88, .iconst 1, 1), (89, .iadd, 1), (90, .iastore, 1), (91, .aload_n 0, 1), (92, .getfield 50, 3), (95, .iload_n 2, 1), (96, .iload_n 1, 1), (97, .iastore, 1), (98, .aload_n 0, 1), (99, .getfield 53, 3), (102, .iload_n 2, 1), (103, .iload_n 3, 1), (104, .iastore, 1), (105, .return_, 1)]
set_option maxRecDepth 20000 in
theorem dn_80_0_2_ok : dn_80_0_2.all (fun q => decide (decode (xm_b n_80) q.1 = .ok (q.2.1, q.2.2))) = true := xa_g_ok (by decide +kernel)
def te_80_0 : Nat → eE := (e_T 29 (e_T 12 (e_T 5 (e_T 1 (e_T 0 (e_L 0 (0, ei_load 0 2 1, 0, 0)) (e_L 1 (0, ei_getf eft elay 4 13 4, 0, 0))) (e_T 4 (e_L 4 (0, ei_load 1 0 5, 0, 0)) (e_L 5 (0, ei_ald elay false 6, 0, 0)))) (e_T 8 (e_T 6 (e_L 6 (0, ei_push (0, 32) 8, 0, 0)) (e_L 8 (0, ei_if2 2 12 11, 0, 0))) (e_T 11 (e_L 11 (1, e_nof, 0, 0)) (e_L 12 (0, ei_load 0 2 13, 0, 0))))) (e_T 18 (e_T 16 (e_T 13 (e_L 13 (0, ei_getf eft elay 4 13 16, 0, 0)) (e_L 16 (0, ei_load 1 0 17, 0, 0))) (e_T 17 (e_L 17 (0, ei_ald elay false 18, 0, 0)) (e_L 18 (0, ei_stor 4 0 20, 0, 0)))) (e_T 22 (e_T 20 (e_L 20 (0, ei_load 4 0 22, 0, 0)) (e_L 22 (0, ei_if1 5 71 25, 0, 0))) (e_T 25 (e_L 25 (0, ei_load 0 2 26, 0, 0)) (e_T 26 (e_L 26 (0, ei_getf eft elay 4 15 29, 0, 0)) (e_L 29 (0, ei_load 0 2 30, 0, 0))))))) (e_T 40 (e_T 35 (e_T 33 (e_T 30 (e_L 30 (0, ei_getf eft elay 4 12 33, 0, 0)) (e_L 33 (0, ei_load 1 0 34, 0, 0))) (e_T 34 (e_L 34 (0, ei_aald elay 35, 0, 0)) (e_L 35 (0, ei_load 4 0 37, 0, 0)))) (e_T 38 (e_T 37 (e_L 37 (0, ei_push (0, 1) 38, 0, 0)) (e_L 38 (0, ei_bin eF_sub 39, 0, 0))) (e_T 39 (e_L 39 (0, ei_ald elay false 40, 0, 0)) (e_L 40 (0, ei_ald elay false 41, 0, 0))))) (e_T 46 (e_T 42 (e_T 41 (e_L 41 (0, ei_load 3 0 42, 0, 0)) (e_L 42 (0, ei_if2 3 71 45, 0, 0))) (e_T 45 (e_L 45 (0, ei_load 0 2 46, 0, 0)) (e_L 46 (0, ei_getf eft elay 4 12 49, 0, 0)))) (e_T 50 (e_T 49 (e_L 49 (0, ei_load 1 0 50, 0, 0)) (e_L 50 (0, ei_aald elay 51, 0, 0))) (e_T 51 (e_L 51 (0, ei_load 4 0 53, 0, 0)) (e_T 53 (e_L 53 (0, ei_load 0 2 54, 0, 0)) (e_L 54 (0, ei_getf eft elay 4 12 57, 0, 0))))))))
set_option maxRecDepth 20000 in
set_option maxHeartbeats 4000000 in
theorem te_80_0_ok : ∀ pc, e_EOq eft cls elay eI n_80 pc (te_80_0 pc) :=
  (e_Tok2
  (e_Tok2
  (e_Tok2
  (e_Tok2
  (e_Tok2
  (e_Lok (ld_aload_n_0 (x_dk dn_80_0_0_ok 0 rfl)))
  (e_Lok (lk_4_47g ho_80 (x_dk dn_80_0_0_ok 1 rfl))))
  (e_Tok2
  (e_Lok (ld_iload_n_1 (x_dk dn_80_0_0_ok 2 rfl)))
  (e_Lok (sm_iaload (x_dk dn_80_0_0_ok 3 rfl)))))
  (e_Tok2
  (e_Tok2
  (e_Lok (ps_bipush_32 (x_dk dn_80_0_0_ok 4 rfl)))
  (e_Lok (e_st (I := eI) (er_icmplt (off := 4) (tg := 12) (x_dk dn_80_0_0_ok 5 rfl) (by decide)) nx_if2)))
  (e_Tok2
  (e_Lok (e_rt (I := eI) (k := 0) ⟨(x_dk dn_80_0_0_ok 6 rfl), rfl⟩))
  (e_Lok (ld_aload_n_0 (x_dk dn_80_0_0_ok 7 rfl))))))
  (e_Tok2
  (e_Tok2
  (e_Tok2
  (e_Lok (lk_4_47g ho_80 (x_dk dn_80_0_0_ok 8 rfl)))
  (e_Lok (ld_iload_n_1 (x_dk dn_80_0_0_ok 9 rfl))))
  (e_Tok2
  (e_Lok (sm_iaload (x_dk dn_80_0_0_ok 10 rfl)))
  (e_Lok (e_st (I := eI) (er_istore (i := 4) (x_dk dn_80_0_0_ok 11 rfl) (by decide +kernel)) nx_stor))))
  (e_Tok2
  (e_Tok2
  (e_Lok (ld_iload_4 (x_dk dn_80_0_0_ok 12 rfl)))
  (e_Lok (e_st (I := eI) (er_ifle (off := 49) (tg := 71) (x_dk dn_80_0_0_ok 13 rfl) (by decide)) nx_if1)))
  (e_Tok2
  (e_Lok (ld_aload_n_0 (x_dk dn_80_0_0_ok 14 rfl)))
  (e_Tok2
  (e_Lok (lk_4_53g ho_80 (x_dk dn_80_0_0_ok 15 rfl)))
  (e_Lok (ld_aload_n_0 (x_dk dn_80_0_0_ok 16 rfl))))))))
  (e_Tok2
  (e_Tok2
  (e_Tok2
  (e_Tok2
  (e_Lok (lk_4_44g ho_80 (x_dk dn_80_0_0_ok 17 rfl)))
  (e_Lok (ld_iload_n_1 (x_dk dn_80_0_0_ok 18 rfl))))
  (e_Tok2
  (e_Lok (e_st (I := eI) (er_aaload (x_dk dn_80_0_0_ok 19 rfl)) nx_aald))
  (e_Lok (ld_iload_4 (x_dk dn_80_0_0_ok 20 rfl)))))
  (e_Tok2
  (e_Tok2
  (e_Lok (ps_iconst_1 (x_dk dn_80_0_0_ok 21 rfl)))
  (e_Lok (sm_isub (x_dk dn_80_0_0_ok 22 rfl))))
  (e_Tok2
  (e_Lok (sm_iaload (x_dk dn_80_0_0_ok 23 rfl)))
  (e_Lok (sm_iaload (x_dk dn_80_0_0_ok 24 rfl))))))
  (e_Tok2
  (e_Tok2
  (e_Tok2
  (e_Lok (ld_iload_n_3 (x_dk dn_80_0_1_ok 0 rfl)))
  (e_Lok (e_st (I := eI) (er_icmpge (off := 29) (tg := 71) (x_dk dn_80_0_1_ok 1 rfl) (by decide)) nx_if2)))
  (e_Tok2
  (e_Lok (ld_aload_n_0 (x_dk dn_80_0_1_ok 2 rfl)))
  (e_Lok (lk_4_44g ho_80 (x_dk dn_80_0_1_ok 3 rfl)))))
  (e_Tok2
  (e_Tok2
  (e_Lok (ld_iload_n_1 (x_dk dn_80_0_1_ok 4 rfl)))
  (e_Lok (e_st (I := eI) (er_aaload (x_dk dn_80_0_1_ok 5 rfl)) nx_aald)))
  (e_Tok2
  (e_Lok (ld_iload_4 (x_dk dn_80_0_1_ok 6 rfl)))
  (e_Tok2
  (e_Lok (ld_aload_n_0 (x_dk dn_80_0_1_ok 7 rfl)))
  (e_Lok (lk_4_44g ho_80 (x_dk dn_80_0_1_ok 8 rfl)))))))))
def te_80_34 : Nat → eE := (e_T 81 (e_T 65 (e_T 61 (e_T 58 (e_T 57 (e_L 57 (0, ei_load 1 0 58, 0, 0)) (e_L 58 (0, ei_aald elay 59, 0, 0))) (e_T 59 (e_L 59 (0, ei_load 4 0 61, 0, 0)) (e_L 61 (0, ei_push (0, 1) 62, 0, 0)))) (e_T 63 (e_T 62 (e_L 62 (0, ei_bin eF_sub 63, 0, 0)) (e_L 63 (0, ei_ald elay false 64, 0, 0))) (e_T 64 (e_L 64 (0, ei_ast elay false 65, 0, 0)) (e_L 65 (0, ei_inc 4 (-1) 68, 0, 0))))) (e_T 75 (e_T 71 (e_T 68 (e_L 68 (0, ei_goto 20, 0, 0)) (e_L 71 (0, ei_load 0 2 72, 0, 0))) (e_T 72 (e_L 72 (0, ei_getf eft elay 4 12 75, 0, 0)) (e_L 75 (0, ei_load 1 0 76, 0, 0)))) (e_T 77 (e_T 76 (e_L 76 (0, ei_aald elay 77, 0, 0)) (e_L 77 (0, ei_load 4 0 79, 0, 0))) (e_T 79 (e_L 79 (0, ei_load 2 0 80, 0, 0)) (e_T 80 (e_L 80 (0, ei_ast elay false 81, 0, 0)) (e_L 81 (0, ei_load 0 2 82, 0, 0))))))) (e_T 92 (e_T 87 (e_T 85 (e_T 82 (e_L 82 (0, ei_getf eft elay 4 13 85, 0, 0)) (e_L 85 (0, ei_load 1 0 86, 0, 0))) (e_T 86 (e_L 86 (0, ei_stk ef_dup2 87, 0, 0)) (e_L 87 (0, ei_ald elay false 88, 0, 0)))) (e_T 89 (e_T 88 (e_L 88 (0, ei_push (0, 1) 89, 0, 0)) (e_L 89 (0, ei_bin eF_add 90, 0, 0))) (e_T 90 (e_L 90 (0, ei_ast elay false 91, 0, 0)) (e_T 91 (e_L 91 (0, ei_load 0 2 92, 0, 0)) (e_L 92 (0, ei_getf eft elay 4 14 95, 0, 0)))))) (e_T 98 (e_T 96 (e_T 95 (e_L 95 (0, ei_load 2 0 96, 0, 0)) (e_L 96 (0, ei_load 1 0 97, 0, 0))) (e_T 97 (e_L 97 (0, ei_ast elay false 98, 0, 0)) (e_L 98 (0, ei_load 0 2 99, 0, 0)))) (e_T 102 (e_T 99 (e_L 99 (0, ei_getf eft elay 4 15 102, 0, 0)) (e_L 102 (0, ei_load 2 0 103, 0, 0))) (e_T 103 (e_L 103 (0, ei_load 3 0 104, 0, 0)) (e_T 104 (e_L 104 (0, ei_ast elay false 105, 0, 0)) (e_L 105 (1, e_nof, 0, 0))))))))
set_option maxRecDepth 20000 in
set_option maxHeartbeats 4000000 in
theorem te_80_34_ok : ∀ pc, e_EOq eft cls elay eI n_80 pc (te_80_34 pc) :=
  (e_Tok2
  (e_Tok2
  (e_Tok2
  (e_Tok2
  (e_Tok2
  (e_Lok (ld_iload_n_1 (x_dk dn_80_0_1_ok 9 rfl)))
  (e_Lok (e_st (I := eI) (er_aaload (x_dk dn_80_0_1_ok 10 rfl)) nx_aald)))
  (e_Tok2
  (e_Lok (ld_iload_4 (x_dk dn_80_0_1_ok 11 rfl)))
  (e_Lok (ps_iconst_1 (x_dk dn_80_0_1_ok 12 rfl)))))
  (e_Tok2
  (e_Tok2
  (e_Lok (sm_isub (x_dk dn_80_0_1_ok 13 rfl)))
  (e_Lok (sm_iaload (x_dk dn_80_0_1_ok 14 rfl))))
  (e_Tok2
  (e_Lok (sm_iastore (x_dk dn_80_0_1_ok 15 rfl)))
  (e_Lok (e_st (I := eI) (er_iinc (i := 4) (n := (-1)) (x_dk dn_80_0_1_ok 16 rfl) (by decide +kernel) (by decide)) nx_inc)))))
  (e_Tok2
  (e_Tok2
  (e_Tok2
  (e_Lok (e_st (I := eI) (er_goto (off := (-48)) (tg := 20) (x_dk dn_80_0_1_ok 17 rfl) (by decide)) nx_goto))
  (e_Lok (ld_aload_n_0 (x_dk dn_80_0_1_ok 18 rfl))))
  (e_Tok2
  (e_Lok (lk_4_44g ho_80 (x_dk dn_80_0_1_ok 19 rfl)))
  (e_Lok (ld_iload_n_1 (x_dk dn_80_0_1_ok 20 rfl)))))
  (e_Tok2
  (e_Tok2
  (e_Lok (e_st (I := eI) (er_aaload (x_dk dn_80_0_1_ok 21 rfl)) nx_aald))
  (e_Lok (ld_iload_4 (x_dk dn_80_0_1_ok 22 rfl))))
  (e_Tok2
  (e_Lok (ld_iload_n_2 (x_dk dn_80_0_1_ok 23 rfl)))
  (e_Tok2
  (e_Lok (sm_iastore (x_dk dn_80_0_1_ok 24 rfl)))
  (e_Lok (ld_aload_n_0 (x_dk dn_80_0_2_ok 0 rfl))))))))
  (e_Tok2
  (e_Tok2
  (e_Tok2
  (e_Tok2
  (e_Lok (lk_4_47g ho_80 (x_dk dn_80_0_2_ok 1 rfl)))
  (e_Lok (ld_iload_n_1 (x_dk dn_80_0_2_ok 2 rfl))))
  (e_Tok2
  (e_Lok (e_st (I := eI) (er_dup2 (x_dk dn_80_0_2_ok 3 rfl)) (nx_stk bf_dup2)))
  (e_Lok (sm_iaload (x_dk dn_80_0_2_ok 4 rfl)))))
  (e_Tok2
  (e_Tok2
  (e_Lok (ps_iconst_1 (x_dk dn_80_0_2_ok 5 rfl)))
  (e_Lok (sm_iadd (x_dk dn_80_0_2_ok 6 rfl))))
  (e_Tok2
  (e_Lok (sm_iastore (x_dk dn_80_0_2_ok 7 rfl)))
  (e_Tok2
  (e_Lok (ld_aload_n_0 (x_dk dn_80_0_2_ok 8 rfl)))
  (e_Lok (lk_4_50g ho_80 (x_dk dn_80_0_2_ok 9 rfl)))))))
  (e_Tok2
  (e_Tok2
  (e_Tok2
  (e_Lok (ld_iload_n_2 (x_dk dn_80_0_2_ok 10 rfl)))
  (e_Lok (ld_iload_n_1 (x_dk dn_80_0_2_ok 11 rfl))))
  (e_Tok2
  (e_Lok (sm_iastore (x_dk dn_80_0_2_ok 12 rfl)))
  (e_Lok (ld_aload_n_0 (x_dk dn_80_0_2_ok 13 rfl)))))
  (e_Tok2
  (e_Tok2
  (e_Lok (lk_4_53g ho_80 (x_dk dn_80_0_2_ok 14 rfl)))
  (e_Lok (ld_iload_n_2 (x_dk dn_80_0_2_ok 15 rfl))))
  (e_Tok2
  (e_Lok (ld_iload_n_3 (x_dk dn_80_0_2_ok 16 rfl)))
  (e_Tok2
  (e_Lok (sm_iastore (x_dk dn_80_0_2_ok 17 rfl)))
  (e_Lok (e_rt (I := eI) (k := 0) ⟨(x_dk dn_80_0_2_ok 18 rfl), rfl⟩))))))))
def te_80 : Nat → eE := (e_T 54 te_80_0 te_80_34)
theorem te_80_ok : ∀ pc, e_EOq eft cls elay eI n_80 pc (te_80 pc) := (e_Tok2 (te_80_0_ok) (te_80_34_ok))
theorem ho_81 : (xm_y n_81).cls = "RobotCellHouse$Floor" := rfl
def dn_81_0_0 : List (Nat × Instr × Nat) := [(0, .aload_n 0, 1), (1, .getfield 50, 3), (4, .iload_n 1, 1), (5, .iaload, 1), (6, .istore_n 2, 1), (7, .iload_n 2, 1), (8, .iconst 4, 1), (9, .if_icmp .ge 26, 3), (12, .aload_n 0, 1), (13, .getfield 27, 3), (16, .iload_n 2, 1), (17, .iaload, 1), (18, .aload_n 0, 1), (19, .getfield 53, 3), (22, .iload_n 1, 1), (23, .iaload, 1), (24, .aload_n 0, 1), (25, .getfield 33, 3), (28, .iload_n 2, 1), (29, .iaload, 1), (30, .imul, 1), (31, .iadd, 1), (32, .goto 9, 3), (35, .aload_n 0, 1), (36, .getfield 59, 3)]
set_option maxRecDepth 20000 in
theorem dn_81_0_0_ok : dn_81_0_0.all (fun q => decide (decode (xm_b n_81) q.1 = .ok (q.2.1, q.2.2))) = true := xa_g_ok (by decide +kernel)
def dn_81_0_1 : List (Nat × Instr × Nat) := [(39, .iload_n 1, 1), (40, .iaload, 1), (41, .ireturn, 1)]
set_option maxRecDepth 20000 in
theorem dn_81_0_1_ok : dn_81_0_1.all (fun q => decide (decode (xm_b n_81) q.1 = .ok (q.2.1, q.2.2))) = true := xa_g_ok (by decide +kernel)
def te_81_0 : Nat → eE := (e_T 19 (e_T 8 (e_T 4 (e_T 0 (e_L 0 (0, ei_load 0 2 1, 0, 0)) (e_T 1 (e_L 1 (0, ei_getf eft elay 4 14 4, 0, 0)) (e_L 4 (0, ei_load 1 0 5, 0, 0)))) (e_T 6 (e_T 5 (e_L 5 (0, ei_ald elay false 6, 0, 0)) (e_L 6 (0, ei_stor 2 0 7, 0, 0))) (e_T 7 (e_L 7 (0, ei_load 2 0 8, 0, 0)) (e_L 8 (0, ei_push (0, 4) 9, 0, 0))))) (e_T 13 (e_T 9 (e_L 9 (0, ei_if2 3 35 12, 0, 0)) (e_T 12 (e_L 12 (0, ei_load 0 2 13, 0, 0)) (e_L 13 (0, ei_getf eft elay 4 7 16, 0, 0)))) (e_T 17 (e_T 16 (e_L 16 (0, ei_load 2 0 17, 0, 0)) (e_L 17 (0, ei_ald elay false 18, 0, 0))) (e_T 18 (e_L 18 (0, ei_load 0 2 19, 0, 0)) (e_L 19 (0, ei_getf eft elay 4 15 22, 0, 0)))))) (e_T 30 (e_T 24 (e_T 22 (e_L 22 (0, ei_load 1 0 23, 0, 0)) (e_T 23 (e_L 23 (0, ei_ald elay false 24, 0, 0)) (e_L 24 (0, ei_load 0 2 25, 0, 0)))) (e_T 28 (e_T 25 (e_L 25 (0, ei_getf eft elay 4 9 28, 0, 0)) (e_L 28 (0, ei_load 2 0 29, 0, 0))) (e_T 29 (e_L 29 (0, ei_ald elay false 30, 0, 0)) (e_L 30 (0, ei_bin eF_mul 31, 0, 0))))) (e_T 35 (e_T 31 (e_L 31 (0, ei_bin eF_add 32, 0, 0)) (e_T 32 (e_L 32 (0, ei_goto 41, 0, 0)) (e_L 35 (0, ei_load 0 2 36, 0, 0)))) (e_T 39 (e_T 36 (e_L 36 (0, ei_getf eft elay 4 17 39, 0, 0)) (e_L 39 (0, ei_load 1 0 40, 0, 0))) (e_T 40 (e_L 40 (0, ei_ald elay false 41, 0, 0)) (e_L 41 (1, e_nof, 1, 0)))))))
set_option maxRecDepth 20000 in
set_option maxHeartbeats 4000000 in
theorem te_81_0_ok : ∀ pc, e_EOq eft cls elay eI n_81 pc (te_81_0 pc) :=
  (e_Tok2
  (e_Tok2
  (e_Tok2
  (e_Tok2
  (e_Lok (ld_aload_n_0 (x_dk dn_81_0_0_ok 0 rfl)))
  (e_Tok2
  (e_Lok (lk_4_50g ho_81 (x_dk dn_81_0_0_ok 1 rfl)))
  (e_Lok (ld_iload_n_1 (x_dk dn_81_0_0_ok 2 rfl)))))
  (e_Tok2
  (e_Tok2
  (e_Lok (sm_iaload (x_dk dn_81_0_0_ok 3 rfl)))
  (e_Lok (e_st (I := eI) (er_istore_n (i := 2) (x_dk dn_81_0_0_ok 4 rfl) (by decide +kernel)) nx_stor)))
  (e_Tok2
  (e_Lok (ld_iload_n_2 (x_dk dn_81_0_0_ok 5 rfl)))
  (e_Lok (ps_iconst_4 (x_dk dn_81_0_0_ok 6 rfl))))))
  (e_Tok2
  (e_Tok2
  (e_Lok (e_st (I := eI) (er_icmpge (off := 26) (tg := 35) (x_dk dn_81_0_0_ok 7 rfl) (by decide)) nx_if2))
  (e_Tok2
  (e_Lok (ld_aload_n_0 (x_dk dn_81_0_0_ok 8 rfl)))
  (e_Lok (lk_4_27g ho_81 (x_dk dn_81_0_0_ok 9 rfl)))))
  (e_Tok2
  (e_Tok2
  (e_Lok (ld_iload_n_2 (x_dk dn_81_0_0_ok 10 rfl)))
  (e_Lok (sm_iaload (x_dk dn_81_0_0_ok 11 rfl))))
  (e_Tok2
  (e_Lok (ld_aload_n_0 (x_dk dn_81_0_0_ok 12 rfl)))
  (e_Lok (lk_4_53g ho_81 (x_dk dn_81_0_0_ok 13 rfl)))))))
  (e_Tok2
  (e_Tok2
  (e_Tok2
  (e_Lok (ld_iload_n_1 (x_dk dn_81_0_0_ok 14 rfl)))
  (e_Tok2
  (e_Lok (sm_iaload (x_dk dn_81_0_0_ok 15 rfl)))
  (e_Lok (ld_aload_n_0 (x_dk dn_81_0_0_ok 16 rfl)))))
  (e_Tok2
  (e_Tok2
  (e_Lok (lk_4_33g ho_81 (x_dk dn_81_0_0_ok 17 rfl)))
  (e_Lok (ld_iload_n_2 (x_dk dn_81_0_0_ok 18 rfl))))
  (e_Tok2
  (e_Lok (sm_iaload (x_dk dn_81_0_0_ok 19 rfl)))
  (e_Lok (sm_imul (x_dk dn_81_0_0_ok 20 rfl))))))
  (e_Tok2
  (e_Tok2
  (e_Lok (sm_iadd (x_dk dn_81_0_0_ok 21 rfl)))
  (e_Tok2
  (e_Lok (e_st (I := eI) (er_goto (off := 9) (tg := 41) (x_dk dn_81_0_0_ok 22 rfl) (by decide)) nx_goto))
  (e_Lok (ld_aload_n_0 (x_dk dn_81_0_0_ok 23 rfl)))))
  (e_Tok2
  (e_Tok2
  (e_Lok (lk_4_59g ho_81 (x_dk dn_81_0_0_ok 24 rfl)))
  (e_Lok (ld_iload_n_1 (x_dk dn_81_0_1_ok 0 rfl))))
  (e_Tok2
  (e_Lok (sm_iaload (x_dk dn_81_0_1_ok 1 rfl)))
  (e_Lok (e_rt (I := eI) (k := 1) ⟨(x_dk dn_81_0_1_ok 2 rfl), rfl⟩)))))))
def te_81 : Nat → eE := te_81_0
theorem te_81_ok : ∀ pc, e_EOq eft cls elay eI n_81 pc (te_81 pc) := te_81_0_ok
theorem ho_82 : (xm_y n_82).cls = "RobotCellHouse$Floor" := rfl
def dn_82_0_0 : List (Nat × Instr × Nat) := [(0, .aload_n 0, 1), (1, .getfield 50, 3), (4, .iload_n 1, 1), (5, .iaload, 1), (6, .istore_n 2, 1), (7, .iload_n 2, 1), (8, .iconst 4, 1), (9, .if_icmp .ge 26, 3), (12, .aload_n 0, 1), (13, .getfield 30, 3), (16, .iload_n 2, 1), (17, .iaload, 1), (18, .aload_n 0, 1), (19, .getfield 53, 3), (22, .iload_n 1, 1), (23, .iaload, 1), (24, .aload_n 0, 1), (25, .getfield 36, 3), (28, .iload_n 2, 1), (29, .iaload, 1), (30, .imul, 1), (31, .iadd, 1), (32, .goto 9, 3), (35, .aload_n 0, 1), (36, .getfield 62, 3)]
set_option maxRecDepth 20000 in
theorem dn_82_0_0_ok : dn_82_0_0.all (fun q => decide (decode (xm_b n_82) q.1 = .ok (q.2.1, q.2.2))) = true := xa_g_ok (by decide +kernel)
def dn_82_0_1 : List (Nat × Instr × Nat) := [(39, .iload_n 1, 1), (40, .iaload, 1), (41, .ireturn, 1)]
set_option maxRecDepth 20000 in
theorem dn_82_0_1_ok : dn_82_0_1.all (fun q => decide (decode (xm_b n_82) q.1 = .ok (q.2.1, q.2.2))) = true := xa_g_ok (by decide +kernel)
def te_82_0 : Nat → eE := (e_T 19 (e_T 8 (e_T 4 (e_T 0 (e_L 0 (0, ei_load 0 2 1, 0, 0)) (e_T 1 (e_L 1 (0, ei_getf eft elay 4 14 4, 0, 0)) (e_L 4 (0, ei_load 1 0 5, 0, 0)))) (e_T 6 (e_T 5 (e_L 5 (0, ei_ald elay false 6, 0, 0)) (e_L 6 (0, ei_stor 2 0 7, 0, 0))) (e_T 7 (e_L 7 (0, ei_load 2 0 8, 0, 0)) (e_L 8 (0, ei_push (0, 4) 9, 0, 0))))) (e_T 13 (e_T 9 (e_L 9 (0, ei_if2 3 35 12, 0, 0)) (e_T 12 (e_L 12 (0, ei_load 0 2 13, 0, 0)) (e_L 13 (0, ei_getf eft elay 4 8 16, 0, 0)))) (e_T 17 (e_T 16 (e_L 16 (0, ei_load 2 0 17, 0, 0)) (e_L 17 (0, ei_ald elay false 18, 0, 0))) (e_T 18 (e_L 18 (0, ei_load 0 2 19, 0, 0)) (e_L 19 (0, ei_getf eft elay 4 15 22, 0, 0)))))) (e_T 30 (e_T 24 (e_T 22 (e_L 22 (0, ei_load 1 0 23, 0, 0)) (e_T 23 (e_L 23 (0, ei_ald elay false 24, 0, 0)) (e_L 24 (0, ei_load 0 2 25, 0, 0)))) (e_T 28 (e_T 25 (e_L 25 (0, ei_getf eft elay 4 10 28, 0, 0)) (e_L 28 (0, ei_load 2 0 29, 0, 0))) (e_T 29 (e_L 29 (0, ei_ald elay false 30, 0, 0)) (e_L 30 (0, ei_bin eF_mul 31, 0, 0))))) (e_T 35 (e_T 31 (e_L 31 (0, ei_bin eF_add 32, 0, 0)) (e_T 32 (e_L 32 (0, ei_goto 41, 0, 0)) (e_L 35 (0, ei_load 0 2 36, 0, 0)))) (e_T 39 (e_T 36 (e_L 36 (0, ei_getf eft elay 4 18 39, 0, 0)) (e_L 39 (0, ei_load 1 0 40, 0, 0))) (e_T 40 (e_L 40 (0, ei_ald elay false 41, 0, 0)) (e_L 41 (1, e_nof, 1, 0)))))))
set_option maxRecDepth 20000 in
set_option maxHeartbeats 4000000 in
theorem te_82_0_ok : ∀ pc, e_EOq eft cls elay eI n_82 pc (te_82_0 pc) :=
  (e_Tok2
  (e_Tok2
  (e_Tok2
  (e_Tok2
  (e_Lok (ld_aload_n_0 (x_dk dn_82_0_0_ok 0 rfl)))
  (e_Tok2
  (e_Lok (lk_4_50g ho_82 (x_dk dn_82_0_0_ok 1 rfl)))
  (e_Lok (ld_iload_n_1 (x_dk dn_82_0_0_ok 2 rfl)))))
  (e_Tok2
  (e_Tok2
  (e_Lok (sm_iaload (x_dk dn_82_0_0_ok 3 rfl)))
  (e_Lok (e_st (I := eI) (er_istore_n (i := 2) (x_dk dn_82_0_0_ok 4 rfl) (by decide +kernel)) nx_stor)))
  (e_Tok2
  (e_Lok (ld_iload_n_2 (x_dk dn_82_0_0_ok 5 rfl)))
  (e_Lok (ps_iconst_4 (x_dk dn_82_0_0_ok 6 rfl))))))
  (e_Tok2
  (e_Tok2
  (e_Lok (e_st (I := eI) (er_icmpge (off := 26) (tg := 35) (x_dk dn_82_0_0_ok 7 rfl) (by decide)) nx_if2))
  (e_Tok2
  (e_Lok (ld_aload_n_0 (x_dk dn_82_0_0_ok 8 rfl)))
  (e_Lok (lk_4_30g ho_82 (x_dk dn_82_0_0_ok 9 rfl)))))
  (e_Tok2
  (e_Tok2
  (e_Lok (ld_iload_n_2 (x_dk dn_82_0_0_ok 10 rfl)))
  (e_Lok (sm_iaload (x_dk dn_82_0_0_ok 11 rfl))))
  (e_Tok2
  (e_Lok (ld_aload_n_0 (x_dk dn_82_0_0_ok 12 rfl)))
  (e_Lok (lk_4_53g ho_82 (x_dk dn_82_0_0_ok 13 rfl)))))))
  (e_Tok2
  (e_Tok2
  (e_Tok2
  (e_Lok (ld_iload_n_1 (x_dk dn_82_0_0_ok 14 rfl)))
  (e_Tok2
  (e_Lok (sm_iaload (x_dk dn_82_0_0_ok 15 rfl)))
  (e_Lok (ld_aload_n_0 (x_dk dn_82_0_0_ok 16 rfl)))))
  (e_Tok2
  (e_Tok2
  (e_Lok (lk_4_36g ho_82 (x_dk dn_82_0_0_ok 17 rfl)))
  (e_Lok (ld_iload_n_2 (x_dk dn_82_0_0_ok 18 rfl))))
  (e_Tok2
  (e_Lok (sm_iaload (x_dk dn_82_0_0_ok 19 rfl)))
  (e_Lok (sm_imul (x_dk dn_82_0_0_ok 20 rfl))))))
  (e_Tok2
  (e_Tok2
  (e_Lok (sm_iadd (x_dk dn_82_0_0_ok 21 rfl)))
  (e_Tok2
  (e_Lok (e_st (I := eI) (er_goto (off := 9) (tg := 41) (x_dk dn_82_0_0_ok 22 rfl) (by decide)) nx_goto))
  (e_Lok (ld_aload_n_0 (x_dk dn_82_0_0_ok 23 rfl)))))
  (e_Tok2
  (e_Tok2
  (e_Lok (lk_4_62g ho_82 (x_dk dn_82_0_0_ok 24 rfl)))
  (e_Lok (ld_iload_n_1 (x_dk dn_82_0_1_ok 0 rfl))))
  (e_Tok2
  (e_Lok (sm_iaload (x_dk dn_82_0_1_ok 1 rfl)))
  (e_Lok (e_rt (I := eI) (k := 1) ⟨(x_dk dn_82_0_1_ok 2 rfl), rfl⟩)))))))
def te_82 : Nat → eE := te_82_0
theorem te_82_ok : ∀ pc, e_EOq eft cls elay eI n_82 pc (te_82 pc) := te_82_0_ok
theorem ho_83 : (xm_y n_83).cls = "RobotCellHouse$Floor" := rfl
def dn_83_0_0 : List (Nat × Instr × Nat) := [(0, .iconst (-1), 1), (1, .istore 4, 2), (3, .iload_n 3, 1), (4, .i2l, 1), (5, .iload_n 3, 1), (6, .i2l, 1), (7, .lmul, 1), (8, .lstore 5, 2), (10, .iconst 0, 1), (11, .istore 7, 2), (13, .iload 7, 2), (15, .aload_n 0, 1), (16, .getfield 79, 3), (19, .if_icmp .ge 85, 3), (22, .aload_n 0, 1), (23, .getfield 50, 3), (26, .iload 7, 2), (28, .iaload, 1), (29, .iconst 4, 1), (30, .if_icmp .lt 18, 3), (33, .aload_n 0, 1), (34, .getfield 50, 3), (37, .iload 7, 2), (39, .iaload, 1), (40, .bipush 8, 2)]
set_option maxRecDepth 20000 in
theorem dn_83_0_0_ok : dn_83_0_0.all (fun q => decide (decode (xm_b n_83) q.1 = .ok (q.2.1, q.2.2))) = true := xa_g_ok (by decide +kernel)
def dn_83_0_1 : List (Nat × Instr × Nat) := [(42, .if_icmp .eq 6, 3), (45, .goto 53, 3), (48, .aload_n 0, 1), (49, .iload 7, 2), (51, .invokevirtual 93, 3), (54, .iload_n 1, 1), (55, .isub, 1), (56, .aload_n 0, 1), (57, .iload 7, 2), (59, .invokevirtual 96, 3), (62, .iload_n 2, 1), (63, .isub, 1), (64, .invokestatic 99, 3), (67, .lstore 8, 2), (69, .lload 8, 2), (71, .lload 5, 2), (73, .lcmp, 1), (74, .ifCond .lt 16, 3), (77, .lload 8, 2), (79, .lload 5, 2), (81, .lcmp, 1), (82, .ifCond .ne 16, 3), (85, .iload 4, 2), (87, .ifCond .ge 11, 3), (90, .iload 7, 2)]
set_option maxRecDepth 20000 in
theorem dn_83_0_1_ok : dn_83_0_1.all (fun q => decide (decode (xm_b n_83) q.1 = .ok (q.2.1, q.2.2))) = true := xa_g_ok (by decide +kernel)
def dn_83_0_2 : List (Nat × Instr × Nat) := [(92, .istore 4, 2), (94, .lload 8, 2), (96, .lstore 5, 2), (98, .iinc 7 1, 3), (101, .goto (-88), 3), (104, .iload 4, 2), (106, .ireturn, 1)]
set_option maxRecDepth 20000 in
theorem dn_83_0_2_ok : dn_83_0_2.all (fun q => decide (decode (xm_b n_83) q.1 = .ok (q.2.1, q.2.2))) = true := xa_g_ok (by decide +kernel)
def te_83_0 : Nat → eE := (e_T 19 (e_T 7 (e_T 3 (e_T 0 (e_L 0 (0, ei_push (0, (-1)) 1, 0, 0)) (e_T 1 (e_L 1 (0, ei_stor 4 0 3, 0, 0)) (e_L 3 (0, ei_load 3 0 4, 0, 0)))) (e_T 5 (e_T 4 (e_L 4 (0, ei_un (fun x => (4, x)) 5, 0, 0)) (e_L 5 (0, ei_load 3 0 6, 0, 0))) (e_T 6 (e_L 6 (0, ei_un (fun x => (4, x)) 7, 0, 0)) (e_L 7 (0, ei_binL eG_mul 8, 0, 0))))) (e_T 11 (e_T 8 (e_L 8 (0, ei_stor 5 1 10, 0, 0)) (e_T 10 (e_L 10 (0, ei_push (0, 0) 11, 0, 0)) (e_L 11 (0, ei_stor 7 0 13, 0, 0)))) (e_T 15 (e_T 13 (e_L 13 (0, ei_load 7 0 15, 0, 0)) (e_L 15 (0, ei_load 0 2 16, 0, 0))) (e_T 16 (e_L 16 (0, ei_getf eft elay 4 1 19, 0, 0)) (e_L 19 (0, ei_if2 3 104 22, 0, 0)))))) (e_T 33 (e_T 26 (e_T 22 (e_L 22 (0, ei_load 0 2 23, 0, 0)) (e_T 23 (e_L 23 (0, ei_getf eft elay 4 14 26, 0, 0)) (e_L 26 (0, ei_load 7 0 28, 0, 0)))) (e_T 29 (e_T 28 (e_L 28 (0, ei_ald elay false 29, 0, 0)) (e_L 29 (0, ei_push (0, 4) 30, 0, 0))) (e_T 30 (e_L 30 (0, ei_if2 2 48 33, 0, 0)) (e_L 33 (0, ei_load 0 2 34, 0, 0))))) (e_T 39 (e_T 34 (e_L 34 (0, ei_getf eft elay 4 14 37, 0, 0)) (e_T 37 (e_L 37 (0, ei_load 7 0 39, 0, 0)) (e_L 39 (0, ei_ald elay false 40, 0, 0)))) (e_T 42 (e_T 40 (e_L 40 (0, ei_push (0, 8) 42, 0, 0)) (e_L 42 (0, ei_if2 0 48 45, 0, 0))) (e_T 45 (e_L 45 (0, ei_goto 98, 0, 0)) (e_L 48 (0, ei_load 0 2 49, 0, 0)))))))
set_option maxRecDepth 20000 in
set_option maxHeartbeats 4000000 in
theorem te_83_0_ok : ∀ pc, e_EOq eft cls elay eI n_83 pc (te_83_0 pc) :=
  (e_Tok2
  (e_Tok2
  (e_Tok2
  (e_Tok2
  (e_Lok (ps_iconst_m1 (x_dk dn_83_0_0_ok 0 rfl)))
  (e_Tok2
  (e_Lok (e_st (I := eI) (er_istore (i := 4) (x_dk dn_83_0_0_ok 1 rfl) (by decide +kernel)) nx_stor))
  (e_Lok (ld_iload_n_3 (x_dk dn_83_0_0_ok 2 rfl)))))
  (e_Tok2
  (e_Tok2
  (e_Lok (e_st (I := eI) (er_i2l (x_dk dn_83_0_0_ok 3 rfl)) (nx_un (fun _ => rfl))))
  (e_Lok (ld_iload_n_3 (x_dk dn_83_0_0_ok 4 rfl))))
  (e_Tok2
  (e_Lok (e_st (I := eI) (er_i2l (x_dk dn_83_0_0_ok 5 rfl)) (nx_un (fun _ => rfl))))
  (e_Lok (e_st (I := eI) (er_lmul (x_dk dn_83_0_0_ok 6 rfl)) (nx_binL bG_lmul))))))
  (e_Tok2
  (e_Tok2
  (e_Lok (e_st (I := eI) (er_lstore (i := 5) (x_dk dn_83_0_0_ok 7 rfl) (by decide +kernel)) nx_stor))
  (e_Tok2
  (e_Lok (ps_iconst_0 (x_dk dn_83_0_0_ok 8 rfl)))
  (e_Lok (e_st (I := eI) (er_istore (i := 7) (x_dk dn_83_0_0_ok 9 rfl) (by decide +kernel)) nx_stor))))
  (e_Tok2
  (e_Tok2
  (e_Lok (ld_iload_7 (x_dk dn_83_0_0_ok 10 rfl)))
  (e_Lok (ld_aload_n_0 (x_dk dn_83_0_0_ok 11 rfl))))
  (e_Tok2
  (e_Lok (lk_4_79g ho_83 (x_dk dn_83_0_0_ok 12 rfl)))
  (e_Lok (e_st (I := eI) (er_icmpge (off := 85) (tg := 104) (x_dk dn_83_0_0_ok 13 rfl) (by decide)) nx_if2))))))
  (e_Tok2
  (e_Tok2
  (e_Tok2
  (e_Lok (ld_aload_n_0 (x_dk dn_83_0_0_ok 14 rfl)))
  (e_Tok2
  (e_Lok (lk_4_50g ho_83 (x_dk dn_83_0_0_ok 15 rfl)))
  (e_Lok (ld_iload_7 (x_dk dn_83_0_0_ok 16 rfl)))))
  (e_Tok2
  (e_Tok2
  (e_Lok (sm_iaload (x_dk dn_83_0_0_ok 17 rfl)))
  (e_Lok (ps_iconst_4 (x_dk dn_83_0_0_ok 18 rfl))))
  (e_Tok2
  (e_Lok (e_st (I := eI) (er_icmplt (off := 18) (tg := 48) (x_dk dn_83_0_0_ok 19 rfl) (by decide)) nx_if2))
  (e_Lok (ld_aload_n_0 (x_dk dn_83_0_0_ok 20 rfl))))))
  (e_Tok2
  (e_Tok2
  (e_Lok (lk_4_50g ho_83 (x_dk dn_83_0_0_ok 21 rfl)))
  (e_Tok2
  (e_Lok (ld_iload_7 (x_dk dn_83_0_0_ok 22 rfl)))
  (e_Lok (sm_iaload (x_dk dn_83_0_0_ok 23 rfl)))))
  (e_Tok2
  (e_Tok2
  (e_Lok (ps_bipush_8 (x_dk dn_83_0_0_ok 24 rfl)))
  (e_Lok (e_st (I := eI) (er_icmpeq (off := 6) (tg := 48) (x_dk dn_83_0_1_ok 0 rfl) (by decide)) nx_if2)))
  (e_Tok2
  (e_Lok (e_st (I := eI) (er_goto (off := 53) (tg := 98) (x_dk dn_83_0_1_ok 1 rfl) (by decide)) nx_goto))
  (e_Lok (ld_aload_n_0 (x_dk dn_83_0_1_ok 2 rfl))))))))
def te_83_28 : Nat → eE := (e_T 73 (e_T 59 (e_T 54 (e_T 49 (e_L 49 (0, ei_load 7 0 51, 0, 0)) (e_T 51 (e_L 51 (2, e_nof, 81, 2)) (e_L 54 (0, ei_load 1 0 55, 0, 0)))) (e_T 56 (e_T 55 (e_L 55 (0, ei_bin eF_sub 56, 0, 0)) (e_L 56 (0, ei_load 0 2 57, 0, 0))) (e_T 57 (e_L 57 (0, ei_load 7 0 59, 0, 0)) (e_L 59 (2, e_nof, 82, 2))))) (e_T 64 (e_T 62 (e_L 62 (0, ei_load 2 0 63, 0, 0)) (e_T 63 (e_L 63 (0, ei_bin eF_sub 64, 0, 0)) (e_L 64 (2, e_nof, 178, 2)))) (e_T 69 (e_T 67 (e_L 67 (0, ei_stor 8 1 69, 0, 0)) (e_L 69 (0, ei_load 8 1 71, 0, 0))) (e_T 71 (e_L 71 (0, ei_load 5 1 73, 0, 0)) (e_L 73 (0, ei_binL eG_cmp 74, 0, 0)))))) (e_T 87 (e_T 79 (e_T 74 (e_L 74 (0, ei_if1 2 90 77, 0, 0)) (e_T 77 (e_L 77 (0, ei_load 8 1 79, 0, 0)) (e_L 79 (0, ei_load 5 1 81, 0, 0)))) (e_T 82 (e_T 81 (e_L 81 (0, ei_binL eG_cmp 82, 0, 0)) (e_L 82 (0, ei_if1 1 98 85, 0, 0))) (e_T 85 (e_L 85 (0, ei_load 4 0 87, 0, 0)) (e_L 87 (0, ei_if1 3 98 90, 0, 0))))) (e_T 96 (e_T 92 (e_T 90 (e_L 90 (0, ei_load 7 0 92, 0, 0)) (e_L 92 (0, ei_stor 4 0 94, 0, 0))) (e_T 94 (e_L 94 (0, ei_load 8 1 96, 0, 0)) (e_L 96 (0, ei_stor 5 1 98, 0, 0)))) (e_T 101 (e_T 98 (e_L 98 (0, ei_inc 7 1 101, 0, 0)) (e_L 101 (0, ei_goto 13, 0, 0))) (e_T 104 (e_L 104 (0, ei_load 4 0 106, 0, 0)) (e_L 106 (1, e_nof, 1, 0)))))))
set_option maxRecDepth 20000 in
set_option maxHeartbeats 4000000 in
theorem te_83_28_ok : ∀ pc, e_EOq eft cls elay eI n_83 pc (te_83_28 pc) :=
  (e_Tok2
  (e_Tok2
  (e_Tok2
  (e_Tok2
  (e_Lok (ld_iload_7 (x_dk dn_83_0_1_ok 3 rfl)))
  (e_Tok2
  (e_Lok (lk_4_93 ho_83 (x_dk dn_83_0_1_ok 4 rfl)))
  (e_Lok (ld_iload_n_1 (x_dk dn_83_0_1_ok 5 rfl)))))
  (e_Tok2
  (e_Tok2
  (e_Lok (sm_isub (x_dk dn_83_0_1_ok 6 rfl)))
  (e_Lok (ld_aload_n_0 (x_dk dn_83_0_1_ok 7 rfl))))
  (e_Tok2
  (e_Lok (ld_iload_7 (x_dk dn_83_0_1_ok 8 rfl)))
  (e_Lok (lk_4_96 ho_83 (x_dk dn_83_0_1_ok 9 rfl))))))
  (e_Tok2
  (e_Tok2
  (e_Lok (ld_iload_n_2 (x_dk dn_83_0_1_ok 10 rfl)))
  (e_Tok2
  (e_Lok (sm_isub (x_dk dn_83_0_1_ok 11 rfl)))
  (e_Lok (lk_4_99 ho_83 (x_dk dn_83_0_1_ok 12 rfl)))))
  (e_Tok2
  (e_Tok2
  (e_Lok (e_st (I := eI) (er_lstore (i := 8) (x_dk dn_83_0_1_ok 13 rfl) (by decide +kernel)) nx_stor))
  (e_Lok (ld_lload_8 (x_dk dn_83_0_1_ok 14 rfl))))
  (e_Tok2
  (e_Lok (ld_lload_5 (x_dk dn_83_0_1_ok 15 rfl)))
  (e_Lok (e_st (I := eI) (er_lcmp (x_dk dn_83_0_1_ok 16 rfl)) (nx_binL bG_lcmp)))))))
  (e_Tok2
  (e_Tok2
  (e_Tok2
  (e_Lok (e_st (I := eI) (er_iflt (off := 16) (tg := 90) (x_dk dn_83_0_1_ok 17 rfl) (by decide)) nx_if1))
  (e_Tok2
  (e_Lok (ld_lload_8 (x_dk dn_83_0_1_ok 18 rfl)))
  (e_Lok (ld_lload_5 (x_dk dn_83_0_1_ok 19 rfl)))))
  (e_Tok2
  (e_Tok2
  (e_Lok (e_st (I := eI) (er_lcmp (x_dk dn_83_0_1_ok 20 rfl)) (nx_binL bG_lcmp)))
  (e_Lok (e_st (I := eI) (er_ifne (off := 16) (tg := 98) (x_dk dn_83_0_1_ok 21 rfl) (by decide)) nx_if1)))
  (e_Tok2
  (e_Lok (ld_iload_4 (x_dk dn_83_0_1_ok 22 rfl)))
  (e_Lok (e_st (I := eI) (er_ifge (off := 11) (tg := 98) (x_dk dn_83_0_1_ok 23 rfl) (by decide)) nx_if1)))))
  (e_Tok2
  (e_Tok2
  (e_Tok2
  (e_Lok (ld_iload_7 (x_dk dn_83_0_1_ok 24 rfl)))
  (e_Lok (e_st (I := eI) (er_istore (i := 4) (x_dk dn_83_0_2_ok 0 rfl) (by decide +kernel)) nx_stor)))
  (e_Tok2
  (e_Lok (ld_lload_8 (x_dk dn_83_0_2_ok 1 rfl)))
  (e_Lok (e_st (I := eI) (er_lstore (i := 5) (x_dk dn_83_0_2_ok 2 rfl) (by decide +kernel)) nx_stor))))
  (e_Tok2
  (e_Tok2
  (e_Lok (e_st (I := eI) (er_iinc (i := 7) (n := 1) (x_dk dn_83_0_2_ok 3 rfl) (by decide +kernel) (by decide)) nx_inc))
  (e_Lok (e_st (I := eI) (er_goto (off := (-88)) (tg := 13) (x_dk dn_83_0_2_ok 4 rfl) (by decide)) nx_goto)))
  (e_Tok2
  (e_Lok (ld_iload_4 (x_dk dn_83_0_2_ok 5 rfl)))
  (e_Lok (e_rt (I := eI) (k := 1) ⟨(x_dk dn_83_0_2_ok 6 rfl), rfl⟩)))))))
def te_83 : Nat → eE := (e_T 48 te_83_0 te_83_28)
theorem te_83_ok : ∀ pc, e_EOq eft cls elay eI n_83 pc (te_83 pc) := (e_Tok2 (te_83_0_ok) (te_83_28_ok))
end
